/-! AB: states and operations -/
def ab_l (ρ : List Int32) (L : List (Nat × ab_A)) (CL : List (Nat × Value)) : Prop := ∀ q ∈ L, ∃ v, cm_look CL q.1 = some v ∧ ab_v ρ q.2 v
def ab_s (ρ : List Int32) : List ab_A → List Value → Prop
  | [], [] => True
  | a :: st, v :: sc => ab_v ρ a v ∧ ab_s ρ st sc
  | _, _ => False
theorem ab_l_ap {ρ ext : List Int32} {L : List (Nat × ab_A)} {CL : List (Nat × Value)} (h : ab_l ρ L CL) : ab_l (ρ ++ ext) L CL := fun q hq => by
  obtain ⟨v, h1, h2⟩ := h q hq
  exact ⟨v, h1, ab_v_ap h2⟩
theorem ab_s_ap {ρ ext : List Int32} : ∀ {st : List ab_A} {sc : List Value}, ab_s ρ st sc → ab_s (ρ ++ ext) st sc
  | [], [], _ => trivial
  | [], _ :: _, h => h.elim
  | _ :: _, [], h => h.elim
  | _ :: _, _ :: _, h => ⟨ab_v_ap h.1, ab_s_ap h.2⟩
theorem ab_s_cons {ρ : List Int32} {a : ab_A} {st : List ab_A} {sc : List Value} (h : ab_s ρ (a :: st) sc) : ∃ v sc', sc = v :: sc' ∧ ab_v ρ a v ∧ ab_s ρ st sc' := by
  cases sc with
  | nil => exact h.elim
  | cons v sc' => exact ⟨v, sc', rfl, h.1, h.2⟩
theorem ab_s_nil {ρ : List Int32} {sc : List Value} (h : ab_s ρ [] sc) : sc = [] := by
  cases sc with
  | nil => rfl
  | cons v sc' => exact h.elim
def ab_G (h : ab_H) (N : cm_M → Prop) (M0 : cm_M) (md : ab_Md) (ρ : List Int32) (S : ab_S) (C : cm_S) : Prop := C.1 = S.1 ∧ ab_l ρ S.2.1 C.2.1 ∧ ab_s ρ S.2.2.1 C.2.2.1 ∧ ab_k ρ S.2.2.2.1 ∧ ab_m h N M0 md ρ S.2.2.2.2 C.2.2.2
abbrev ab_O : Type := ab_H → ab_Md → ev_P → ev_T → ab_S → Option (List ab_S)
def ab_Snd (o : cm_O) (a : ab_O) : Prop := ∀ (h : ab_H) (N : cm_M → Prop) (M0 : cm_M) (md : ab_Md) (E : cm_E) (P : ev_P) (t : ev_T) (S : ab_S) (Ss : List ab_S) (C : cm_S) (ρ : List Int32) (k : cm_S → Prop), ab_NP h N → a h md P t S = some Ss → ab_G h N M0 md ρ S C → (∀ S' ∈ Ss, ∀ (ext : List Int32) (C' : cm_S), ab_G h N M0 md (ρ ++ ext) S' C' → k C') → o.2 E P t C k
/-- nothing new -/
theorem ab_nil {α : Type} (l : List α) : l ++ [] = l := List.append_nil l
def ab_adv (S : ab_S) (n : Nat) (st : List ab_A) : ab_S := (S.1 + n, S.2.1, st, S.2.2.2)
def ab_advK (S : ab_S) (n : Nat) (st : List ab_A) (K : ab_K) : ab_S := (S.1 + n, S.2.1, st, K, S.2.2.2.2)
def ab_no : ab_O := fun _ _ _ _ _ => none
theorem ab_no_ok (o : cm_O) : ab_Snd o ab_no := fun h N M0 md E P t S Ss C ρ k hN h1 => by cases h1
section ABO
variable {h : ab_H} {N : cm_M → Prop} {M0 : cm_M} {md : ab_Md} {ρ : List Int32} {k : cm_S → Prop} {pc : Nat} {L : List (Nat × ab_A)} {st : List ab_A} {K : ab_K} {Ca : ab_Ca} {CL : List (Nat × Value)} {M : cm_M}
/-- a new value on the stack -/
theorem ab_fin {Ss : List ab_S} (hk : ∀ S' ∈ Ss, ∀ (ext : List Int32) (C' : cm_S), ab_G h N M0 md (ρ ++ ext) S' C' → k C') (S1 : ab_S) (hS : S1 ∈ Ss) (C1 : cm_S) (hG : ab_G h N M0 md ρ S1 C1) : k C1 := hk S1 hS [] C1 (by rw [ab_nil]; exact hG)
end ABO
theorem ab_look_fl {f : Nat × Value → Bool} : ∀ {CL : List (Nat × Value)} {j : Nat} {v : Value}, cm_look CL j = some v → f (j, v) = true → cm_look (CL.filter f) j = some v
  | [], j, v, h, _ => by cases h
  | q :: CL, j, v, h, hf => by
    unfold cm_look at h
    rw [List.filter_cons]
    split at h
    · rename_i e
      cases h
      have eq : q = (j, q.2) := Prod.ext e rfl
      rw [← eq] at hf
      rw [if_pos hf]
      unfold cm_look
      rw [if_pos e]
    · rename_i e
      have ih := ab_look_fl h hf
      split
      · unfold cm_look
        rw [if_neg e]
        exact ih
      · exact ih
def ab_st1 (L : List (Nat × ab_A)) (i : Nat) (a : ab_A) : List (Nat × ab_A) := (i, a) :: L.filter (fun q => !(q.1 == i) && !(q.1 + 1 == i && q.2.1 == 6))
def ab_st2 (L : List (Nat × ab_A)) (i : Nat) (a : ab_A) : List (Nat × ab_A) := (i, a) :: L.filter (fun q => !(q.1 == i) && (!(q.1 == i + 1) && !(q.1 + 1 == i && q.2.1 == 6)))
theorem ab_cat6 {ρ : List Int32} {a : ab_A} {v : Value} (hv : ab_v ρ a v) : (v.category == 2) = (a.1 == 6) := by
  rcases ab_cat hv with ⟨h1, h2⟩ | ⟨h1, h2⟩
  · rw [h1, h2]; rfl
  · rw [h2]
    have : (a.1 == 6) = false := by simpa using h1
    rw [this]
    rfl
theorem ab_st1_ok {ρ : List Int32} {L : List (Nat × ab_A)} {CL : List (Nat × Value)} {i : Nat} {a : ab_A} {v : Value} (h : ab_l ρ L CL) (hv : ab_v ρ a v) : ab_l ρ (ab_st1 L i a) (cm_st1 CL i v) := by
  intro q hq
  rcases List.mem_cons.mp hq with rfl | hq
  · exact ⟨v, by unfold cm_st1 cm_look; rw [if_pos rfl], hv⟩
  · obtain ⟨q1, q2⟩ := List.mem_filter.mp hq
    obtain ⟨x, a1, a2⟩ := h q q1
    refine ⟨x, ?_, a2⟩
    rw [← ab_cat6 a2] at q2
    unfold cm_st1 cm_look
    have hne : ¬ i = q.1 := by
      intro e
      rw [e] at q2
      simp at q2
    rw [if_neg hne]
    exact ab_look_fl a1 q2
theorem ab_st2_ok {ρ : List Int32} {L : List (Nat × ab_A)} {CL : List (Nat × Value)} {i : Nat} {a : ab_A} {v : Value} (h : ab_l ρ L CL) (hv : ab_v ρ a v) : ab_l ρ (ab_st2 L i a) (cm_st2 CL i v) := by
  intro q hq
  rcases List.mem_cons.mp hq with rfl | hq
  · exact ⟨v, by unfold cm_st2 cm_look; rw [if_pos rfl], hv⟩
  · obtain ⟨q1, q2⟩ := List.mem_filter.mp hq
    obtain ⟨x, a1, a2⟩ := h q q1
    refine ⟨x, ?_, a2⟩
    rw [← ab_cat6 a2] at q2
    unfold cm_st2 cm_look
    have hne : ¬ i = q.1 := by
      intro e
      rw [e] at q2
      simp at q2
    rw [if_neg hne]
    exact ab_look_fl a1 q2
def ab_iconst : ab_O := fun h md P t S => some [ab_adv S 1 (ab_c (Int32.ofInt t.1).toInt :: S.2.2.1)]
theorem ab_iconst_ok : ab_Snd cm_iconst ab_iconst := by
  intro h N M0 md E P t S Ss C ρ k hN h1 hG hk
  obtain ⟨pc, L, st, K, Ca⟩ := S
  obtain ⟨cpc, CL, sc, M⟩ := C
  obtain ⟨e0, gl, gs, gk, gm⟩ := hG
  dsimp only at e0 gl gs gk gm
  subst e0
  cases h1
  exact ab_fin hk _ (List.mem_singleton.mpr rfl) (cpc + 1, CL, .int (Int32.ofInt t.1) :: sc, M) ⟨rfl, gl, ⟨ab_iv (ab_c_at ρ _), gs⟩, gk, gm⟩

def ab_bipush : ab_O := fun h md P t S => some [ab_adv S 2 (ab_c ((Int8.ofInt t.1).toInt32).toInt :: S.2.2.1)]
theorem ab_bipush_ok : ab_Snd cm_bipush ab_bipush := by
  intro h N M0 md E P t S Ss C ρ k hN h1 hG hk
  obtain ⟨pc, L, st, K, Ca⟩ := S
  obtain ⟨cpc, CL, sc, M⟩ := C
  obtain ⟨e0, gl, gs, gk, gm⟩ := hG
  dsimp only at e0 gl gs gk gm
  subst e0
  cases h1
  exact ab_fin hk _ (List.mem_singleton.mpr rfl) (cpc + 2, CL, .int ((Int8.ofInt t.1).toInt32) :: sc, M) ⟨rfl, gl, ⟨ab_iv (ab_c_at ρ _), gs⟩, gk, gm⟩

def ab_sipush : ab_O := fun h md P t S => some [ab_adv S 3 (ab_c ((Int16.ofInt t.1).toInt32).toInt :: S.2.2.1)]
theorem ab_sipush_ok : ab_Snd cm_sipush ab_sipush := by
  intro h N M0 md E P t S Ss C ρ k hN h1 hG hk
  obtain ⟨pc, L, st, K, Ca⟩ := S
  obtain ⟨cpc, CL, sc, M⟩ := C
  obtain ⟨e0, gl, gs, gk, gm⟩ := hG
  dsimp only at e0 gl gs gk gm
  subst e0
  cases h1
  exact ab_fin hk _ (List.mem_singleton.mpr rfl) (cpc + 3, CL, .int ((Int16.ofInt t.1).toInt32) :: sc, M) ⟨rfl, gl, ⟨ab_iv (ab_c_at ρ _), gs⟩, gk, gm⟩

def ab_ldc : ab_O := fun h md P t S => some [ab_adv S 2 (ab_c (Int32.ofInt t.1).toInt :: S.2.2.1)]
theorem ab_ldc_ok : ab_Snd cm_ldc ab_ldc := by
  intro h N M0 md E P t S Ss C ρ k hN h1 hG hk
  obtain ⟨pc, L, st, K, Ca⟩ := S
  obtain ⟨cpc, CL, sc, M⟩ := C
  obtain ⟨e0, gl, gs, gk, gm⟩ := hG
  dsimp only at e0 gl gs gk gm
  subst e0
  cases h1
  exact ab_fin hk _ (List.mem_singleton.mpr rfl) (cpc + 2, CL, .int (Int32.ofInt t.1) :: sc, M) ⟨rfl, gl, ⟨ab_iv (ab_c_at ρ _), gs⟩, gk, gm⟩

def ab_ldcw : ab_O := fun h md P t S => some [ab_adv S 3 (ab_c (Int32.ofInt t.1).toInt :: S.2.2.1)]
theorem ab_ldcw_ok : ab_Snd cm_ldcw ab_ldcw := by
  intro h N M0 md E P t S Ss C ρ k hN h1 hG hk
  obtain ⟨pc, L, st, K, Ca⟩ := S
  obtain ⟨cpc, CL, sc, M⟩ := C
  obtain ⟨e0, gl, gs, gk, gm⟩ := hG
  dsimp only at e0 gl gs gk gm
  subst e0
  cases h1
  exact ab_fin hk _ (List.mem_singleton.mpr rfl) (cpc + 3, CL, .int (Int32.ofInt t.1) :: sc, M) ⟨rfl, gl, ⟨ab_iv (ab_c_at ρ _), gs⟩, gk, gm⟩

def ab_lconst : ab_O := fun h md P t S => some [ab_adv S 1 ((6, 0, []) :: S.2.2.1)]
theorem ab_lconst_ok : ab_Snd cm_lconst ab_lconst := by
  intro h N M0 md E P t S Ss C ρ k hN h1 hG hk
  obtain ⟨pc, L, st, K, Ca⟩ := S
  obtain ⟨cpc, CL, sc, M⟩ := C
  obtain ⟨e0, gl, gs, gk, gm⟩ := hG
  dsimp only at e0 gl gs gk gm
  subst e0
  cases h1
  exact ab_fin hk _ (List.mem_singleton.mpr rfl) (cpc + 1, CL, .long (Int64.ofNat t.1.toNat) :: sc, M) ⟨rfl, gl, ⟨⟨_, rfl⟩, gs⟩, gk, gm⟩

def ab_ldc2 : ab_O := fun h md P t S => some [ab_adv S 3 ((6, 0, []) :: S.2.2.1)]
theorem ab_ldc2_ok : ab_Snd cm_ldc2 ab_ldc2 := by
  intro h N M0 md E P t S Ss C ρ k hN h1 hG hk
  obtain ⟨pc, L, st, K, Ca⟩ := S
  obtain ⟨cpc, CL, sc, M⟩ := C
  obtain ⟨e0, gl, gs, gk, gm⟩ := hG
  dsimp only at e0 gl gs gk gm
  subst e0
  cases h1
  exact ab_fin hk _ (List.mem_singleton.mpr rfl) (cpc + 3, CL, .long (Int64.ofInt t.1) :: sc, M) ⟨rfl, gl, ⟨⟨_, rfl⟩, gs⟩, gk, gm⟩

def ab_ldcS : ab_O := fun h md P t S => some [ab_adv S 2 ((1, 0, [1001 + 2 * t.1.toNat]) :: S.2.2.1)]
theorem ab_ldcS_ok : ab_Snd cm_ldcS ab_ldcS := by
  intro h N M0 md E P t S Ss C ρ k hN h1 hG hk
  obtain ⟨pc, L, st, K, Ca⟩ := S
  obtain ⟨cpc, CL, sc, M⟩ := C
  obtain ⟨e0, gl, gs, gk, gm⟩ := hG
  dsimp only at e0 gl gs gk gm
  subst e0
  cases h1
  exact ab_fin hk _ (List.mem_singleton.mpr rfl) (cpc + 2, CL, .ref (1001 + 2 * t.1.toNat) :: sc, M) ⟨rfl, gl, ⟨⟨_, List.mem_singleton.mpr rfl, rfl⟩, gs⟩, gk, gm⟩

def ab_getT : ab_O := fun h md P t S => some [ab_adv S 3 ((1, 0, [1100]) :: S.2.2.1)]
theorem ab_getT_ok : ab_Snd cm_getT ab_getT := by
  intro h N M0 md E P t S Ss C ρ k hN h1 hG hk
  obtain ⟨pc, L, st, K, Ca⟩ := S
  obtain ⟨cpc, CL, sc, M⟩ := C
  obtain ⟨e0, gl, gs, gk, gm⟩ := hG
  dsimp only at e0 gl gs gk gm
  subst e0
  cases h1
  exact ab_fin hk _ (List.mem_singleton.mpr rfl) (cpc + 3, CL, .ref 1100 :: sc, M) ⟨rfl, gl, ⟨⟨_, List.mem_singleton.mpr rfl, rfl⟩, gs⟩, gk, gm⟩

def ab_gets : ab_O := fun h md P t S => some [ab_adv S 3 (ab_c 1 :: S.2.2.1)]
theorem ab_gets_ok : ab_Snd cm_gets ab_gets := by
  intro h N M0 md E P t S Ss C ρ k hN h1 hG hk
  obtain ⟨pc, L, st, K, Ca⟩ := S
  obtain ⟨cpc, CL, sc, M⟩ := C
  obtain ⟨e0, gl, gs, gk, gm⟩ := hG
  dsimp only at e0 gl gs gk gm
  subst e0
  cases h1
  exact ab_fin hk _ (List.mem_singleton.mpr rfl) (cpc + 3, CL, .int 1 :: sc, M) ⟨rfl, gl, ⟨rfl, gs⟩, gk, gm⟩

def ab_getsF : ab_O := fun h md P t S => some [ab_adv S 3 ((7, 0, [1101]) :: S.2.2.1)]
theorem ab_getsF_ok : ab_Snd cm_getsF ab_getsF := by
  intro h N M0 md E P t S Ss C ρ k hN h1 hG hk
  obtain ⟨pc, L, st, K, Ca⟩ := S
  obtain ⟨cpc, CL, sc, M⟩ := C
  obtain ⟨e0, gl, gs, gk, gm⟩ := hG
  dsimp only at e0 gl gs gk gm
  subst e0
  cases h1
  exact ⟨ab_fin hk _ (List.mem_singleton.mpr rfl) (cpc + 3, CL, .null :: sc, M) ⟨rfl, gl, ⟨Or.inl rfl, gs⟩, gk, gm⟩, ab_fin hk _ (List.mem_singleton.mpr rfl) (cpc + 3, CL, .ref 1101 :: sc, M) ⟨rfl, gl, ⟨Or.inr ⟨_, List.mem_singleton.mpr rfl, rfl⟩, gs⟩, gk, gm⟩⟩

theorem ab_v6 {ρ : List Int32} {a : ab_A} {v : Value} (h : a.1 = 6) (hv : ab_v ρ a v) : ∃ x, v = .long x := by
  unfold ab_v at hv
  rw [h] at hv
  exact hv
theorem ab_v1 {ρ : List Int32} {a : ab_A} {v : Value} (h : a.1 = 1) (hv : ab_v ρ a v) : ∃ c, c ∈ a.2.2 ∧ v = .ref c := by
  unfold ab_v at hv
  rw [h] at hv
  exact hv
def ab_iload : ab_O := fun h md P t S => match ev_at S.2.1 t.1.toNat with
  | some a => if ab_isI a = true then some [ab_adv S 2 (a :: S.2.2.1)] else none
  | none => none
theorem ab_iload_ok : ab_Snd cm_iload ab_iload := by
  intro h N M0 md E P t S Ss C ρ k hN h1 hG hk
  obtain ⟨pc, L, st, K, Ca⟩ := S
  obtain ⟨cpc, CL, sc, M⟩ := C
  obtain ⟨e0, gl, gs, gk, gm⟩ := hG
  dsimp only at e0 gl gs gk gm
  subst e0
  unfold ab_iload at h1
  dsimp only at h1
  split at h1
  · rename_i a ha
    split at h1
    · rename_i hc
      cases h1
      obtain ⟨v, hl, hv⟩ := gl _ (ev_at_mem ha)
      have hv0 := hv
      obtain ⟨x, hx, rfl⟩ := ab_vi hc hv
      unfold cm_iload cm_ld
      dsimp only at hl ⊢
      rw [hl]
      exact ab_fin hk _ (List.mem_singleton.mpr rfl) (cpc + 2, CL, _ :: sc, M) ⟨rfl, gl, ⟨hv0, gs⟩, gk, gm⟩
    · cases h1
  · cases h1

def ab_istore : ab_O := fun h md P t S => match S.2.2.1 with
  | a :: st => if ab_isI a = true ∧ t.1.toNat < P.2.2.2.2.1 then some [(S.1 + 2, ab_st1 S.2.1 t.1.toNat a, st, S.2.2.2)] else none
  | [] => none
theorem ab_istore_ok : ab_Snd cm_istore ab_istore := by
  intro h N M0 md E P t S Ss C ρ k hN h1 hG hk
  obtain ⟨pc, L, st, K, Ca⟩ := S
  obtain ⟨cpc, CL, sc, M⟩ := C
  obtain ⟨e0, gl, gs, gk, gm⟩ := hG
  dsimp only at e0 gl gs gk gm
  subst e0
  unfold ab_istore at h1
  dsimp only at h1
  split at h1
  · rename_i a st'
    split at h1
    · rename_i hc0
      obtain ⟨hc, hn⟩ := hc0
      cases h1
      obtain ⟨v, sc', rfl, hv, gs'⟩ := ab_s_cons gs
      have hv0 := hv
      obtain ⟨x, hx, rfl⟩ := ab_vi hc hv
      exact ⟨hn, ab_fin hk _ (List.mem_singleton.mpr rfl) (cpc + 2, cm_st1 CL t.1.toNat _, sc', M) ⟨rfl, ab_st1_ok gl hv0, gs', gk, gm⟩⟩
    · cases h1
  · cases h1

def ab_iloadn : ab_O := fun h md P t S => match ev_at S.2.1 t.1.toNat with
  | some a => if ab_isI a = true then some [ab_adv S 1 (a :: S.2.2.1)] else none
  | none => none
theorem ab_iloadn_ok : ab_Snd cm_iloadn ab_iloadn := by
  intro h N M0 md E P t S Ss C ρ k hN h1 hG hk
  obtain ⟨pc, L, st, K, Ca⟩ := S
  obtain ⟨cpc, CL, sc, M⟩ := C
  obtain ⟨e0, gl, gs, gk, gm⟩ := hG
  dsimp only at e0 gl gs gk gm
  subst e0
  unfold ab_iloadn at h1
  dsimp only at h1
  split at h1
  · rename_i a ha
    split at h1
    · rename_i hc
      cases h1
      obtain ⟨v, hl, hv⟩ := gl _ (ev_at_mem ha)
      have hv0 := hv
      obtain ⟨x, hx, rfl⟩ := ab_vi hc hv
      unfold cm_iloadn cm_ld
      dsimp only at hl ⊢
      rw [hl]
      exact ab_fin hk _ (List.mem_singleton.mpr rfl) (cpc + 1, CL, _ :: sc, M) ⟨rfl, gl, ⟨hv0, gs⟩, gk, gm⟩
    · cases h1
  · cases h1

def ab_istoren : ab_O := fun h md P t S => match S.2.2.1 with
  | a :: st => if ab_isI a = true ∧ t.1.toNat < P.2.2.2.2.1 then some [(S.1 + 1, ab_st1 S.2.1 t.1.toNat a, st, S.2.2.2)] else none
  | [] => none
theorem ab_istoren_ok : ab_Snd cm_istoren ab_istoren := by
  intro h N M0 md E P t S Ss C ρ k hN h1 hG hk
  obtain ⟨pc, L, st, K, Ca⟩ := S
  obtain ⟨cpc, CL, sc, M⟩ := C
  obtain ⟨e0, gl, gs, gk, gm⟩ := hG
  dsimp only at e0 gl gs gk gm
  subst e0
  unfold ab_istoren at h1
  dsimp only at h1
  split at h1
  · rename_i a st'
    split at h1
    · rename_i hc0
      obtain ⟨hc, hn⟩ := hc0
      cases h1
      obtain ⟨v, sc', rfl, hv, gs'⟩ := ab_s_cons gs
      have hv0 := hv
      obtain ⟨x, hx, rfl⟩ := ab_vi hc hv
      exact ⟨hn, ab_fin hk _ (List.mem_singleton.mpr rfl) (cpc + 1, cm_st1 CL t.1.toNat _, sc', M) ⟨rfl, ab_st1_ok gl hv0, gs', gk, gm⟩⟩
    · cases h1
  · cases h1

def ab_lload : ab_O := fun h md P t S => match ev_at S.2.1 t.1.toNat with
  | some a => if a.1 = 6 then some [ab_adv S 2 (a :: S.2.2.1)] else none
  | none => none
theorem ab_lload_ok : ab_Snd cm_lload ab_lload := by
  intro h N M0 md E P t S Ss C ρ k hN h1 hG hk
  obtain ⟨pc, L, st, K, Ca⟩ := S
  obtain ⟨cpc, CL, sc, M⟩ := C
  obtain ⟨e0, gl, gs, gk, gm⟩ := hG
  dsimp only at e0 gl gs gk gm
  subst e0
  unfold ab_lload at h1
  dsimp only at h1
  split at h1
  · rename_i a ha
    split at h1
    · rename_i hc
      cases h1
      obtain ⟨v, hl, hv⟩ := gl _ (ev_at_mem ha)
      have hv0 := hv
      obtain ⟨x, rfl⟩ := ab_v6 hc hv
      unfold cm_lload cm_ld
      dsimp only at hl ⊢
      rw [hl]
      exact ab_fin hk _ (List.mem_singleton.mpr rfl) (cpc + 2, CL, _ :: sc, M) ⟨rfl, gl, ⟨hv0, gs⟩, gk, gm⟩
    · cases h1
  · cases h1

def ab_lstore : ab_O := fun h md P t S => match S.2.2.1 with
  | a :: st => if a.1 = 6 ∧ t.1.toNat + 1 < P.2.2.2.2.1 then some [(S.1 + 2, ab_st2 S.2.1 t.1.toNat a, st, S.2.2.2)] else none
  | [] => none
theorem ab_lstore_ok : ab_Snd cm_lstore ab_lstore := by
  intro h N M0 md E P t S Ss C ρ k hN h1 hG hk
  obtain ⟨pc, L, st, K, Ca⟩ := S
  obtain ⟨cpc, CL, sc, M⟩ := C
  obtain ⟨e0, gl, gs, gk, gm⟩ := hG
  dsimp only at e0 gl gs gk gm
  subst e0
  unfold ab_lstore at h1
  dsimp only at h1
  split at h1
  · rename_i a st'
    split at h1
    · rename_i hc0
      obtain ⟨hc, hn⟩ := hc0
      cases h1
      obtain ⟨v, sc', rfl, hv, gs'⟩ := ab_s_cons gs
      have hv0 := hv
      obtain ⟨x, rfl⟩ := ab_v6 hc hv
      exact ⟨hn, ab_fin hk _ (List.mem_singleton.mpr rfl) (cpc + 2, cm_st2 CL t.1.toNat _, sc', M) ⟨rfl, ab_st2_ok gl hv0, gs', gk, gm⟩⟩
    · cases h1
  · cases h1

def ab_lloadn : ab_O := fun h md P t S => match ev_at S.2.1 t.1.toNat with
  | some a => if a.1 = 6 then some [ab_adv S 1 (a :: S.2.2.1)] else none
  | none => none
theorem ab_lloadn_ok : ab_Snd cm_lloadn ab_lloadn := by
  intro h N M0 md E P t S Ss C ρ k hN h1 hG hk
  obtain ⟨pc, L, st, K, Ca⟩ := S
  obtain ⟨cpc, CL, sc, M⟩ := C
  obtain ⟨e0, gl, gs, gk, gm⟩ := hG
  dsimp only at e0 gl gs gk gm
  subst e0
  unfold ab_lloadn at h1
  dsimp only at h1
  split at h1
  · rename_i a ha
    split at h1
    · rename_i hc
      cases h1
      obtain ⟨v, hl, hv⟩ := gl _ (ev_at_mem ha)
      have hv0 := hv
      obtain ⟨x, rfl⟩ := ab_v6 hc hv
      unfold cm_lloadn cm_ld
      dsimp only at hl ⊢
      rw [hl]
      exact ab_fin hk _ (List.mem_singleton.mpr rfl) (cpc + 1, CL, _ :: sc, M) ⟨rfl, gl, ⟨hv0, gs⟩, gk, gm⟩
    · cases h1
  · cases h1

def ab_lstoren : ab_O := fun h md P t S => match S.2.2.1 with
  | a :: st => if a.1 = 6 ∧ t.1.toNat + 1 < P.2.2.2.2.1 then some [(S.1 + 1, ab_st2 S.2.1 t.1.toNat a, st, S.2.2.2)] else none
  | [] => none
theorem ab_lstoren_ok : ab_Snd cm_lstoren ab_lstoren := by
  intro h N M0 md E P t S Ss C ρ k hN h1 hG hk
  obtain ⟨pc, L, st, K, Ca⟩ := S
  obtain ⟨cpc, CL, sc, M⟩ := C
  obtain ⟨e0, gl, gs, gk, gm⟩ := hG
  dsimp only at e0 gl gs gk gm
  subst e0
  unfold ab_lstoren at h1
  dsimp only at h1
  split at h1
  · rename_i a st'
    split at h1
    · rename_i hc0
      obtain ⟨hc, hn⟩ := hc0
      cases h1
      obtain ⟨v, sc', rfl, hv, gs'⟩ := ab_s_cons gs
      have hv0 := hv
      obtain ⟨x, rfl⟩ := ab_v6 hc hv
      exact ⟨hn, ab_fin hk _ (List.mem_singleton.mpr rfl) (cpc + 1, cm_st2 CL t.1.toNat _, sc', M) ⟨rfl, ab_st2_ok gl hv0, gs', gk, gm⟩⟩
    · cases h1
  · cases h1

def ab_aload : ab_O := fun h md P t S => match ev_at S.2.1 t.1.toNat with
  | some a => if a.1 = 1 then some [ab_adv S 2 (a :: S.2.2.1)] else none
  | none => none
theorem ab_aload_ok : ab_Snd cm_aload ab_aload := by
  intro h N M0 md E P t S Ss C ρ k hN h1 hG hk
  obtain ⟨pc, L, st, K, Ca⟩ := S
  obtain ⟨cpc, CL, sc, M⟩ := C
  obtain ⟨e0, gl, gs, gk, gm⟩ := hG
  dsimp only at e0 gl gs gk gm
  subst e0
  unfold ab_aload at h1
  dsimp only at h1
  split at h1
  · rename_i a ha
    split at h1
    · rename_i hc
      cases h1
      obtain ⟨v, hl, hv⟩ := gl _ (ev_at_mem ha)
      have hv0 := hv
      obtain ⟨x, hx, rfl⟩ := ab_v1 hc hv
      unfold cm_aload cm_ld
      dsimp only at hl ⊢
      rw [hl]
      exact ab_fin hk _ (List.mem_singleton.mpr rfl) (cpc + 2, CL, _ :: sc, M) ⟨rfl, gl, ⟨hv0, gs⟩, gk, gm⟩
    · cases h1
  · cases h1

def ab_astore : ab_O := fun h md P t S => match S.2.2.1 with
  | a :: st => if a.1 = 1 ∧ t.1.toNat < P.2.2.2.2.1 then some [(S.1 + 2, ab_st1 S.2.1 t.1.toNat a, st, S.2.2.2)] else none
  | [] => none
theorem ab_astore_ok : ab_Snd cm_astore ab_astore := by
  intro h N M0 md E P t S Ss C ρ k hN h1 hG hk
  obtain ⟨pc, L, st, K, Ca⟩ := S
  obtain ⟨cpc, CL, sc, M⟩ := C
  obtain ⟨e0, gl, gs, gk, gm⟩ := hG
  dsimp only at e0 gl gs gk gm
  subst e0
  unfold ab_astore at h1
  dsimp only at h1
  split at h1
  · rename_i a st'
    split at h1
    · rename_i hc0
      obtain ⟨hc, hn⟩ := hc0
      cases h1
      obtain ⟨v, sc', rfl, hv, gs'⟩ := ab_s_cons gs
      have hv0 := hv
      obtain ⟨x, hx, rfl⟩ := ab_v1 hc hv
      exact ⟨hn, ab_fin hk _ (List.mem_singleton.mpr rfl) (cpc + 2, cm_st1 CL t.1.toNat _, sc', M) ⟨rfl, ab_st1_ok gl hv0, gs', gk, gm⟩⟩
    · cases h1
  · cases h1

def ab_aloadn : ab_O := fun h md P t S => match ev_at S.2.1 t.1.toNat with
  | some a => if a.1 = 1 then some [ab_adv S 1 (a :: S.2.2.1)] else none
  | none => none
theorem ab_aloadn_ok : ab_Snd cm_aloadn ab_aloadn := by
  intro h N M0 md E P t S Ss C ρ k hN h1 hG hk
  obtain ⟨pc, L, st, K, Ca⟩ := S
  obtain ⟨cpc, CL, sc, M⟩ := C
  obtain ⟨e0, gl, gs, gk, gm⟩ := hG
  dsimp only at e0 gl gs gk gm
  subst e0
  unfold ab_aloadn at h1
  dsimp only at h1
  split at h1
  · rename_i a ha
    split at h1
    · rename_i hc
      cases h1
      obtain ⟨v, hl, hv⟩ := gl _ (ev_at_mem ha)
      have hv0 := hv
      obtain ⟨x, hx, rfl⟩ := ab_v1 hc hv
      unfold cm_aloadn cm_ld
      dsimp only at hl ⊢
      rw [hl]
      exact ab_fin hk _ (List.mem_singleton.mpr rfl) (cpc + 1, CL, _ :: sc, M) ⟨rfl, gl, ⟨hv0, gs⟩, gk, gm⟩
    · cases h1
  · cases h1

def ab_astoren : ab_O := fun h md P t S => match S.2.2.1 with
  | a :: st => if a.1 = 1 ∧ t.1.toNat < P.2.2.2.2.1 then some [(S.1 + 1, ab_st1 S.2.1 t.1.toNat a, st, S.2.2.2)] else none
  | [] => none
theorem ab_astoren_ok : ab_Snd cm_astoren ab_astoren := by
  intro h N M0 md E P t S Ss C ρ k hN h1 hG hk
  obtain ⟨pc, L, st, K, Ca⟩ := S
  obtain ⟨cpc, CL, sc, M⟩ := C
  obtain ⟨e0, gl, gs, gk, gm⟩ := hG
  dsimp only at e0 gl gs gk gm
  subst e0
  unfold ab_astoren at h1
  dsimp only at h1
  split at h1
  · rename_i a st'
    split at h1
    · rename_i hc0
      obtain ⟨hc, hn⟩ := hc0
      cases h1
      obtain ⟨v, sc', rfl, hv, gs'⟩ := ab_s_cons gs
      have hv0 := hv
      obtain ⟨x, hx, rfl⟩ := ab_v1 hc hv
      exact ⟨hn, ab_fin hk _ (List.mem_singleton.mpr rfl) (cpc + 1, cm_st1 CL t.1.toNat _, sc', M) ⟨rfl, ab_st1_ok gl hv0, gs', gk, gm⟩⟩
    · cases h1
  · cases h1

def ab_iadd : ab_O := fun h md P t S => match S.2.2.1 with
  | b :: a :: st => if ab_isI a = true ∧ ab_isI b = true then some [ab_advK S 1 ((ab_new S.2.2.2.1 1 a b).1 :: st) (ab_new S.2.2.2.1 1 a b).2] else none
  | _ => none
theorem ab_iadd_ok : ab_Snd cm_iadd ab_iadd := by
  intro h N M0 md E P t S Ss C ρ k hN h1 hG hk
  obtain ⟨pc, L, st, K, Ca⟩ := S
  obtain ⟨cpc, CL, sc, M⟩ := C
  obtain ⟨e0, gl, gs, gk, gm⟩ := hG
  dsimp only at e0 gl gs gk gm
  subst e0
  unfold ab_iadd at h1
  dsimp only at h1
  split at h1
  · rename_i b a st'
    split at h1
    · rename_i hc
      cases h1
      obtain ⟨vb, sc1, rfl, hvb, gs1⟩ := ab_s_cons gs
      obtain ⟨va, sc2, rfl, hva, gs2⟩ := ab_s_cons gs1
      obtain ⟨y, hy, rfl⟩ := ab_vi hc.2 hvb
      obtain ⟨x, hx, rfl⟩ := ab_vi hc.1 hva
      obtain ⟨ext, k1, k2⟩ := ab_new_ok (op := 1) gk hx hy rfl
      have hfin := hk _ (List.mem_singleton.mpr rfl) ext (cpc + 1, CL, .int (ev_f 1 x y) :: sc2, M) ⟨rfl, ab_l_ap gl, ⟨ab_iv k2, ab_s_ap gs2⟩, k1, ab_m_ap gm⟩
      exact hfin
    · cases h1
  · cases h1

def ab_isub : ab_O := fun h md P t S => match S.2.2.1 with
  | b :: a :: st => if ab_isI a = true ∧ ab_isI b = true then some [ab_advK S 1 ((ab_new S.2.2.2.1 2 a b).1 :: st) (ab_new S.2.2.2.1 2 a b).2] else none
  | _ => none
theorem ab_isub_ok : ab_Snd cm_isub ab_isub := by
  intro h N M0 md E P t S Ss C ρ k hN h1 hG hk
  obtain ⟨pc, L, st, K, Ca⟩ := S
  obtain ⟨cpc, CL, sc, M⟩ := C
  obtain ⟨e0, gl, gs, gk, gm⟩ := hG
  dsimp only at e0 gl gs gk gm
  subst e0
  unfold ab_isub at h1
  dsimp only at h1
  split at h1
  · rename_i b a st'
    split at h1
    · rename_i hc
      cases h1
      obtain ⟨vb, sc1, rfl, hvb, gs1⟩ := ab_s_cons gs
      obtain ⟨va, sc2, rfl, hva, gs2⟩ := ab_s_cons gs1
      obtain ⟨y, hy, rfl⟩ := ab_vi hc.2 hvb
      obtain ⟨x, hx, rfl⟩ := ab_vi hc.1 hva
      obtain ⟨ext, k1, k2⟩ := ab_new_ok (op := 2) gk hx hy rfl
      have hfin := hk _ (List.mem_singleton.mpr rfl) ext (cpc + 1, CL, .int (ev_f 2 x y) :: sc2, M) ⟨rfl, ab_l_ap gl, ⟨ab_iv k2, ab_s_ap gs2⟩, k1, ab_m_ap gm⟩
      exact hfin
    · cases h1
  · cases h1

def ab_imul : ab_O := fun h md P t S => match S.2.2.1 with
  | b :: a :: st => if ab_isI a = true ∧ ab_isI b = true then some [ab_advK S 1 ((ab_new S.2.2.2.1 3 a b).1 :: st) (ab_new S.2.2.2.1 3 a b).2] else none
  | _ => none
theorem ab_imul_ok : ab_Snd cm_imul ab_imul := by
  intro h N M0 md E P t S Ss C ρ k hN h1 hG hk
  obtain ⟨pc, L, st, K, Ca⟩ := S
  obtain ⟨cpc, CL, sc, M⟩ := C
  obtain ⟨e0, gl, gs, gk, gm⟩ := hG
  dsimp only at e0 gl gs gk gm
  subst e0
  unfold ab_imul at h1
  dsimp only at h1
  split at h1
  · rename_i b a st'
    split at h1
    · rename_i hc
      cases h1
      obtain ⟨vb, sc1, rfl, hvb, gs1⟩ := ab_s_cons gs
      obtain ⟨va, sc2, rfl, hva, gs2⟩ := ab_s_cons gs1
      obtain ⟨y, hy, rfl⟩ := ab_vi hc.2 hvb
      obtain ⟨x, hx, rfl⟩ := ab_vi hc.1 hva
      obtain ⟨ext, k1, k2⟩ := ab_new_ok (op := 3) gk hx hy rfl
      have hfin := hk _ (List.mem_singleton.mpr rfl) ext (cpc + 1, CL, .int (ev_f 3 x y) :: sc2, M) ⟨rfl, ab_l_ap gl, ⟨ab_iv k2, ab_s_ap gs2⟩, k1, ab_m_ap gm⟩
      exact hfin
    · cases h1
  · cases h1

def ab_iand : ab_O := fun h md P t S => match S.2.2.1 with
  | b :: a :: st => if ab_isI a = true ∧ ab_isI b = true then some [ab_advK S 1 ((ab_new S.2.2.2.1 4 a b).1 :: st) (ab_new S.2.2.2.1 4 a b).2] else none
  | _ => none
theorem ab_iand_ok : ab_Snd cm_iand ab_iand := by
  intro h N M0 md E P t S Ss C ρ k hN h1 hG hk
  obtain ⟨pc, L, st, K, Ca⟩ := S
  obtain ⟨cpc, CL, sc, M⟩ := C
  obtain ⟨e0, gl, gs, gk, gm⟩ := hG
  dsimp only at e0 gl gs gk gm
  subst e0
  unfold ab_iand at h1
  dsimp only at h1
  split at h1
  · rename_i b a st'
    split at h1
    · rename_i hc
      cases h1
      obtain ⟨vb, sc1, rfl, hvb, gs1⟩ := ab_s_cons gs
      obtain ⟨va, sc2, rfl, hva, gs2⟩ := ab_s_cons gs1
      obtain ⟨y, hy, rfl⟩ := ab_vi hc.2 hvb
      obtain ⟨x, hx, rfl⟩ := ab_vi hc.1 hva
      obtain ⟨ext, k1, k2⟩ := ab_new_ok (op := 4) gk hx hy rfl
      have hfin := hk _ (List.mem_singleton.mpr rfl) ext (cpc + 1, CL, .int (ev_f 4 x y) :: sc2, M) ⟨rfl, ab_l_ap gl, ⟨ab_iv k2, ab_s_ap gs2⟩, k1, ab_m_ap gm⟩
      exact hfin
    · cases h1
  · cases h1

def ab_ior : ab_O := fun h md P t S => match S.2.2.1 with
  | b :: a :: st => if ab_isI a = true ∧ ab_isI b = true then some [ab_advK S 1 ((ab_new S.2.2.2.1 5 a b).1 :: st) (ab_new S.2.2.2.1 5 a b).2] else none
  | _ => none
theorem ab_ior_ok : ab_Snd cm_ior ab_ior := by
  intro h N M0 md E P t S Ss C ρ k hN h1 hG hk
  obtain ⟨pc, L, st, K, Ca⟩ := S
  obtain ⟨cpc, CL, sc, M⟩ := C
  obtain ⟨e0, gl, gs, gk, gm⟩ := hG
  dsimp only at e0 gl gs gk gm
  subst e0
  unfold ab_ior at h1
  dsimp only at h1
  split at h1
  · rename_i b a st'
    split at h1
    · rename_i hc
      cases h1
      obtain ⟨vb, sc1, rfl, hvb, gs1⟩ := ab_s_cons gs
      obtain ⟨va, sc2, rfl, hva, gs2⟩ := ab_s_cons gs1
      obtain ⟨y, hy, rfl⟩ := ab_vi hc.2 hvb
      obtain ⟨x, hx, rfl⟩ := ab_vi hc.1 hva
      obtain ⟨ext, k1, k2⟩ := ab_new_ok (op := 5) gk hx hy rfl
      have hfin := hk _ (List.mem_singleton.mpr rfl) ext (cpc + 1, CL, .int (ev_f 5 x y) :: sc2, M) ⟨rfl, ab_l_ap gl, ⟨ab_iv k2, ab_s_ap gs2⟩, k1, ab_m_ap gm⟩
      exact hfin
    · cases h1
  · cases h1

def ab_ixor : ab_O := fun h md P t S => match S.2.2.1 with
  | b :: a :: st => if ab_isI a = true ∧ ab_isI b = true then some [ab_advK S 1 ((ab_new S.2.2.2.1 6 a b).1 :: st) (ab_new S.2.2.2.1 6 a b).2] else none
  | _ => none
theorem ab_ixor_ok : ab_Snd cm_ixor ab_ixor := by
  intro h N M0 md E P t S Ss C ρ k hN h1 hG hk
  obtain ⟨pc, L, st, K, Ca⟩ := S
  obtain ⟨cpc, CL, sc, M⟩ := C
  obtain ⟨e0, gl, gs, gk, gm⟩ := hG
  dsimp only at e0 gl gs gk gm
  subst e0
  unfold ab_ixor at h1
  dsimp only at h1
  split at h1
  · rename_i b a st'
    split at h1
    · rename_i hc
      cases h1
      obtain ⟨vb, sc1, rfl, hvb, gs1⟩ := ab_s_cons gs
      obtain ⟨va, sc2, rfl, hva, gs2⟩ := ab_s_cons gs1
      obtain ⟨y, hy, rfl⟩ := ab_vi hc.2 hvb
      obtain ⟨x, hx, rfl⟩ := ab_vi hc.1 hva
      obtain ⟨ext, k1, k2⟩ := ab_new_ok (op := 6) gk hx hy rfl
      have hfin := hk _ (List.mem_singleton.mpr rfl) ext (cpc + 1, CL, .int (ev_f 6 x y) :: sc2, M) ⟨rfl, ab_l_ap gl, ⟨ab_iv k2, ab_s_ap gs2⟩, k1, ab_m_ap gm⟩
      exact hfin
    · cases h1
  · cases h1

def ab_ishl : ab_O := fun h md P t S => match S.2.2.1 with
  | b :: a :: st => if ab_isI a = true ∧ ab_isI b = true then some [ab_advK S 1 ((ab_new S.2.2.2.1 7 a b).1 :: st) (ab_new S.2.2.2.1 7 a b).2] else none
  | _ => none
theorem ab_ishl_ok : ab_Snd cm_ishl ab_ishl := by
  intro h N M0 md E P t S Ss C ρ k hN h1 hG hk
  obtain ⟨pc, L, st, K, Ca⟩ := S
  obtain ⟨cpc, CL, sc, M⟩ := C
  obtain ⟨e0, gl, gs, gk, gm⟩ := hG
  dsimp only at e0 gl gs gk gm
  subst e0
  unfold ab_ishl at h1
  dsimp only at h1
  split at h1
  · rename_i b a st'
    split at h1
    · rename_i hc
      cases h1
      obtain ⟨vb, sc1, rfl, hvb, gs1⟩ := ab_s_cons gs
      obtain ⟨va, sc2, rfl, hva, gs2⟩ := ab_s_cons gs1
      obtain ⟨y, hy, rfl⟩ := ab_vi hc.2 hvb
      obtain ⟨x, hx, rfl⟩ := ab_vi hc.1 hva
      obtain ⟨ext, k1, k2⟩ := ab_new_ok (op := 7) gk hx hy rfl
      have hfin := hk _ (List.mem_singleton.mpr rfl) ext (cpc + 1, CL, .int (ev_f 7 x y) :: sc2, M) ⟨rfl, ab_l_ap gl, ⟨ab_iv k2, ab_s_ap gs2⟩, k1, ab_m_ap gm⟩
      exact hfin
    · cases h1
  · cases h1

def ab_ishr : ab_O := fun h md P t S => match S.2.2.1 with
  | b :: a :: st => if ab_isI a = true ∧ ab_isI b = true then some [ab_advK S 1 ((ab_new S.2.2.2.1 8 a b).1 :: st) (ab_new S.2.2.2.1 8 a b).2] else none
  | _ => none
theorem ab_ishr_ok : ab_Snd cm_ishr ab_ishr := by
  intro h N M0 md E P t S Ss C ρ k hN h1 hG hk
  obtain ⟨pc, L, st, K, Ca⟩ := S
  obtain ⟨cpc, CL, sc, M⟩ := C
  obtain ⟨e0, gl, gs, gk, gm⟩ := hG
  dsimp only at e0 gl gs gk gm
  subst e0
  unfold ab_ishr at h1
  dsimp only at h1
  split at h1
  · rename_i b a st'
    split at h1
    · rename_i hc
      cases h1
      obtain ⟨vb, sc1, rfl, hvb, gs1⟩ := ab_s_cons gs
      obtain ⟨va, sc2, rfl, hva, gs2⟩ := ab_s_cons gs1
      obtain ⟨y, hy, rfl⟩ := ab_vi hc.2 hvb
      obtain ⟨x, hx, rfl⟩ := ab_vi hc.1 hva
      obtain ⟨ext, k1, k2⟩ := ab_new_ok (op := 8) gk hx hy rfl
      have hfin := hk _ (List.mem_singleton.mpr rfl) ext (cpc + 1, CL, .int (ev_f 8 x y) :: sc2, M) ⟨rfl, ab_l_ap gl, ⟨ab_iv k2, ab_s_ap gs2⟩, k1, ab_m_ap gm⟩
      exact hfin
    · cases h1
  · cases h1

def ab_iushr : ab_O := fun h md P t S => match S.2.2.1 with
  | b :: a :: st => if ab_isI a = true ∧ ab_isI b = true then some [ab_advK S 1 ((ab_new S.2.2.2.1 9 a b).1 :: st) (ab_new S.2.2.2.1 9 a b).2] else none
  | _ => none
theorem ab_iushr_ok : ab_Snd cm_iushr ab_iushr := by
  intro h N M0 md E P t S Ss C ρ k hN h1 hG hk
  obtain ⟨pc, L, st, K, Ca⟩ := S
  obtain ⟨cpc, CL, sc, M⟩ := C
  obtain ⟨e0, gl, gs, gk, gm⟩ := hG
  dsimp only at e0 gl gs gk gm
  subst e0
  unfold ab_iushr at h1
  dsimp only at h1
  split at h1
  · rename_i b a st'
    split at h1
    · rename_i hc
      cases h1
      obtain ⟨vb, sc1, rfl, hvb, gs1⟩ := ab_s_cons gs
      obtain ⟨va, sc2, rfl, hva, gs2⟩ := ab_s_cons gs1
      obtain ⟨y, hy, rfl⟩ := ab_vi hc.2 hvb
      obtain ⟨x, hx, rfl⟩ := ab_vi hc.1 hva
      obtain ⟨ext, k1, k2⟩ := ab_new_ok (op := 9) gk hx hy rfl
      have hfin := hk _ (List.mem_singleton.mpr rfl) ext (cpc + 1, CL, .int (ev_f 9 x y) :: sc2, M) ⟨rfl, ab_l_ap gl, ⟨ab_iv k2, ab_s_ap gs2⟩, k1, ab_m_ap gm⟩
      exact hfin
    · cases h1
  · cases h1

def ab_idiv : ab_O := fun h md P t S => match S.2.2.1 with
  | b :: a :: st => if ab_isI a = true ∧ ab_isI b = true ∧ (1 ≤ (ab_bd S.2.2.2.1 b).1 ∨ (ab_bd S.2.2.2.1 b).2 ≤ -1) then some [ab_advK S 1 ((ab_new S.2.2.2.1 10 a b).1 :: st) (ab_new S.2.2.2.1 10 a b).2] else none
  | _ => none
theorem ab_idiv_ok : ab_Snd cm_idiv ab_idiv := by
  intro h N M0 md E P t S Ss C ρ k hN h1 hG hk
  obtain ⟨pc, L, st, K, Ca⟩ := S
  obtain ⟨cpc, CL, sc, M⟩ := C
  obtain ⟨e0, gl, gs, gk, gm⟩ := hG
  dsimp only at e0 gl gs gk gm
  subst e0
  unfold ab_idiv at h1
  dsimp only at h1
  split at h1
  · rename_i b a st'
    split at h1
    · rename_i hc
      cases h1
      obtain ⟨vb, sc1, rfl, hvb, gs1⟩ := ab_s_cons gs
      obtain ⟨va, sc2, rfl, hva, gs2⟩ := ab_s_cons gs1
      obtain ⟨y, hy, rfl⟩ := ab_vi hc.2.1 hvb
      obtain ⟨x, hx, rfl⟩ := ab_vi hc.1 hva
      obtain ⟨ext, k1, k2⟩ := ab_new_ok (op := 10) gk hx hy rfl
      have hfin := hk _ (List.mem_singleton.mpr rfl) ext (cpc + 1, CL, .int (ev_f 10 x y) :: sc2, M) ⟨rfl, ab_l_ap gl, ⟨ab_iv k2, ab_s_ap gs2⟩, k1, ab_m_ap gm⟩
      refine ⟨fun e => ?_, hfin⟩
      have hb := ab_bd_in gk hy
      rw [e] at hb
      have h0 : (0 : Int32).toInt = 0 := rfl
      obtain ⟨b1, b2⟩ := hb
      have h3 := hc.2.2
      omega
    · cases h1
  · cases h1

def ab_irem : ab_O := fun h md P t S => match S.2.2.1 with
  | b :: a :: st => if ab_isI a = true ∧ ab_isI b = true ∧ (1 ≤ (ab_bd S.2.2.2.1 b).1 ∨ (ab_bd S.2.2.2.1 b).2 ≤ -1) then some [ab_advK S 1 ((ab_new S.2.2.2.1 11 a b).1 :: st) (ab_new S.2.2.2.1 11 a b).2] else none
  | _ => none
theorem ab_irem_ok : ab_Snd cm_irem ab_irem := by
  intro h N M0 md E P t S Ss C ρ k hN h1 hG hk
  obtain ⟨pc, L, st, K, Ca⟩ := S
  obtain ⟨cpc, CL, sc, M⟩ := C
  obtain ⟨e0, gl, gs, gk, gm⟩ := hG
  dsimp only at e0 gl gs gk gm
  subst e0
  unfold ab_irem at h1
  dsimp only at h1
  split at h1
  · rename_i b a st'
    split at h1
    · rename_i hc
      cases h1
      obtain ⟨vb, sc1, rfl, hvb, gs1⟩ := ab_s_cons gs
      obtain ⟨va, sc2, rfl, hva, gs2⟩ := ab_s_cons gs1
      obtain ⟨y, hy, rfl⟩ := ab_vi hc.2.1 hvb
      obtain ⟨x, hx, rfl⟩ := ab_vi hc.1 hva
      obtain ⟨ext, k1, k2⟩ := ab_new_ok (op := 11) gk hx hy rfl
      have hfin := hk _ (List.mem_singleton.mpr rfl) ext (cpc + 1, CL, .int (ev_f 11 x y) :: sc2, M) ⟨rfl, ab_l_ap gl, ⟨ab_iv k2, ab_s_ap gs2⟩, k1, ab_m_ap gm⟩
      refine ⟨fun e => ?_, hfin⟩
      have hb := ab_bd_in gk hy
      rw [e] at hb
      have h0 : (0 : Int32).toInt = 0 := rfl
      obtain ⟨b1, b2⟩ := hb
      have h3 := hc.2.2
      omega
    · cases h1
  · cases h1

theorem ab_cs_ok {ρ : List Int32} : ∀ {st : List ab_A} {sc : List Value}, ab_s ρ st sc → cm_cs sc = (st.map (fun a => if a.1 = 6 then 2 else 1)).sum
  | [], [], _ => rfl
  | [], _ :: _, h => h.elim
  | _ :: _, [], h => h.elim
  | a :: st, v :: sc, h => by
    have ih := ab_cs_ok h.2
    unfold cm_cs at ih ⊢
    rw [List.map_cons, List.map_cons, List.sum_cons, List.sum_cons, ih]
    rcases ab_cat h.1 with ⟨h1, h2⟩ | ⟨h1, h2⟩
    · rw [h2, if_pos h1]
    · rw [h2, if_neg h1]
def ab_cs (st : List ab_A) : Nat := (st.map (fun a => if a.1 = 6 then 2 else 1)).sum
def ab_mmin : ab_O := fun h md P t S => match S.2.2.1 with
  | b :: a :: st => if ab_isI a = true ∧ ab_isI b = true ∧ ab_cs st ≤ 8 then some [ab_advK S 3 ((ab_new S.2.2.2.1 15 a b).1 :: st) (ab_new S.2.2.2.1 15 a b).2] else none
  | _ => none
theorem ab_mmin_ok : ab_Snd cm_mmin ab_mmin := by
  intro h N M0 md E P t S Ss C ρ k hN h1 hG hk
  obtain ⟨pc, L, st, K, Ca⟩ := S
  obtain ⟨cpc, CL, sc, M⟩ := C
  obtain ⟨e0, gl, gs, gk, gm⟩ := hG
  dsimp only at e0 gl gs gk gm
  subst e0
  unfold ab_mmin at h1
  dsimp only at h1
  split at h1
  · rename_i b a st'
    split at h1
    · rename_i hc
      cases h1
      obtain ⟨vb, sc1, rfl, hvb, gs1⟩ := ab_s_cons gs
      obtain ⟨va, sc2, rfl, hva, gs2⟩ := ab_s_cons gs1
      obtain ⟨y, hy, rfl⟩ := ab_vi hc.2.1 hvb
      obtain ⟨x, hx, rfl⟩ := ab_vi hc.1 hva
      obtain ⟨ext, k1, k2⟩ := ab_new_ok (op := 15) gk hx hy rfl
      have hfin := hk _ (List.mem_singleton.mpr rfl) ext (cpc + 3, CL, .int (ev_f 15 x y) :: sc2, M) ⟨rfl, ab_l_ap gl, ⟨ab_iv k2, ab_s_ap gs2⟩, k1, ab_m_ap gm⟩
      have hcs := ab_cs_ok gs2
      exact ⟨by rw [hcs]; exact hc.2.2, hfin⟩
    · cases h1
  · cases h1

def ab_mmax : ab_O := fun h md P t S => match S.2.2.1 with
  | b :: a :: st => if ab_isI a = true ∧ ab_isI b = true ∧ ab_cs st ≤ 8 then some [ab_advK S 3 ((ab_new S.2.2.2.1 16 a b).1 :: st) (ab_new S.2.2.2.1 16 a b).2] else none
  | _ => none
theorem ab_mmax_ok : ab_Snd cm_mmax ab_mmax := by
  intro h N M0 md E P t S Ss C ρ k hN h1 hG hk
  obtain ⟨pc, L, st, K, Ca⟩ := S
  obtain ⟨cpc, CL, sc, M⟩ := C
  obtain ⟨e0, gl, gs, gk, gm⟩ := hG
  dsimp only at e0 gl gs gk gm
  subst e0
  unfold ab_mmax at h1
  dsimp only at h1
  split at h1
  · rename_i b a st'
    split at h1
    · rename_i hc
      cases h1
      obtain ⟨vb, sc1, rfl, hvb, gs1⟩ := ab_s_cons gs
      obtain ⟨va, sc2, rfl, hva, gs2⟩ := ab_s_cons gs1
      obtain ⟨y, hy, rfl⟩ := ab_vi hc.2.1 hvb
      obtain ⟨x, hx, rfl⟩ := ab_vi hc.1 hva
      obtain ⟨ext, k1, k2⟩ := ab_new_ok (op := 16) gk hx hy rfl
      have hfin := hk _ (List.mem_singleton.mpr rfl) ext (cpc + 3, CL, .int (ev_f 16 x y) :: sc2, M) ⟨rfl, ab_l_ap gl, ⟨ab_iv k2, ab_s_ap gs2⟩, k1, ab_m_ap gm⟩
      have hcs := ab_cs_ok gs2
      exact ⟨by rw [hcs]; exact hc.2.2, hfin⟩
    · cases h1
  · cases h1

def ab_ineg : ab_O := fun h md P t S => match S.2.2.1 with
  | a :: st => if ab_isI a = true then some [ab_advK S 1 ((ab_new S.2.2.2.1 12 a (ab_c 0)).1 :: st) (ab_new S.2.2.2.1 12 a (ab_c 0)).2] else none
  | _ => none
theorem ab_ineg_ok : ab_Snd cm_ineg ab_ineg := by
  intro h N M0 md E P t S Ss C ρ k hN h1 hG hk
  obtain ⟨pc, L, st, K, Ca⟩ := S
  obtain ⟨cpc, CL, sc, M⟩ := C
  obtain ⟨e0, gl, gs, gk, gm⟩ := hG
  dsimp only at e0 gl gs gk gm
  subst e0
  unfold ab_ineg at h1
  dsimp only at h1
  split at h1
  · rename_i a st'
    split at h1
    · rename_i hc
      cases h1
      obtain ⟨va, sc2, rfl, hva, gs2⟩ := ab_s_cons gs
      obtain ⟨x, hx, rfl⟩ := ab_vi hc hva
      obtain ⟨ext, k1, k2⟩ := ab_new_ok (op := 12) (b := ab_c 0) gk hx rfl rfl
      have hfin := hk _ (List.mem_singleton.mpr rfl) ext (cpc + 1, CL, .int (ev_f 12 x (Int32.ofInt 0)) :: sc2, M) ⟨rfl, ab_l_ap gl, ⟨ab_iv k2, ab_s_ap gs2⟩, k1, ab_m_ap gm⟩
      exact hfin
    · cases h1
  · cases h1

def ab_i2b : ab_O := fun h md P t S => match S.2.2.1 with
  | a :: st => if ab_isI a = true then some [ab_advK S 1 ((ab_new S.2.2.2.1 13 a (ab_c 0)).1 :: st) (ab_new S.2.2.2.1 13 a (ab_c 0)).2] else none
  | _ => none
theorem ab_i2b_ok : ab_Snd cm_i2b ab_i2b := by
  intro h N M0 md E P t S Ss C ρ k hN h1 hG hk
  obtain ⟨pc, L, st, K, Ca⟩ := S
  obtain ⟨cpc, CL, sc, M⟩ := C
  obtain ⟨e0, gl, gs, gk, gm⟩ := hG
  dsimp only at e0 gl gs gk gm
  subst e0
  unfold ab_i2b at h1
  dsimp only at h1
  split at h1
  · rename_i a st'
    split at h1
    · rename_i hc
      cases h1
      obtain ⟨va, sc2, rfl, hva, gs2⟩ := ab_s_cons gs
      obtain ⟨x, hx, rfl⟩ := ab_vi hc hva
      obtain ⟨ext, k1, k2⟩ := ab_new_ok (op := 13) (b := ab_c 0) gk hx rfl rfl
      have hfin := hk _ (List.mem_singleton.mpr rfl) ext (cpc + 1, CL, .int (ev_f 13 x (Int32.ofInt 0)) :: sc2, M) ⟨rfl, ab_l_ap gl, ⟨ab_iv k2, ab_s_ap gs2⟩, k1, ab_m_ap gm⟩
      exact hfin
    · cases h1
  · cases h1

def ab_i2c : ab_O := fun h md P t S => match S.2.2.1 with
  | a :: st => if ab_isI a = true then some [ab_advK S 1 ((ab_new S.2.2.2.1 14 a (ab_c 0)).1 :: st) (ab_new S.2.2.2.1 14 a (ab_c 0)).2] else none
  | _ => none
theorem ab_i2c_ok : ab_Snd cm_i2c ab_i2c := by
  intro h N M0 md E P t S Ss C ρ k hN h1 hG hk
  obtain ⟨pc, L, st, K, Ca⟩ := S
  obtain ⟨cpc, CL, sc, M⟩ := C
  obtain ⟨e0, gl, gs, gk, gm⟩ := hG
  dsimp only at e0 gl gs gk gm
  subst e0
  unfold ab_i2c at h1
  dsimp only at h1
  split at h1
  · rename_i a st'
    split at h1
    · rename_i hc
      cases h1
      obtain ⟨va, sc2, rfl, hva, gs2⟩ := ab_s_cons gs
      obtain ⟨x, hx, rfl⟩ := ab_vi hc hva
      obtain ⟨ext, k1, k2⟩ := ab_new_ok (op := 14) (b := ab_c 0) gk hx rfl rfl
      have hfin := hk _ (List.mem_singleton.mpr rfl) ext (cpc + 1, CL, .int (ev_f 14 x (Int32.ofInt 0)) :: sc2, M) ⟨rfl, ab_l_ap gl, ⟨ab_iv k2, ab_s_ap gs2⟩, k1, ab_m_ap gm⟩
      exact hfin
    · cases h1
  · cases h1

def ab_mabs : ab_O := fun h md P t S => match S.2.2.1 with
  | a :: st => if ab_isI a = true ∧ ab_cs st ≤ 8 then some [ab_advK S 3 ((ab_new S.2.2.2.1 17 a (ab_c 0)).1 :: st) (ab_new S.2.2.2.1 17 a (ab_c 0)).2] else none
  | _ => none
theorem ab_mabs_ok : ab_Snd cm_mabs ab_mabs := by
  intro h N M0 md E P t S Ss C ρ k hN h1 hG hk
  obtain ⟨pc, L, st, K, Ca⟩ := S
  obtain ⟨cpc, CL, sc, M⟩ := C
  obtain ⟨e0, gl, gs, gk, gm⟩ := hG
  dsimp only at e0 gl gs gk gm
  subst e0
  unfold ab_mabs at h1
  dsimp only at h1
  split at h1
  · rename_i a st'
    split at h1
    · rename_i hc
      cases h1
      obtain ⟨va, sc2, rfl, hva, gs2⟩ := ab_s_cons gs
      obtain ⟨x, hx, rfl⟩ := ab_vi hc.1 hva
      obtain ⟨ext, k1, k2⟩ := ab_new_ok (op := 17) (b := ab_c 0) gk hx rfl rfl
      have hfin := hk _ (List.mem_singleton.mpr rfl) ext (cpc + 3, CL, .int (ev_f 17 x (Int32.ofInt 0)) :: sc2, M) ⟨rfl, ab_l_ap gl, ⟨ab_iv k2, ab_s_ap gs2⟩, k1, ab_m_ap gm⟩
      have hcs := ab_cs_ok gs2
      exact ⟨by rw [hcs]; exact hc.2, hfin⟩
    · cases h1
  · cases h1

def ab_i2l : ab_O := fun h md P t S => match S.2.2.1 with
  | a :: st => if ab_isI a = true then some [ab_adv S 1 ((6, 0, []) :: st)] else none
  | _ => none
theorem ab_i2l_ok : ab_Snd cm_i2l ab_i2l := by
  intro h N M0 md E P t S Ss C ρ k hN h1 hG hk
  obtain ⟨pc, L, st, K, Ca⟩ := S
  obtain ⟨cpc, CL, sc, M⟩ := C
  obtain ⟨e0, gl, gs, gk, gm⟩ := hG
  dsimp only at e0 gl gs gk gm
  subst e0
  unfold ab_i2l at h1
  dsimp only at h1
  split at h1
  · rename_i a st'
    split at h1
    · rename_i hc
      cases h1
      obtain ⟨va, sc2, rfl, hva, gs2⟩ := ab_s_cons gs
      obtain ⟨x, hx, rfl⟩ := ab_vi hc hva
      exact ab_fin hk _ (List.mem_singleton.mpr rfl) (cpc + 1, CL, .long x.toInt64 :: sc2, M) ⟨rfl, gl, ⟨⟨_, rfl⟩, gs2⟩, gk, gm⟩
    · cases h1
  · cases h1

def ab_ladd : ab_O := fun h md P t S => match S.2.2.1 with
  | b :: a :: st => if a.1 = 6 ∧ b.1 = 6 then some [ab_adv S 1 ((6, 0, []) :: st)] else none
  | _ => none
theorem ab_ladd_ok : ab_Snd cm_ladd ab_ladd := by
  intro h N M0 md E P t S Ss C ρ k hN h1 hG hk
  obtain ⟨pc, L, st, K, Ca⟩ := S
  obtain ⟨cpc, CL, sc, M⟩ := C
  obtain ⟨e0, gl, gs, gk, gm⟩ := hG
  dsimp only at e0 gl gs gk gm
  subst e0
  unfold ab_ladd at h1
  dsimp only at h1
  split at h1
  · rename_i b a st'
    split at h1
    · rename_i hc
      cases h1
      obtain ⟨vb, sc1, rfl, hvb, gs1⟩ := ab_s_cons gs
      obtain ⟨va, sc2, rfl, hva, gs2⟩ := ab_s_cons gs1
      obtain ⟨y, rfl⟩ := ab_v6 hc.2 hvb
      obtain ⟨x, rfl⟩ := ab_v6 hc.1 hva
      exact ab_fin hk _ (List.mem_singleton.mpr rfl) (cpc + 1, CL, .long (x + y) :: sc2, M) ⟨rfl, gl, ⟨⟨_, rfl⟩, gs2⟩, gk, gm⟩
    · cases h1
  · cases h1

def ab_lsub : ab_O := fun h md P t S => match S.2.2.1 with
  | b :: a :: st => if a.1 = 6 ∧ b.1 = 6 then some [ab_adv S 1 ((6, 0, []) :: st)] else none
  | _ => none
theorem ab_lsub_ok : ab_Snd cm_lsub ab_lsub := by
  intro h N M0 md E P t S Ss C ρ k hN h1 hG hk
  obtain ⟨pc, L, st, K, Ca⟩ := S
  obtain ⟨cpc, CL, sc, M⟩ := C
  obtain ⟨e0, gl, gs, gk, gm⟩ := hG
  dsimp only at e0 gl gs gk gm
  subst e0
  unfold ab_lsub at h1
  dsimp only at h1
  split at h1
  · rename_i b a st'
    split at h1
    · rename_i hc
      cases h1
      obtain ⟨vb, sc1, rfl, hvb, gs1⟩ := ab_s_cons gs
      obtain ⟨va, sc2, rfl, hva, gs2⟩ := ab_s_cons gs1
      obtain ⟨y, rfl⟩ := ab_v6 hc.2 hvb
      obtain ⟨x, rfl⟩ := ab_v6 hc.1 hva
      exact ab_fin hk _ (List.mem_singleton.mpr rfl) (cpc + 1, CL, .long (x - y) :: sc2, M) ⟨rfl, gl, ⟨⟨_, rfl⟩, gs2⟩, gk, gm⟩
    · cases h1
  · cases h1

def ab_lmul : ab_O := fun h md P t S => match S.2.2.1 with
  | b :: a :: st => if a.1 = 6 ∧ b.1 = 6 then some [ab_adv S 1 ((6, 0, []) :: st)] else none
  | _ => none
theorem ab_lmul_ok : ab_Snd cm_lmul ab_lmul := by
  intro h N M0 md E P t S Ss C ρ k hN h1 hG hk
  obtain ⟨pc, L, st, K, Ca⟩ := S
  obtain ⟨cpc, CL, sc, M⟩ := C
  obtain ⟨e0, gl, gs, gk, gm⟩ := hG
  dsimp only at e0 gl gs gk gm
  subst e0
  unfold ab_lmul at h1
  dsimp only at h1
  split at h1
  · rename_i b a st'
    split at h1
    · rename_i hc
      cases h1
      obtain ⟨vb, sc1, rfl, hvb, gs1⟩ := ab_s_cons gs
      obtain ⟨va, sc2, rfl, hva, gs2⟩ := ab_s_cons gs1
      obtain ⟨y, rfl⟩ := ab_v6 hc.2 hvb
      obtain ⟨x, rfl⟩ := ab_v6 hc.1 hva
      exact ab_fin hk _ (List.mem_singleton.mpr rfl) (cpc + 1, CL, .long (x * y) :: sc2, M) ⟨rfl, gl, ⟨⟨_, rfl⟩, gs2⟩, gk, gm⟩
    · cases h1
  · cases h1

theorem ab_lcmp_in (x y : Int64) : ev_inb (-1, 1) (lg_cmp x y) := by
  unfold lg_cmp
  repeat' split
  all_goals exact ⟨by decide, by decide⟩
def ab_lcmp : ab_O := fun h md P t S => match S.2.2.1 with
  | b :: a :: st => if a.1 = 6 ∧ b.1 = 6 then some [ab_advK S 1 ((ab_any S.2.2.2.1 (-1, 1)).1 :: st) (ab_any S.2.2.2.1 (-1, 1)).2] else none
  | _ => none
theorem ab_lcmp_ok : ab_Snd cm_lcmp ab_lcmp := by
  intro h N M0 md E P t S Ss C ρ k hN h1 hG hk
  obtain ⟨pc, L, st, K, Ca⟩ := S
  obtain ⟨cpc, CL, sc, M⟩ := C
  obtain ⟨e0, gl, gs, gk, gm⟩ := hG
  dsimp only at e0 gl gs gk gm
  subst e0
  unfold ab_lcmp at h1
  dsimp only at h1
  split at h1
  · rename_i b a st'
    split at h1
    · rename_i hc
      cases h1
      obtain ⟨vb, sc1, rfl, hvb, gs1⟩ := ab_s_cons gs
      obtain ⟨va, sc2, rfl, hva, gs2⟩ := ab_s_cons gs1
      obtain ⟨y, rfl⟩ := ab_v6 hc.2 hvb
      obtain ⟨x, rfl⟩ := ab_v6 hc.1 hva
      obtain ⟨ext, k1, k2⟩ := ab_any_ok gk (ab_lcmp_in x y) (rfl : ab_any K (-1, 1) = (_, _))
      exact hk _ (List.mem_singleton.mpr rfl) ext (cpc + 1, CL, .int (lg_cmp x y) :: sc2, M) ⟨rfl, ab_l_ap gl, ⟨ab_iv k2, ab_s_ap gs2⟩, k1, ab_m_ap gm⟩
    · cases h1
  · cases h1

def ab_dup : ab_O := fun h md P t S => match S.2.2.1 with
  | a :: st => if a.1 ≠ 6 then some [ab_adv S 1 (a :: a :: st)] else none
  | _ => none
theorem ab_dup_ok : ab_Snd cm_dup ab_dup := by
  intro h N M0 md E P t S Ss C ρ k hN h1 hG hk
  obtain ⟨pc, L, st, K, Ca⟩ := S
  obtain ⟨cpc, CL, sc, M⟩ := C
  obtain ⟨e0, gl, gs, gk, gm⟩ := hG
  dsimp only at e0 gl gs gk gm
  subst e0
  unfold ab_dup at h1
  dsimp only at h1
  split at h1
  · rename_i a st'
    split at h1
    · rename_i hc
      cases h1
      obtain ⟨va, sc2, rfl, hva, gs2⟩ := ab_s_cons gs
      refine ⟨?_, ab_fin hk _ (List.mem_singleton.mpr rfl) (cpc + 1, CL, va :: va :: sc2, M) ⟨rfl, gl, ⟨hva, hva, gs2⟩, gk, gm⟩⟩
      rcases ab_cat hva with ⟨q1, -⟩ | ⟨-, q2⟩
      · exact absurd q1 hc
      · exact q2
    · cases h1
  · cases h1

def ab_pop : ab_O := fun h md P t S => match S.2.2.1 with
  | a :: st => if a.1 ≠ 6 then some [ab_adv S 1 st] else none
  | _ => none
theorem ab_pop_ok : ab_Snd cm_pop ab_pop := by
  intro h N M0 md E P t S Ss C ρ k hN h1 hG hk
  obtain ⟨pc, L, st, K, Ca⟩ := S
  obtain ⟨cpc, CL, sc, M⟩ := C
  obtain ⟨e0, gl, gs, gk, gm⟩ := hG
  dsimp only at e0 gl gs gk gm
  subst e0
  unfold ab_pop at h1
  dsimp only at h1
  split at h1
  · rename_i a st'
    split at h1
    · rename_i hc
      cases h1
      obtain ⟨va, sc2, rfl, hva, gs2⟩ := ab_s_cons gs
      refine ⟨?_, ab_fin hk _ (List.mem_singleton.mpr rfl) (cpc + 1, CL, sc2, M) ⟨rfl, gl, gs2, gk, gm⟩⟩
      rcases ab_cat hva with ⟨q1, -⟩ | ⟨-, q2⟩
      · exact absurd q1 hc
      · exact q2
    · cases h1
  · cases h1

def ab_pop2 : ab_O := fun h md P t S => match S.2.2.1 with
  | a :: st => if a.1 = 6 then some [ab_adv S 1 st] else none
  | _ => none
theorem ab_pop2_ok : ab_Snd cm_pop2 ab_pop2 := by
  intro h N M0 md E P t S Ss C ρ k hN h1 hG hk
  obtain ⟨pc, L, st, K, Ca⟩ := S
  obtain ⟨cpc, CL, sc, M⟩ := C
  obtain ⟨e0, gl, gs, gk, gm⟩ := hG
  dsimp only at e0 gl gs gk gm
  subst e0
  unfold ab_pop2 at h1
  dsimp only at h1
  split at h1
  · rename_i a st'
    split at h1
    · rename_i hc
      cases h1
      obtain ⟨va, sc2, rfl, hva, gs2⟩ := ab_s_cons gs
      obtain ⟨x, rfl⟩ := ab_v6 hc hva
      exact ab_fin hk _ (List.mem_singleton.mpr rfl) (cpc + 1, CL, sc2, M) ⟨rfl, gl, gs2, gk, gm⟩
    · cases h1
  · cases h1

def ab_dup2 : ab_O := fun h md P t S => match S.2.2.1 with
  | a :: b :: st => if a.1 ≠ 6 ∧ b.1 ≠ 6 then some [ab_adv S 1 (a :: b :: a :: b :: st)] else none
  | _ => none
theorem ab_dup2_ok : ab_Snd cm_dup2 ab_dup2 := by
  intro h N M0 md E P t S Ss C ρ k hN h1 hG hk
  obtain ⟨pc, L, st, K, Ca⟩ := S
  obtain ⟨cpc, CL, sc, M⟩ := C
  obtain ⟨e0, gl, gs, gk, gm⟩ := hG
  dsimp only at e0 gl gs gk gm
  subst e0
  unfold ab_dup2 at h1
  dsimp only at h1
  split at h1
  · rename_i a b st'
    split at h1
    · rename_i hc
      cases h1
      obtain ⟨va, sc1, rfl, hva, gs1⟩ := ab_s_cons gs
      obtain ⟨vb, sc2, rfl, hvb, gs2⟩ := ab_s_cons gs1
      refine ⟨?_, ?_, ab_fin hk _ (List.mem_singleton.mpr rfl) (cpc + 1, CL, va :: vb :: va :: vb :: sc2, M) ⟨rfl, gl, ⟨hva, hvb, hva, hvb, gs2⟩, gk, gm⟩⟩
      · rcases ab_cat hva with ⟨q1, -⟩ | ⟨-, q2⟩
        · exact absurd q1 hc.1
        · exact q2
      · rcases ab_cat hvb with ⟨q1, -⟩ | ⟨-, q2⟩
        · exact absurd q1 hc.2
        · exact q2
    · cases h1
  · cases h1

def ab_iinc : ab_O := fun h md P t S => match ev_at S.2.1 t.1.toNat with
  | some a => if ab_isI a = true ∧ t.1.toNat < P.2.2.2.2.1 then some [(S.1 + 3, ab_st1 S.2.1 t.1.toNat (ab_new S.2.2.2.1 1 a (ab_c t.2.1)).1, S.2.2.1, (ab_new S.2.2.2.1 1 a (ab_c t.2.1)).2, S.2.2.2.2)] else none
  | none => none
theorem ab_iinc_ok : ab_Snd cm_iinc ab_iinc := by
  intro h N M0 md E P t S Ss C ρ k hN h1 hG hk
  obtain ⟨pc, L, st, K, Ca⟩ := S
  obtain ⟨cpc, CL, sc, M⟩ := C
  obtain ⟨e0, gl, gs, gk, gm⟩ := hG
  dsimp only at e0 gl gs gk gm
  subst e0
  unfold ab_iinc at h1
  dsimp only at h1
  split at h1
  · rename_i a ha
    split at h1
    · rename_i hc
      cases h1
      obtain ⟨v, hl, hv⟩ := gl _ (ev_at_mem ha)
      obtain ⟨x, hx, rfl⟩ := ab_vi hc.1 hv
      obtain ⟨ext, k1, k2⟩ := ab_new_ok (op := 1) (b := ab_c t.2.1) gk hx rfl rfl
      unfold cm_iinc
      dsimp only at hl ⊢
      rw [hl]
      exact ⟨hc.2, hk _ (List.mem_singleton.mpr rfl) ext (cpc + 3, cm_st1 CL t.1.toNat (.int (x + Int32.ofInt t.2.1)), sc, M) ⟨rfl, ab_st1_ok (ab_l_ap gl) (ab_iv k2), ab_s_ap gs, k1, ab_m_ap gm⟩⟩
    · cases h1
  · cases h1

def ab_fork (r : Nat) (a b : ab_A) (off : Int) (st : List ab_A) (S : ab_S) : Option (List ab_S) := if 0 ≤ (S.1 : Int) + off then some
  ((match ab_br r a b S.2.2.2.1 with
    | some K => [(((S.1 : Int) + off).toNat, S.2.1, st, K, S.2.2.2.2)]
    | none => []) ++ (match ab_br (ab_ngt r) a b S.2.2.2.1 with
    | some K => [(S.1 + 3, S.2.1, st, K, S.2.2.2.2)]
    | none => [])) else none
theorem ab_fork_ok {h : ab_H} {N : cm_M → Prop} {M0 : cm_M} {md : ab_Md} {ρ : List Int32} {k : cm_S → Prop} {pc : Nat} {L : List (Nat × ab_A)} {st st' : List ab_A} {K : ab_K} {Ca : ab_Ca} {CL : List (Nat × Value)} {sc : List Value} {M : cm_M} {r : Nat} {a b : ab_A} {off : Int} {Ss : List ab_S} (hf : ab_fork r a b off st' (pc, L, st, K, Ca) = some Ss) (hk : ∀ S' ∈ Ss, ∀ (ext : List Int32) (C' : cm_S), ab_G h N M0 md (ρ ++ ext) S' C' → k C') (gl : ab_l ρ L CL) (gs : ab_s ρ st' sc) (gk : ab_k ρ K) (gm : ab_m h N M0 md ρ Ca M) {x y : Int32} (hx : ab_i ρ a = some x) (hy : ab_i ρ b = some y) :
    0 ≤ (pc : Int) + off ∧ (ev_cmp r x y = true → k (((pc : Int) + off).toNat, CL, sc, M)) ∧ (ev_cmp r x y = false → k (pc + 3, CL, sc, M)) := by
  unfold ab_fork at hf
  split at hf
  · rename_i h0
    cases hf
    refine ⟨h0, fun hc => ?_, fun hc => ?_⟩
    · obtain ⟨K', e, hk'⟩ := ab_br_ok gk hx hy hc
      refine ab_fin hk (((pc : Int) + off).toNat, L, st', K', Ca) ?_ _ ⟨rfl, gl, gs, hk', gm⟩
      refine List.mem_append_left _ ?_
      dsimp only
      rw [e]
      exact List.mem_singleton.mpr rfl
    · obtain ⟨K', e, hk'⟩ := ab_br_ok gk hx hy (ab_ngt_ok hc)
      refine ab_fin hk (pc + 3, L, st', K', Ca) ?_ _ ⟨rfl, gl, gs, hk', gm⟩
      refine List.mem_append_right _ ?_
      dsimp only
      rw [e]
      exact List.mem_singleton.mpr rfl
  · cases hf
def ab_icmp_eq : ab_O := fun h md P t S => match S.2.2.1 with
  | b :: a :: st => if ab_isI a = true ∧ ab_isI b = true then ab_fork 0 a b t.1 st S else none
  | _ => none
theorem ab_icmp_eq_ok : ab_Snd cm_icmp_eq ab_icmp_eq := by
  intro h N M0 md E P t S Ss C ρ k hN h1 hG hk
  obtain ⟨pc, L, st, K, Ca⟩ := S
  obtain ⟨cpc, CL, sc, M⟩ := C
  obtain ⟨e0, gl, gs, gk, gm⟩ := hG
  dsimp only at e0 gl gs gk gm
  subst e0
  unfold ab_icmp_eq at h1
  dsimp only at h1
  split at h1
  · rename_i b a st'
    split at h1
    · rename_i hc
      obtain ⟨vb, sc1, rfl, hvb, gs1⟩ := ab_s_cons gs
      obtain ⟨va, sc2, rfl, hva, gs2⟩ := ab_s_cons gs1
      obtain ⟨y, hy, rfl⟩ := ab_vi hc.2 hvb
      obtain ⟨x, hx, rfl⟩ := ab_vi hc.1 hva
      exact ab_fork_ok h1 hk gl gs2 gk gm hx hy
    · cases h1
  · cases h1

def ab_if_eq : ab_O := fun h md P t S => match S.2.2.1 with
  | a :: st => if ab_isI a = true then ab_fork 0 a (ab_c 0) t.1 st S else none
  | _ => none
theorem ab_if_eq_ok : ab_Snd cm_if_eq ab_if_eq := by
  intro h N M0 md E P t S Ss C ρ k hN h1 hG hk
  obtain ⟨pc, L, st, K, Ca⟩ := S
  obtain ⟨cpc, CL, sc, M⟩ := C
  obtain ⟨e0, gl, gs, gk, gm⟩ := hG
  dsimp only at e0 gl gs gk gm
  subst e0
  unfold ab_if_eq at h1
  dsimp only at h1
  split at h1
  · rename_i a st'
    split at h1
    · rename_i hc
      obtain ⟨va, sc2, rfl, hva, gs2⟩ := ab_s_cons gs
      obtain ⟨x, hx, rfl⟩ := ab_vi hc hva
      exact ab_fork_ok h1 hk gl gs2 gk gm hx (show ab_i ρ (ab_c 0) = some 0 from rfl)
    · cases h1
  · cases h1

def ab_icmp_ne : ab_O := fun h md P t S => match S.2.2.1 with
  | b :: a :: st => if ab_isI a = true ∧ ab_isI b = true then ab_fork 1 a b t.1 st S else none
  | _ => none
theorem ab_icmp_ne_ok : ab_Snd cm_icmp_ne ab_icmp_ne := by
  intro h N M0 md E P t S Ss C ρ k hN h1 hG hk
  obtain ⟨pc, L, st, K, Ca⟩ := S
  obtain ⟨cpc, CL, sc, M⟩ := C
  obtain ⟨e0, gl, gs, gk, gm⟩ := hG
  dsimp only at e0 gl gs gk gm
  subst e0
  unfold ab_icmp_ne at h1
  dsimp only at h1
  split at h1
  · rename_i b a st'
    split at h1
    · rename_i hc
      obtain ⟨vb, sc1, rfl, hvb, gs1⟩ := ab_s_cons gs
      obtain ⟨va, sc2, rfl, hva, gs2⟩ := ab_s_cons gs1
      obtain ⟨y, hy, rfl⟩ := ab_vi hc.2 hvb
      obtain ⟨x, hx, rfl⟩ := ab_vi hc.1 hva
      exact ab_fork_ok h1 hk gl gs2 gk gm hx hy
    · cases h1
  · cases h1

def ab_if_ne : ab_O := fun h md P t S => match S.2.2.1 with
  | a :: st => if ab_isI a = true then ab_fork 1 a (ab_c 0) t.1 st S else none
  | _ => none
theorem ab_if_ne_ok : ab_Snd cm_if_ne ab_if_ne := by
  intro h N M0 md E P t S Ss C ρ k hN h1 hG hk
  obtain ⟨pc, L, st, K, Ca⟩ := S
  obtain ⟨cpc, CL, sc, M⟩ := C
  obtain ⟨e0, gl, gs, gk, gm⟩ := hG
  dsimp only at e0 gl gs gk gm
  subst e0
  unfold ab_if_ne at h1
  dsimp only at h1
  split at h1
  · rename_i a st'
    split at h1
    · rename_i hc
      obtain ⟨va, sc2, rfl, hva, gs2⟩ := ab_s_cons gs
      obtain ⟨x, hx, rfl⟩ := ab_vi hc hva
      exact ab_fork_ok h1 hk gl gs2 gk gm hx (show ab_i ρ (ab_c 0) = some 0 from rfl)
    · cases h1
  · cases h1

def ab_icmp_lt : ab_O := fun h md P t S => match S.2.2.1 with
  | b :: a :: st => if ab_isI a = true ∧ ab_isI b = true then ab_fork 2 a b t.1 st S else none
  | _ => none
theorem ab_icmp_lt_ok : ab_Snd cm_icmp_lt ab_icmp_lt := by
  intro h N M0 md E P t S Ss C ρ k hN h1 hG hk
  obtain ⟨pc, L, st, K, Ca⟩ := S
  obtain ⟨cpc, CL, sc, M⟩ := C
  obtain ⟨e0, gl, gs, gk, gm⟩ := hG
  dsimp only at e0 gl gs gk gm
  subst e0
  unfold ab_icmp_lt at h1
  dsimp only at h1
  split at h1
  · rename_i b a st'
    split at h1
    · rename_i hc
      obtain ⟨vb, sc1, rfl, hvb, gs1⟩ := ab_s_cons gs
      obtain ⟨va, sc2, rfl, hva, gs2⟩ := ab_s_cons gs1
      obtain ⟨y, hy, rfl⟩ := ab_vi hc.2 hvb
      obtain ⟨x, hx, rfl⟩ := ab_vi hc.1 hva
      exact ab_fork_ok h1 hk gl gs2 gk gm hx hy
    · cases h1
  · cases h1

def ab_if_lt : ab_O := fun h md P t S => match S.2.2.1 with
  | a :: st => if ab_isI a = true then ab_fork 2 a (ab_c 0) t.1 st S else none
  | _ => none
theorem ab_if_lt_ok : ab_Snd cm_if_lt ab_if_lt := by
  intro h N M0 md E P t S Ss C ρ k hN h1 hG hk
  obtain ⟨pc, L, st, K, Ca⟩ := S
  obtain ⟨cpc, CL, sc, M⟩ := C
  obtain ⟨e0, gl, gs, gk, gm⟩ := hG
  dsimp only at e0 gl gs gk gm
  subst e0
  unfold ab_if_lt at h1
  dsimp only at h1
  split at h1
  · rename_i a st'
    split at h1
    · rename_i hc
      obtain ⟨va, sc2, rfl, hva, gs2⟩ := ab_s_cons gs
      obtain ⟨x, hx, rfl⟩ := ab_vi hc hva
      exact ab_fork_ok h1 hk gl gs2 gk gm hx (show ab_i ρ (ab_c 0) = some 0 from rfl)
    · cases h1
  · cases h1

def ab_icmp_ge : ab_O := fun h md P t S => match S.2.2.1 with
  | b :: a :: st => if ab_isI a = true ∧ ab_isI b = true then ab_fork 3 a b t.1 st S else none
  | _ => none
theorem ab_icmp_ge_ok : ab_Snd cm_icmp_ge ab_icmp_ge := by
  intro h N M0 md E P t S Ss C ρ k hN h1 hG hk
  obtain ⟨pc, L, st, K, Ca⟩ := S
  obtain ⟨cpc, CL, sc, M⟩ := C
  obtain ⟨e0, gl, gs, gk, gm⟩ := hG
  dsimp only at e0 gl gs gk gm
  subst e0
  unfold ab_icmp_ge at h1
  dsimp only at h1
  split at h1
  · rename_i b a st'
    split at h1
    · rename_i hc
      obtain ⟨vb, sc1, rfl, hvb, gs1⟩ := ab_s_cons gs
      obtain ⟨va, sc2, rfl, hva, gs2⟩ := ab_s_cons gs1
      obtain ⟨y, hy, rfl⟩ := ab_vi hc.2 hvb
      obtain ⟨x, hx, rfl⟩ := ab_vi hc.1 hva
      exact ab_fork_ok h1 hk gl gs2 gk gm hx hy
    · cases h1
  · cases h1

def ab_if_ge : ab_O := fun h md P t S => match S.2.2.1 with
  | a :: st => if ab_isI a = true then ab_fork 3 a (ab_c 0) t.1 st S else none
  | _ => none
theorem ab_if_ge_ok : ab_Snd cm_if_ge ab_if_ge := by
  intro h N M0 md E P t S Ss C ρ k hN h1 hG hk
  obtain ⟨pc, L, st, K, Ca⟩ := S
  obtain ⟨cpc, CL, sc, M⟩ := C
  obtain ⟨e0, gl, gs, gk, gm⟩ := hG
  dsimp only at e0 gl gs gk gm
  subst e0
  unfold ab_if_ge at h1
  dsimp only at h1
  split at h1
  · rename_i a st'
    split at h1
    · rename_i hc
      obtain ⟨va, sc2, rfl, hva, gs2⟩ := ab_s_cons gs
      obtain ⟨x, hx, rfl⟩ := ab_vi hc hva
      exact ab_fork_ok h1 hk gl gs2 gk gm hx (show ab_i ρ (ab_c 0) = some 0 from rfl)
    · cases h1
  · cases h1

def ab_icmp_gt : ab_O := fun h md P t S => match S.2.2.1 with
  | b :: a :: st => if ab_isI a = true ∧ ab_isI b = true then ab_fork 4 a b t.1 st S else none
  | _ => none
theorem ab_icmp_gt_ok : ab_Snd cm_icmp_gt ab_icmp_gt := by
  intro h N M0 md E P t S Ss C ρ k hN h1 hG hk
  obtain ⟨pc, L, st, K, Ca⟩ := S
  obtain ⟨cpc, CL, sc, M⟩ := C
  obtain ⟨e0, gl, gs, gk, gm⟩ := hG
  dsimp only at e0 gl gs gk gm
  subst e0
  unfold ab_icmp_gt at h1
  dsimp only at h1
  split at h1
  · rename_i b a st'
    split at h1
    · rename_i hc
      obtain ⟨vb, sc1, rfl, hvb, gs1⟩ := ab_s_cons gs
      obtain ⟨va, sc2, rfl, hva, gs2⟩ := ab_s_cons gs1
      obtain ⟨y, hy, rfl⟩ := ab_vi hc.2 hvb
      obtain ⟨x, hx, rfl⟩ := ab_vi hc.1 hva
      exact ab_fork_ok h1 hk gl gs2 gk gm hx hy
    · cases h1
  · cases h1

def ab_if_gt : ab_O := fun h md P t S => match S.2.2.1 with
  | a :: st => if ab_isI a = true then ab_fork 4 a (ab_c 0) t.1 st S else none
  | _ => none
theorem ab_if_gt_ok : ab_Snd cm_if_gt ab_if_gt := by
  intro h N M0 md E P t S Ss C ρ k hN h1 hG hk
  obtain ⟨pc, L, st, K, Ca⟩ := S
  obtain ⟨cpc, CL, sc, M⟩ := C
  obtain ⟨e0, gl, gs, gk, gm⟩ := hG
  dsimp only at e0 gl gs gk gm
  subst e0
  unfold ab_if_gt at h1
  dsimp only at h1
  split at h1
  · rename_i a st'
    split at h1
    · rename_i hc
      obtain ⟨va, sc2, rfl, hva, gs2⟩ := ab_s_cons gs
      obtain ⟨x, hx, rfl⟩ := ab_vi hc hva
      exact ab_fork_ok h1 hk gl gs2 gk gm hx (show ab_i ρ (ab_c 0) = some 0 from rfl)
    · cases h1
  · cases h1

def ab_icmp_le : ab_O := fun h md P t S => match S.2.2.1 with
  | b :: a :: st => if ab_isI a = true ∧ ab_isI b = true then ab_fork 5 a b t.1 st S else none
  | _ => none
theorem ab_icmp_le_ok : ab_Snd cm_icmp_le ab_icmp_le := by
  intro h N M0 md E P t S Ss C ρ k hN h1 hG hk
  obtain ⟨pc, L, st, K, Ca⟩ := S
  obtain ⟨cpc, CL, sc, M⟩ := C
  obtain ⟨e0, gl, gs, gk, gm⟩ := hG
  dsimp only at e0 gl gs gk gm
  subst e0
  unfold ab_icmp_le at h1
  dsimp only at h1
  split at h1
  · rename_i b a st'
    split at h1
    · rename_i hc
      obtain ⟨vb, sc1, rfl, hvb, gs1⟩ := ab_s_cons gs
      obtain ⟨va, sc2, rfl, hva, gs2⟩ := ab_s_cons gs1
      obtain ⟨y, hy, rfl⟩ := ab_vi hc.2 hvb
      obtain ⟨x, hx, rfl⟩ := ab_vi hc.1 hva
      exact ab_fork_ok h1 hk gl gs2 gk gm hx hy
    · cases h1
  · cases h1

def ab_if_le : ab_O := fun h md P t S => match S.2.2.1 with
  | a :: st => if ab_isI a = true then ab_fork 5 a (ab_c 0) t.1 st S else none
  | _ => none
theorem ab_if_le_ok : ab_Snd cm_if_le ab_if_le := by
  intro h N M0 md E P t S Ss C ρ k hN h1 hG hk
  obtain ⟨pc, L, st, K, Ca⟩ := S
  obtain ⟨cpc, CL, sc, M⟩ := C
  obtain ⟨e0, gl, gs, gk, gm⟩ := hG
  dsimp only at e0 gl gs gk gm
  subst e0
  unfold ab_if_le at h1
  dsimp only at h1
  split at h1
  · rename_i a st'
    split at h1
    · rename_i hc
      obtain ⟨va, sc2, rfl, hva, gs2⟩ := ab_s_cons gs
      obtain ⟨x, hx, rfl⟩ := ab_vi hc hva
      exact ab_fork_ok h1 hk gl gs2 gk gm hx (show ab_i ρ (ab_c 0) = some 0 from rfl)
    · cases h1
  · cases h1

def ab_goto : ab_O := fun h md P t S => if 0 ≤ (S.1 : Int) + t.1 then some [(((S.1 : Int) + t.1).toNat, S.2)] else none
theorem ab_goto_ok : ab_Snd cm_goto ab_goto := by
  intro h N M0 md E P t S Ss C ρ k hN h1 hG hk
  obtain ⟨pc, L, st, K, Ca⟩ := S
  obtain ⟨cpc, CL, sc, M⟩ := C
  obtain ⟨e0, gl, gs, gk, gm⟩ := hG
  dsimp only at e0 gl gs gk gm
  subst e0
  unfold ab_goto at h1
  dsimp only at h1
  split at h1
  · rename_i h0
    cases h1
    exact ⟨h0, ab_fin hk _ (List.mem_singleton.mpr rfl) (((cpc : Int) + t.1).toNat, CL, sc, M) ⟨rfl, gl, gs, gk, gm⟩⟩
  · cases h1

def ab_swj (a : ab_A) (lo : Int) (st : List ab_A) (S : ab_S) : Nat → List Int → List ab_S
  | _, [] => []
  | j, o :: offs => (match ab_br 0 a (ab_c (Int32.ofInt (lo + (j : Int))).toInt) S.2.2.2.1 with
    | some K => [(((S.1 : Int) + o).toNat, S.2.1, st, K, S.2.2.2.2)]
    | none => []) ++ ab_swj a lo st S (j + 1) offs
theorem ab_swj_in {a : ab_A} {lo : Int} {st : List ab_A} {S : ab_S} {K : ab_K} : ∀ (offs : List Int) (i j : Nat) (o : Int), offs[j]? = some o → ab_br 0 a (ab_c (Int32.ofInt (lo + ((i + j : Nat) : Int))).toInt) S.2.2.2.1 = some K → (((S.1 : Int) + o).toNat, S.2.1, st, K, S.2.2.2.2) ∈ ab_swj a lo st S i offs
  | [], i, j, o, h, _ => by cases h
  | q :: offs, i, 0, o, h, hb => by
    cases h
    unfold ab_swj
    refine List.mem_append_left _ ?_
    rw [Nat.add_zero] at hb
    rw [hb]
    exact List.mem_singleton.mpr rfl
  | q :: offs, i, j + 1, o, h, hb => by
    unfold ab_swj
    refine List.mem_append_right _ ?_
    exact ab_swj_in offs (i + 1) j o h (by rw [show i + 1 + j = i + (j + 1) by omega]; exact hb)
def ab_sw : ab_O := fun h md P t S => match t.2.2.2, S.2.2.1 with
  | _ :: offs, a :: st => if ab_isI a = true ∧ t.2.2.1 - t.2.1 + 1 = (offs.length : Int) ∧ 0 ≤ (S.1 : Int) + t.1 ∧ offs.all (fun o => decide (0 ≤ (S.1 : Int) + o)) = true ∧ -2147483648 ≤ t.2.1 ∧ t.2.2.1 ≤ 2147483647 ∧ t.2.1 ≤ 2147483647 ∧ -2147483648 ≤ t.2.2.1 then some (ab_swj a t.2.1 st S 0 offs ++ ((match ab_br 2 a (ab_c t.2.1) S.2.2.2.1 with
      | some K => [(((S.1 : Int) + t.1).toNat, S.2.1, st, K, S.2.2.2.2)]
      | none => []) ++ (match ab_br 4 a (ab_c t.2.2.1) S.2.2.2.1 with
      | some K => [(((S.1 : Int) + t.1).toNat, S.2.1, st, K, S.2.2.2.2)]
      | none => []))) else none
  | _, _ => none
theorem ab_sw_ok : ab_Snd cm_sw ab_sw := by
  intro h N M0 md E P t S Ss C ρ k hN h1 hG hk
  obtain ⟨pc, L, st, K, Ca⟩ := S
  obtain ⟨cpc, CL, sc, M⟩ := C
  obtain ⟨e0, gl, gs, gk, gm⟩ := hG
  dsimp only at e0 gl gs gk gm
  subst e0
  obtain ⟨dflt, lo, hi, offs0⟩ := t
  cases offs0 with
  | nil => cases h1
  | cons len offs =>
    cases st with
    | nil => cases h1
    | cons a st' =>
      unfold ab_sw at h1
      dsimp only at h1
      split at h1
      · rename_i hc
        cases h1
        obtain ⟨hI, hlen, h0, hall, hlo, hhi, hlo2, hhi2⟩ := hc
        obtain ⟨va, sc2, rfl, hva, gs2⟩ := ab_s_cons gs
        obtain ⟨x, hx, rfl⟩ := ab_vi hI hva
        have ex : ∀ n : Int, -2147483648 ≤ n → n ≤ 2147483647 → (Int32.ofInt n).toInt = n := by
          intro n q1 q2
          rw [Int32.toInt_ofInt]
          exact ev_bm q1 q2
        refine ⟨hlen, h0, hall, fun hq => ?_, fun j o ho hj => ?_⟩
        · rcases hq with hq | hq
          · obtain ⟨K', e, hk'⟩ := ab_br_ok (r := 2) (b := ab_c lo) gk hx rfl (by
              unfold ev_cmp
              refine decide_eq_true (Int32.lt_iff_toInt_lt.mpr ?_)
              show x.toInt < (Int32.ofInt lo).toInt
              dsimp only at hq hlen
              rw [ex lo hlo hlo2]
              exact hq)
            refine ab_fin hk (((cpc : Int) + dflt).toNat, L, st', K', Ca) ?_ _ ⟨rfl, gl, gs2, hk', gm⟩
            refine List.mem_append_right _ (List.mem_append_left _ ?_)
            rw [e]
            exact List.mem_singleton.mpr rfl
          · obtain ⟨K', e, hk'⟩ := ab_br_ok (r := 4) (b := ab_c hi) gk hx rfl (by
              unfold ev_cmp
              refine decide_eq_true (Int32.lt_iff_toInt_lt.mpr ?_)
              show (Int32.ofInt hi).toInt < x.toInt
              dsimp only at hq hlen
              rw [ex hi hhi2 hhi]
              exact hq)
            refine ab_fin hk (((cpc : Int) + dflt).toNat, L, st', K', Ca) ?_ _ ⟨rfl, gl, gs2, hk', gm⟩
            refine List.mem_append_right _ (List.mem_append_right _ ?_)
            rw [e]
            exact List.mem_singleton.mpr rfl
        · dsimp only at hj
          obtain ⟨K', e, hk'⟩ := ab_br_ok (r := 0) (b := ab_c (Int32.ofInt (lo + ((0 + j : Nat) : Int))).toInt) gk hx (ab_c_at ρ _) (by
            unfold ev_cmp
            refine decide_eq_true ?_
            rw [Nat.zero_add, ← hj, Int32.ofInt_toInt])
          exact ab_fin hk (((cpc : Int) + o).toNat, L, st', K', Ca) (List.mem_append_left _ (ab_swj_in (S := (cpc, L, a :: st', K, Ca)) offs 0 j o ho e)) _ ⟨rfl, gl, gs2, hk', gm⟩
      · cases h1
/-! AB: cells -/
def ab_fk (c : Nat) : Nat × Nat := cond (Nat.beq c 2) (4, 14) (cond (Nat.beq c 124) (9, 35) (cond (Nat.beq c 0) (8, 15) (cond (Nat.beq c 127) (100, 213) (cond (Nat.beq c 128) (100, 213) (cond (Nat.beq c 6) (7, 19) (cond (Nat.beq c 19) (7, 19) (cond (Nat.beq c 98) (0, 5) (cond (Nat.beq c 4) (100, 16) (cond (Nat.beq c 5) (100, 16) (cond (Nat.beq c 3) (102, 16) (cond (Nat.beq c 126) (100, 8) (cond (Nat.beq c 1) (101, 900) (cm_kind c)))))))))))))
theorem ab_fk_eq (c : Nat) : ab_fk c = cm_kind c := by
  unfold ab_fk
  cases h0 : Nat.beq c 2 with
  | true => exact (congrArg cm_kind (Nat.eq_of_beq_eq_true h0)).symm
  | false =>
    cases h1 : Nat.beq c 124 with
    | true => exact (congrArg cm_kind (Nat.eq_of_beq_eq_true h1)).symm
    | false =>
      cases h2 : Nat.beq c 0 with
      | true => exact (congrArg cm_kind (Nat.eq_of_beq_eq_true h2)).symm
      | false =>
        cases h3 : Nat.beq c 127 with
        | true => exact (congrArg cm_kind (Nat.eq_of_beq_eq_true h3)).symm
        | false =>
          cases h4 : Nat.beq c 128 with
          | true => exact (congrArg cm_kind (Nat.eq_of_beq_eq_true h4)).symm
          | false =>
            cases h5 : Nat.beq c 6 with
            | true => exact (congrArg cm_kind (Nat.eq_of_beq_eq_true h5)).symm
            | false =>
              cases h6 : Nat.beq c 19 with
              | true => exact (congrArg cm_kind (Nat.eq_of_beq_eq_true h6)).symm
              | false =>
                cases h7 : Nat.beq c 98 with
                | true => exact (congrArg cm_kind (Nat.eq_of_beq_eq_true h7)).symm
                | false =>
                  cases h8 : Nat.beq c 4 with
                  | true => exact (congrArg cm_kind (Nat.eq_of_beq_eq_true h8)).symm
                  | false =>
                    cases h9 : Nat.beq c 5 with
                    | true => exact (congrArg cm_kind (Nat.eq_of_beq_eq_true h9)).symm
                    | false =>
                      cases h10 : Nat.beq c 3 with
                      | true => exact (congrArg cm_kind (Nat.eq_of_beq_eq_true h10)).symm
                      | false =>
                        cases h11 : Nat.beq c 126 with
                        | true => exact (congrArg cm_kind (Nat.eq_of_beq_eq_true h11)).symm
                        | false =>
                          cases h12 : Nat.beq c 1 with
                          | true => exact (congrArg cm_kind (Nat.eq_of_beq_eq_true h12)).symm
                          | false =>
                            rfl
/-- all these cells are alike -/
def ab_same (cs : List Nat) (kd : Nat × Nat) : Bool := cs.all (fun c => Nat.beq (ab_fk c).1 kd.1 && Nat.beq (ab_fk c).2 kd.2)
theorem ab_same_in {cs : List Nat} {kd : Nat × Nat} (h : ab_same cs kd = true) {c : Nat} (hc : c ∈ cs) : cm_kind c = kd := by
  have h1 := List.all_eq_true.mp h c hc
  rw [Bool.and_eq_true] at h1
  rw [← ab_fk_eq]
  exact Prod.ext (Nat.eq_of_beq_eq_true h1.1) (Nat.eq_of_beq_eq_true h1.2)
def ab_kd (cs : List Nat) : Nat × Nat := match cs with
  | c :: _ => ab_fk c
  | [] => (999, 0)
/-- which numbers a value can be -/
def ab_rl (b : Int × Int) : Option (List Int) := if b.2 - b.1 < 40 then some ((List.range (b.2 - b.1 + 1).toNat).map (fun (j : Nat) => b.1 + (j : Int))) else none
theorem ab_rl_in {b : Int × Int} {l : List Int} {x : Int32} (h : ab_rl b = some l) (hx : ev_inb b x) : x.toInt ∈ l := by
  unfold ab_rl at h
  split at h
  · cases h
    obtain ⟨h1, h2⟩ := hx
    exact List.mem_map.mpr ⟨(x.toInt - b.1).toNat, List.mem_range.mpr (by omega), by omega⟩
  · cases h
def ab_vals : Nat → ab_K → ab_A → Option (List Int)
  | 0, K, a => ab_rl (ab_bd K a)
  | n + 1, K, a => if a.1 = 3 then (match K[a.2.1.toNat]? with
    | some r => if r.2.2.1 = 1 ∨ r.2.2.1 = 2 ∨ r.2.2.1 = 3 then (match ab_vals n K r.2.2.2.1, ab_vals n K r.2.2.2.2 with
        | some l1, some l2 => if l1.length * l2.length ≤ 200 then some (l1.flatMap (fun x => l2.map (fun y => (ev_f r.2.2.1 (Int32.ofInt x) (Int32.ofInt y)).toInt))) else ab_rl (ab_bd K a)
        | _, _ => ab_rl (ab_bd K a)) else ab_rl (ab_bd K a)
    | none => ab_rl (ab_bd K a)) else ab_rl (ab_bd K a)
theorem ab_vals_in {ρ : List Int32} {K : ab_K} (hk : ab_k ρ K) : ∀ (n : Nat) {a : ab_A} {x : Int32} {l : List Int}, ab_i ρ a = some x → ab_vals n K a = some l → x.toInt ∈ l
  | 0, a, x, l, ha, h => ab_rl_in h (ab_bd_in hk ha)
  | n + 1, a, x, l, ha, h => by
    unfold ab_vals at h
    split at h
    · rename_i h3
      split at h
      · rename_i r hr
        split at h
        · rename_i hop
          split at h
          · rename_i l1 l2 e1 e2
            split at h
            · cases h
              have hx : ρ[a.2.1.toNat]? = some x := by
                unfold ab_i at ha
                rw [h3] at ha
                exact ha
              rcases (hk.2 _ r x hr hx).2 with hz | ⟨y, z, hy, hz, e⟩
              · omega
              · have i1 := ab_vals_in hk n hy e1
                have i2 := ab_vals_in hk n hz e2
                exact List.mem_flatMap.mpr ⟨y.toInt, i1, List.mem_map.mpr ⟨z.toInt, i2, by rw [Int32.ofInt_toInt, Int32.ofInt_toInt, ← e]⟩⟩
            · exact ab_rl_in h (ab_bd_in hk ha)
          · exact ab_rl_in h (ab_bd_in hk ha)
        · exact ab_rl_in h (ab_bd_in hk ha)
      · exact ab_rl_in h (ab_bd_in hk ha)
    · exact ab_rl_in h (ab_bd_in hk ha)
/-- a number within an array: which places -/
def ab_idx (K : ab_K) (a : ab_A) (len : Nat) : Option ab_Ix := match ab_vals 4 K a with
  | some l => if l.all (fun x => decide (0 ≤ x) && decide (x < (len : Int))) = true then some (some (l.map Int.toNat)) else (if 0 ≤ (ab_bd K a).1 ∧ (ab_bd K a).2 < (len : Int) then some (some (l.map Int.toNat)) else none)
  | none => if 0 ≤ (ab_bd K a).1 ∧ (ab_bd K a).2 < (len : Int) then some none else none
theorem ab_idx_ok {ρ : List Int32} {K : ab_K} {a : ab_A} {x : Int32} {len : Nat} {ix : ab_Ix} (hk : ab_k ρ K) (ha : ab_i ρ a = some x) (h : ab_idx K a len = some ix) : 0 ≤ x.toInt ∧ x.toInt < (len : Int) ∧ ab_ixin ix x.toNatClampNeg := by
  have hb := ab_bd_in hk ha
  unfold ab_idx at h
  split at h
  · rename_i l hl
    have hin := ab_vals_in hk 4 ha hl
    have hm : x.toNatClampNeg ∈ l.map Int.toNat := List.mem_map.mpr ⟨x.toInt, hin, rfl⟩
    split at h
    · rename_i hall
      cases h
      have := List.all_eq_true.mp hall _ hin
      simp only [Bool.and_eq_true, decide_eq_true_eq] at this
      exact ⟨this.1, this.2, hm⟩
    · split at h
      · rename_i hc
        cases h
        obtain ⟨b1, b2⟩ := hb
        exact ⟨by omega, by omega, hm⟩
      · cases h
  · split at h
    · rename_i hc
      cases h
      obtain ⟨b1, b2⟩ := hb
      exact ⟨by omega, by omega, trivial⟩
    · cases h
def ab_get : ab_O := fun h md P t S => match S.2.2.1 with
  | x :: st => if x.1 = 1 ∧ ab_same x.2.2 (ab_kd x.2.2) = true ∧ (ab_kd x.2.2).1 = t.1.toNat ∧ t.2.1.toNat < (ab_kd x.2.2).2 then (match cm_ft t.1.toNat t.2.1.toNat with
      | 2 => some [ab_adv S 3 ((6, 0, []) :: st)]
      | 3 => (match ab_ldR h S.2.2.2.2 x.2.2 [t.2.1.toNat] with
        | some a => some [ab_adv S 3 (a :: st)]
        | none => none)
      | 0 => some [(S.1 + 3, S.2.1, (ab_ldI h S.2.2.2.1 S.2.2.2.2 x.2.2 (some [t.2.1.toNat])).1 :: st, (ab_ldI h S.2.2.2.1 S.2.2.2.2 x.2.2 (some [t.2.1.toNat])).2)]
      | _ => none) else none
  | _ => none
theorem ab_get_ok : ab_Snd cm_get ab_get := by
  intro h N M0 md E P t S Ss C ρ k hN h1 hG hk
  obtain ⟨pc, L, st, K, Ca⟩ := S
  obtain ⟨cpc, CL, sc, M⟩ := C
  obtain ⟨e0, gl, gs, gk, gm⟩ := hG
  dsimp only at e0 gl gs gk gm
  subst e0
  unfold ab_get at h1
  dsimp only at h1
  split at h1
  · rename_i x st'
    split at h1
    · rename_i hc
      obtain ⟨hx1, hsm, hk1, hk2⟩ := hc
      obtain ⟨vx, sc2, rfl, hvx, gs2⟩ := ab_s_cons gs
      obtain ⟨c, hc, rfl⟩ := ab_v1 hx1 hvx
      have hkc := ab_same_in hsm hc
      refine ⟨by rw [hkc]; exact hk1, by rw [hkc]; exact hk2, ?_⟩
      split at h1
      · rename_i e
        cases h1
        rw [e]
        exact ab_fin hk _ (List.mem_singleton.mpr rfl) (cpc + 3, CL, .long (M.2.1 c t.2.1.toNat) :: sc2, M) ⟨rfl, gl, ⟨⟨_, rfl⟩, gs2⟩, gk, gm⟩
      · rename_i e
        split at h1
        · rename_i a ha
          cases h1
          rw [e]
          exact ab_fin hk _ (List.mem_singleton.mpr rfl) (cpc + 3, CL, cm_rq (M.2.2 c t.2.1.toNat) :: sc2, M) ⟨rfl, gl, ⟨ab_ldR_ok gm ha hc (List.mem_singleton.mpr rfl), gs2⟩, gk, gm⟩
        · cases h1
      · rename_i e
        cases h1
        rw [e]
        obtain ⟨ext, k1, k2, k3⟩ := ab_ldI_ok (i := t.2.1.toNat) hN gk gm (rfl : ab_ldI h K Ca x.2.2 (some [t.2.1.toNat]) = (_, _, _)) hc (List.mem_singleton.mpr rfl)
        exact hk _ (List.mem_singleton.mpr rfl) ext (cpc + 3, CL, .int (M.1 c t.2.1.toNat) :: sc2, M) ⟨rfl, ab_l_ap gl, ⟨ab_iv k2, ab_s_ap gs2⟩, k1, k3⟩
      · cases h1
    · cases h1
  · cases h1

def ab_put : ab_O := fun h md P t S => match S.2.2.1 with
  | a :: x :: st => if x.1 = 1 ∧ ab_same x.2.2 (ab_kd x.2.2) = true ∧ (ab_kd x.2.2).1 = t.1.toNat ∧ t.2.1.toNat < (ab_kd x.2.2).2 ∧ cm_fin t.1.toNat t.2.1.toNat = false then (match cm_ft t.1.toNat t.2.1.toNat with
      | 2 => if a.1 = 6 ∧ ab_stL h md x.2.2 (some [t.2.1.toNat]) = true then some [ab_adv S 3 st] else none
      | 3 => if a.1 = 1 ∧ ab_stR h md a x.2.2 t.2.1.toNat = true then some [(S.1 + 3, S.2.1, st, S.2.2.2.1, ab_keep S.2.2.2.2 x.2.2 (some [t.2.1.toNat]) a)] else none
      | 0 => if ab_isI a = true ∧ (cm_isB t.1.toNat t.2.1.toNat = true → 0 ≤ (ab_bd S.2.2.2.1 a).1 ∧ (ab_bd S.2.2.2.1 a).2 ≤ 1) ∧ ab_stI h md (ab_bd S.2.2.2.1 a) x.2.2 (some [t.2.1.toNat]) = true then some [(S.1 + 3, S.2.1, st, S.2.2.2.1, ab_keep S.2.2.2.2 x.2.2 (some [t.2.1.toNat]) a)] else none
      | _ => none) else none
  | _ => none
theorem ab_put_ok : ab_Snd cm_put ab_put := by
  intro h N M0 md E P t S Ss C ρ k hN h1 hG hk
  obtain ⟨pc, L, st, K, Ca⟩ := S
  obtain ⟨cpc, CL, sc, M⟩ := C
  obtain ⟨e0, gl, gs, gk, gm⟩ := hG
  dsimp only at e0 gl gs gk gm
  subst e0
  unfold ab_put at h1
  dsimp only at h1
  split at h1
  · rename_i a x st'
    split at h1
    · rename_i hc
      obtain ⟨hx1, hsm, hk1, hk2, hfin⟩ := hc
      obtain ⟨va, sc1, rfl, hva, gs1⟩ := ab_s_cons gs
      obtain ⟨vx, sc2, rfl, hvx, gs2⟩ := ab_s_cons gs1
      obtain ⟨c, hc, rfl⟩ := ab_v1 hx1 hvx
      have hkc := ab_same_in hsm hc
      split at h1
      · rename_i e
        split at h1
        · rename_i hq
          cases h1
          obtain ⟨z, rfl⟩ := ab_v6 hq.1 hva
          exact ⟨by rw [hkc]; exact hk1, by rw [hkc]; exact hk2, hfin, e, ab_fin hk _ (List.mem_singleton.mpr rfl) (cpc + 3, CL, sc2, cm_wl M c t.2.1.toNat z) ⟨rfl, gl, gs2, gk, ab_stL_ok hN gm hq.2 hc (List.mem_singleton.mpr rfl)⟩⟩
        · cases h1
      · rename_i e
        split at h1
        · rename_i hq
          cases h1
          have hva0 := hva
          obtain ⟨z, hz, rfl⟩ := ab_v1 hq.1 hva
          exact ⟨by rw [hkc]; exact hk1, by rw [hkc]; exact hk2, hfin, e, ab_fin hk _ (List.mem_singleton.mpr rfl) (cpc + 3, CL, sc2, cm_wr M c t.2.1.toNat (some z)) ⟨rfl, gl, gs2, gk, ab_stR_ok (r := some z) hN gm hq.2 hc (by unfold ab_isI; rw [hq.1]; rfl) hva0⟩⟩
        · cases h1
      · rename_i e
        split at h1
        · rename_i hq
          cases h1
          obtain ⟨z, hz, rfl⟩ := ab_vi hq.1 hva
          have hb := ab_bd_in gk hz
          refine ⟨by rw [hkc]; exact hk1, by rw [hkc]; exact hk2, hfin, ⟨e, fun hB => ?_⟩, ab_fin hk _ (List.mem_singleton.mpr rfl) (cpc + 3, CL, sc2, cm_wi M c t.2.1.toNat z) ⟨rfl, gl, gs2, gk, ab_stI_ok hN gm hq.2.2 hc (List.mem_singleton.mpr rfl) hz hb⟩⟩
          have h2 := hq.2.1 hB
          obtain ⟨b1, b2⟩ := hb
          have : z.toInt = 0 ∨ z.toInt = 1 := by omega
          rcases this with h0 | h0
          · exact Or.inl (Int32.toInt_inj.mp (by rw [h0]; rfl))
          · exact Or.inr (Int32.toInt_inj.mp (by rw [h0]; rfl))
        · cases h1
      · cases h1
    · cases h1
  · cases h1

def ab_iaload : ab_O := fun h md P t S => match S.2.2.1 with
  | i :: x :: st => if x.1 = 1 ∧ ab_isI i = true ∧ ab_same x.2.2 (ab_kd x.2.2) = true ∧ (ab_kd x.2.2).1 = 100 + 0 then (match ab_idx S.2.2.2.1 i (ab_kd x.2.2).2 with
      | some ix => some [(S.1 + 1, S.2.1, (ab_ldI h S.2.2.2.1 S.2.2.2.2 x.2.2 ix).1 :: st, (ab_ldI h S.2.2.2.1 S.2.2.2.2 x.2.2 ix).2)]
      | none => none) else none
  | _ => none
theorem ab_iaload_ok : ab_Snd cm_iaload ab_iaload := by
  intro h N M0 md E P t S Ss C ρ k hN h1 hG hk
  obtain ⟨pc, L, st, K, Ca⟩ := S
  obtain ⟨cpc, CL, sc, M⟩ := C
  obtain ⟨e0, gl, gs, gk, gm⟩ := hG
  dsimp only at e0 gl gs gk gm
  subst e0
  unfold ab_iaload at h1
  dsimp only at h1
  split at h1
  · rename_i i x st'
    split at h1
    · rename_i hc
      obtain ⟨hx1, hi0, hsm, hk1⟩ := hc
      obtain ⟨vi, sc1, rfl, hvi, gs1⟩ := ab_s_cons gs
      obtain ⟨vx, sc2, rfl, hvx, gs2⟩ := ab_s_cons gs1
      obtain ⟨j, hj, rfl⟩ := ab_vi hi0 hvi
      obtain ⟨c, hc, rfl⟩ := ab_v1 hx1 hvx
      have hkc := ab_same_in hsm hc
      split at h1
      · rename_i ix hix
        cases h1
        obtain ⟨q1, q2, q3⟩ := ab_idx_ok gk hj hix
        obtain ⟨ext, k1, k2, k3⟩ := ab_ldI_ok (i := j.toNatClampNeg) hN gk gm (rfl : ab_ldI h K Ca x.2.2 ix = (_, _, _)) hc q3
        exact ⟨by rw [hkc]; exact hk1, q1, by rw [hkc]; exact q2, hk _ (List.mem_singleton.mpr rfl) ext (cpc + 1, CL, .int (M.1 c j.toNatClampNeg) :: sc2, M) ⟨rfl, ab_l_ap gl, ⟨ab_iv k2, ab_s_ap gs2⟩, k1, k3⟩⟩
      · cases h1
    · cases h1
  · cases h1

def ab_baload : ab_O := fun h md P t S => match S.2.2.1 with
  | i :: x :: st => if x.1 = 1 ∧ ab_isI i = true ∧ ab_same x.2.2 (ab_kd x.2.2) = true ∧ (ab_kd x.2.2).1 = 100 + 1 then (match ab_idx S.2.2.2.1 i (ab_kd x.2.2).2 with
      | some ix => some [(S.1 + 1, S.2.1, (ab_ldI h S.2.2.2.1 S.2.2.2.2 x.2.2 ix).1 :: st, (ab_ldI h S.2.2.2.1 S.2.2.2.2 x.2.2 ix).2)]
      | none => none) else none
  | _ => none
theorem ab_baload_ok : ab_Snd cm_baload ab_baload := by
  intro h N M0 md E P t S Ss C ρ k hN h1 hG hk
  obtain ⟨pc, L, st, K, Ca⟩ := S
  obtain ⟨cpc, CL, sc, M⟩ := C
  obtain ⟨e0, gl, gs, gk, gm⟩ := hG
  dsimp only at e0 gl gs gk gm
  subst e0
  unfold ab_baload at h1
  dsimp only at h1
  split at h1
  · rename_i i x st'
    split at h1
    · rename_i hc
      obtain ⟨hx1, hi0, hsm, hk1⟩ := hc
      obtain ⟨vi, sc1, rfl, hvi, gs1⟩ := ab_s_cons gs
      obtain ⟨vx, sc2, rfl, hvx, gs2⟩ := ab_s_cons gs1
      obtain ⟨j, hj, rfl⟩ := ab_vi hi0 hvi
      obtain ⟨c, hc, rfl⟩ := ab_v1 hx1 hvx
      have hkc := ab_same_in hsm hc
      split at h1
      · rename_i ix hix
        cases h1
        obtain ⟨q1, q2, q3⟩ := ab_idx_ok gk hj hix
        obtain ⟨ext, k1, k2, k3⟩ := ab_ldI_ok (i := j.toNatClampNeg) hN gk gm (rfl : ab_ldI h K Ca x.2.2 ix = (_, _, _)) hc q3
        exact ⟨by rw [hkc]; exact hk1, q1, by rw [hkc]; exact q2, hk _ (List.mem_singleton.mpr rfl) ext (cpc + 1, CL, .int (M.1 c j.toNatClampNeg) :: sc2, M) ⟨rfl, ab_l_ap gl, ⟨ab_iv k2, ab_s_ap gs2⟩, k1, k3⟩⟩
      · cases h1
    · cases h1
  · cases h1

def ab_laload : ab_O := fun h md P t S => match S.2.2.1 with
  | i :: x :: st => if x.1 = 1 ∧ ab_isI i = true ∧ ab_same x.2.2 (ab_kd x.2.2) = true ∧ (ab_kd x.2.2).1 = 100 + 2 then (match ab_idx S.2.2.2.1 i (ab_kd x.2.2).2 with
      | some _ => some [ab_adv S 1 ((6, 0, []) :: st)]
      | none => none) else none
  | _ => none
theorem ab_laload_ok : ab_Snd cm_laload ab_laload := by
  intro h N M0 md E P t S Ss C ρ k hN h1 hG hk
  obtain ⟨pc, L, st, K, Ca⟩ := S
  obtain ⟨cpc, CL, sc, M⟩ := C
  obtain ⟨e0, gl, gs, gk, gm⟩ := hG
  dsimp only at e0 gl gs gk gm
  subst e0
  unfold ab_laload at h1
  dsimp only at h1
  split at h1
  · rename_i i x st'
    split at h1
    · rename_i hc
      obtain ⟨hx1, hi0, hsm, hk1⟩ := hc
      obtain ⟨vi, sc1, rfl, hvi, gs1⟩ := ab_s_cons gs
      obtain ⟨vx, sc2, rfl, hvx, gs2⟩ := ab_s_cons gs1
      obtain ⟨j, hj, rfl⟩ := ab_vi hi0 hvi
      obtain ⟨c, hc, rfl⟩ := ab_v1 hx1 hvx
      have hkc := ab_same_in hsm hc
      split at h1
      · rename_i ix hix
        cases h1
        obtain ⟨q1, q2, q3⟩ := ab_idx_ok gk hj hix
        exact ⟨by rw [hkc]; exact hk1, q1, by rw [hkc]; exact q2, ab_fin hk _ (List.mem_singleton.mpr rfl) (cpc + 1, CL, .long (M.2.1 c j.toNatClampNeg) :: sc2, M) ⟨rfl, gl, ⟨⟨_, rfl⟩, gs2⟩, gk, gm⟩⟩
      · cases h1
    · cases h1
  · cases h1

def ab_aaload : ab_O := fun h md P t S => match S.2.2.1 with
  | i :: x :: st => if x.1 = 1 ∧ ab_isI i = true ∧ ab_same x.2.2 (ab_kd x.2.2) = true ∧ (ab_kd x.2.2).1 = 100 + 3 then (match ab_idx S.2.2.2.1 i (ab_kd x.2.2).2 with
      | some (some l) => (match ab_ldR h S.2.2.2.2 x.2.2 l with
        | some a => some [ab_adv S 1 (a :: st)]
        | none => none)
      | _ => none) else none
  | _ => none
theorem ab_aaload_ok : ab_Snd cm_aaload ab_aaload := by
  intro h N M0 md E P t S Ss C ρ k hN h1 hG hk
  obtain ⟨pc, L, st, K, Ca⟩ := S
  obtain ⟨cpc, CL, sc, M⟩ := C
  obtain ⟨e0, gl, gs, gk, gm⟩ := hG
  dsimp only at e0 gl gs gk gm
  subst e0
  unfold ab_aaload at h1
  dsimp only at h1
  split at h1
  · rename_i i x st'
    split at h1
    · rename_i hc
      obtain ⟨hx1, hi0, hsm, hk1⟩ := hc
      obtain ⟨vi, sc1, rfl, hvi, gs1⟩ := ab_s_cons gs
      obtain ⟨vx, sc2, rfl, hvx, gs2⟩ := ab_s_cons gs1
      obtain ⟨j, hj, rfl⟩ := ab_vi hi0 hvi
      obtain ⟨c, hc, rfl⟩ := ab_v1 hx1 hvx
      have hkc := ab_same_in hsm hc
      split at h1
      · rename_i l hix
        split at h1
        · rename_i a ha
          cases h1
          obtain ⟨q1, q2, q3⟩ := ab_idx_ok gk hj hix
          exact ⟨by rw [hkc]; exact hk1, q1, by rw [hkc]; exact q2, ab_fin hk _ (List.mem_singleton.mpr rfl) (cpc + 1, CL, cm_rq (M.2.2 c j.toNatClampNeg) :: sc2, M) ⟨rfl, gl, ⟨ab_ldR_ok gm ha hc q3, gs2⟩, gk, gm⟩⟩
        · cases h1
      · cases h1
    · cases h1
  · cases h1

theorem ab_nar_b (x : Int32) : True := trivial
def ab_iastore : ab_O := fun h md P t S => match S.2.2.1 with
  | a :: i :: x :: st => if x.1 = 1 ∧ ab_isI i = true ∧ ab_isI a = true ∧ ab_same x.2.2 (ab_kd x.2.2) = true ∧ (ab_kd x.2.2).1 = 100 + 0 then (match ab_idx S.2.2.2.1 i (ab_kd x.2.2).2 with
      | some ix => if ab_stI h md (ab_bd S.2.2.2.1 a) x.2.2 ix = true then some [(S.1 + 1, S.2.1, st, S.2.2.2.1, ab_keep S.2.2.2.2 x.2.2 ix a)] else none
      | none => none) else none
  | _ => none
theorem ab_iastore_ok : ab_Snd cm_iastore ab_iastore := by
  intro h N M0 md E P t S Ss C ρ k hN h1 hG hk
  obtain ⟨pc, L, st, K, Ca⟩ := S
  obtain ⟨cpc, CL, sc, M⟩ := C
  obtain ⟨e0, gl, gs, gk, gm⟩ := hG
  dsimp only at e0 gl gs gk gm
  subst e0
  unfold ab_iastore at h1
  dsimp only at h1
  split at h1
  · rename_i a i x st'
    split at h1
    · rename_i hc
      obtain ⟨hx1, hi0, ha0, hsm, hk1⟩ := hc
      obtain ⟨va, sc0, rfl, hva, gs0⟩ := ab_s_cons gs
      obtain ⟨vi, sc1, rfl, hvi, gs1⟩ := ab_s_cons gs0
      obtain ⟨vx, sc2, rfl, hvx, gs2⟩ := ab_s_cons gs1
      obtain ⟨z, hz, rfl⟩ := ab_vi ha0 hva
      obtain ⟨j, hj, rfl⟩ := ab_vi hi0 hvi
      obtain ⟨c, hc, rfl⟩ := ab_v1 hx1 hvx
      have hkc := ab_same_in hsm hc
      split at h1
      · rename_i ix hix
        split at h1
        · rename_i hs
          cases h1
          obtain ⟨q1, q2, q3⟩ := ab_idx_ok gk hj hix
          exact ⟨by rw [hkc]; exact hk1, q1, by rw [hkc]; exact q2, ab_fin hk _ (List.mem_singleton.mpr rfl) (cpc + 1, CL, sc2, cm_wi M c j.toNatClampNeg z) ⟨rfl, gl, gs2, gk, ab_stI_ok hN gm hs hc q3 hz (ab_bd_in gk hz)⟩⟩
        · cases h1
      · cases h1
    · cases h1
  · cases h1

theorem ab_hl_nil {h : ab_H} {md : ab_Md} {cs : List Nat} {ix : ab_Ix} (hs : ab_stI h md ev_ful cs ix = true) (b : Int × Int) (hb : ev_ful.1 ≤ b.1 ∧ b.2 ≤ ev_ful.2) : ab_stI h md b cs ix = true := by
  refine List.all_eq_true.mpr (fun c hc => ?_)
  have h1 := List.all_eq_true.mp hs c hc
  simp only [Bool.and_eq_true] at h1 ⊢
  refine ⟨h1.1, h1.2.1, List.all_eq_true.mpr (fun e he => ?_)⟩
  have h2 := List.all_eq_true.mp h1.2.2 e he
  simp only [Bool.or_eq_true, Bool.and_eq_true, decide_eq_true_eq] at h2 ⊢
  rcases h2 with h2 | h2
  · exact Or.inl h2
  · exact Or.inr ⟨Int.le_trans h2.1 hb.1, Int.le_trans hb.2 h2.2⟩
def ab_bastore : ab_O := fun h md P t S => match S.2.2.1 with
  | a :: i :: x :: st => if x.1 = 1 ∧ ab_isI i = true ∧ ab_isI a = true ∧ ab_same x.2.2 (ab_kd x.2.2) = true ∧ (ab_kd x.2.2).1 = 100 + 1 then (match ab_idx S.2.2.2.1 i (ab_kd x.2.2).2 with
      | some ix => if ab_stI h md ev_ful x.2.2 ix = true then some [(S.1 + 1, S.2.1, st, (ab_any S.2.2.2.1 ev_ful).2, ab_keep S.2.2.2.2 x.2.2 ix (ab_any S.2.2.2.1 ev_ful).1)] else none
      | none => none) else none
  | _ => none
theorem ab_bastore_ok : ab_Snd cm_bastore ab_bastore := by
  intro h N M0 md E P t S Ss C ρ k hN h1 hG hk
  obtain ⟨pc, L, st, K, Ca⟩ := S
  obtain ⟨cpc, CL, sc, M⟩ := C
  obtain ⟨e0, gl, gs, gk, gm⟩ := hG
  dsimp only at e0 gl gs gk gm
  subst e0
  unfold ab_bastore at h1
  dsimp only at h1
  split at h1
  · rename_i a i x st'
    split at h1
    · rename_i hc
      obtain ⟨hx1, hi0, ha0, hsm, hk1⟩ := hc
      obtain ⟨va, sc0, rfl, hva, gs0⟩ := ab_s_cons gs
      obtain ⟨vi, sc1, rfl, hvi, gs1⟩ := ab_s_cons gs0
      obtain ⟨vx, sc2, rfl, hvx, gs2⟩ := ab_s_cons gs1
      obtain ⟨z, hz, rfl⟩ := ab_vi ha0 hva
      obtain ⟨j, hj, rfl⟩ := ab_vi hi0 hvi
      obtain ⟨c, hc, rfl⟩ := ab_v1 hx1 hvx
      have hkc := ab_same_in hsm hc
      split at h1
      · rename_i ix hix
        split at h1
        · rename_i hs
          cases h1
          obtain ⟨q1, q2, q3⟩ := ab_idx_ok gk hj hix
          obtain ⟨ext, k1, k2⟩ := ab_any_ok gk (ev_ful_in (vp_nar .byte z)) (rfl : ab_any K ev_ful = (_, _))
          exact ⟨by rw [hkc]; exact hk1, q1, by rw [hkc]; exact q2, hk _ (List.mem_singleton.mpr rfl) ext (cpc + 1, CL, sc2, cm_wi M c j.toNatClampNeg (vp_nar .byte z)) ⟨rfl, ab_l_ap gl, ab_s_ap gs2, k1, ab_stI_ok hN (ab_m_ap gm) hs hc q3 k2 (ev_ful_in _)⟩⟩
        · cases h1
      · cases h1
    · cases h1
  · cases h1

def ab_lastore : ab_O := fun h md P t S => match S.2.2.1 with
  | a :: i :: x :: st => if x.1 = 1 ∧ ab_isI i = true ∧ a.1 = 6 ∧ ab_same x.2.2 (ab_kd x.2.2) = true ∧ (ab_kd x.2.2).1 = 100 + 2 then (match ab_idx S.2.2.2.1 i (ab_kd x.2.2).2 with
      | some ix => if ab_stL h md x.2.2 ix = true then some [ab_adv S 1 st] else none
      | none => none) else none
  | _ => none
theorem ab_lastore_ok : ab_Snd cm_lastore ab_lastore := by
  intro h N M0 md E P t S Ss C ρ k hN h1 hG hk
  obtain ⟨pc, L, st, K, Ca⟩ := S
  obtain ⟨cpc, CL, sc, M⟩ := C
  obtain ⟨e0, gl, gs, gk, gm⟩ := hG
  dsimp only at e0 gl gs gk gm
  subst e0
  unfold ab_lastore at h1
  dsimp only at h1
  split at h1
  · rename_i a i x st'
    split at h1
    · rename_i hc
      obtain ⟨hx1, hi0, ha0, hsm, hk1⟩ := hc
      obtain ⟨va, sc0, rfl, hva, gs0⟩ := ab_s_cons gs
      obtain ⟨vi, sc1, rfl, hvi, gs1⟩ := ab_s_cons gs0
      obtain ⟨vx, sc2, rfl, hvx, gs2⟩ := ab_s_cons gs1
      obtain ⟨z, rfl⟩ := ab_v6 ha0 hva
      obtain ⟨j, hj, rfl⟩ := ab_vi hi0 hvi
      obtain ⟨c, hc, rfl⟩ := ab_v1 hx1 hvx
      have hkc := ab_same_in hsm hc
      split at h1
      · rename_i ix hix
        split at h1
        · rename_i hs
          cases h1
          obtain ⟨q1, q2, q3⟩ := ab_idx_ok gk hj hix
          exact ⟨by rw [hkc]; exact hk1, q1, by rw [hkc]; exact q2, ab_fin hk _ (List.mem_singleton.mpr rfl) (cpc + 1, CL, sc2, cm_wl M c j.toNatClampNeg z) ⟨rfl, gl, gs2, gk, ab_stL_ok hN gm hs hc q3⟩⟩
        · cases h1
      · cases h1
    · cases h1
  · cases h1

theorem ab_len_at (ρ : List Int32) (n : Nat) : ab_i ρ (ab_c (Int32.ofNat n).toInt) = some (Int32.ofNat n) := ab_c_at ρ _
def ab_alen : ab_O := fun h md P t S => match S.2.2.1 with
  | x :: st => if x.1 = 1 ∧ x.2.2.all (fun c => decide (c ≠ 1000)) = true ∧ ab_same x.2.2 (ab_kd x.2.2) = true ∧ 100 ≤ (ab_kd x.2.2).1 ∧ (ab_kd x.2.2).1 < 104 then some [ab_adv S 1 (ab_c (Int32.ofNat (ab_kd x.2.2).2).toInt :: st)] else none
  | _ => none
theorem ab_alen_ok : ab_Snd cm_alen ab_alen := by
  intro h N M0 md E P t S Ss C ρ k hN h1 hG hk
  obtain ⟨pc, L, st, K, Ca⟩ := S
  obtain ⟨cpc, CL, sc, M⟩ := C
  obtain ⟨e0, gl, gs, gk, gm⟩ := hG
  dsimp only at e0 gl gs gk gm
  subst e0
  unfold ab_alen at h1
  dsimp only at h1
  split at h1
  · rename_i x st'
    split at h1
    · rename_i hc
      cases h1
      obtain ⟨hx1, hne, hsm, hk1, hk2⟩ := hc
      obtain ⟨vx, sc2, rfl, hvx, gs2⟩ := ab_s_cons gs
      obtain ⟨c, hc, rfl⟩ := ab_v1 hx1 hvx
      have hkc := ab_same_in hsm hc
      have h0 : ¬ c = 1000 := of_decide_eq_true (List.all_eq_true.mp hne c hc)
      unfold cm_alen
      dsimp only
      rw [if_neg h0, hkc]
      exact ⟨hk1, hk2, ab_fin hk _ (List.mem_singleton.mpr rfl) (cpc + 1, CL, .int (Int32.ofNat (ab_kd x.2.2).2) :: sc2, M) ⟨rfl, gl, ⟨ab_iv (ab_c_at ρ _), gs2⟩, gk, gm⟩⟩
    · cases h1
  · cases h1

def ab_getV : ab_O := fun h md P t S => match S.2.2.1 with
  | (1, _, [c]) :: st => if 1001 ≤ c ∧ c < 1081 ∧ c % 2 = 1 then some [ab_adv S 3 ((1, 0, [c + 1]) :: st)] else none
  | _ => none
theorem ab_getV_ok : ab_Snd cm_getV ab_getV := by
  intro h N M0 md E P t S Ss C ρ k hN h1 hG hk
  obtain ⟨pc, L, st, K, Ca⟩ := S
  obtain ⟨cpc, CL, sc, M⟩ := C
  obtain ⟨e0, gl, gs, gk, gm⟩ := hG
  dsimp only at e0 gl gs gk gm
  subst e0
  unfold ab_getV at h1
  dsimp only at h1
  split at h1
  · rename_i n c st'
    split at h1
    · rename_i hc
      cases h1
      obtain ⟨vx, sc2, rfl, ⟨c', hc', rfl⟩, gs2⟩ := ab_s_cons gs
      cases List.mem_singleton.mp hc'
      exact ⟨hc.1, hc.2.1, hc.2.2, ab_fin hk _ (List.mem_singleton.mpr rfl) (cpc + 3, CL, .ref (c + 1) :: sc2, M) ⟨rfl, gl, ⟨⟨_, List.mem_singleton.mpr rfl, rfl⟩, gs2⟩, gk, gm⟩⟩
    · cases h1
  · cases h1

def ab_getC : ab_O := fun h md P t S => match S.2.2.1 with
  | (1, _, [c]) :: st => if 1001 ≤ c ∧ c < 1081 ∧ c % 2 = 1 then some [ab_adv S 3 (ab_c 0 :: st)] else none
  | _ => none
theorem ab_getC_ok : ab_Snd cm_getC ab_getC := by
  intro h N M0 md E P t S Ss C ρ k hN h1 hG hk
  obtain ⟨pc, L, st, K, Ca⟩ := S
  obtain ⟨cpc, CL, sc, M⟩ := C
  obtain ⟨e0, gl, gs, gk, gm⟩ := hG
  dsimp only at e0 gl gs gk gm
  subst e0
  unfold ab_getC at h1
  dsimp only at h1
  split at h1
  · rename_i n c st'
    split at h1
    · rename_i hc
      cases h1
      obtain ⟨vx, sc2, rfl, ⟨c', hc', rfl⟩, gs2⟩ := ab_s_cons gs
      cases List.mem_singleton.mp hc'
      exact ⟨hc.1, hc.2.1, hc.2.2, ab_fin hk _ (List.mem_singleton.mpr rfl) (cpc + 3, CL, .int 0 :: sc2, M) ⟨rfl, gl, ⟨rfl, gs2⟩, gk, gm⟩⟩
    · cases h1
  · cases h1

def ab_alenS : ab_O := fun h md P t S => match S.2.2.1 with
  | (1, _, [c]) :: st => (match ev_strs[(c - 1001) / 2]? with
    | some r => if 1001 ≤ c ∧ c < 1081 ∧ c % 2 = 0 then some [ab_adv S 1 (ab_c (Int32.ofNat r.2.2.2.length).toInt :: st)] else none
    | none => none)
  | _ => none
theorem ab_alenS_ok : ab_Snd cm_alenS ab_alenS := by
  intro h N M0 md E P t S Ss C ρ k hN h1 hG hk
  obtain ⟨pc, L, st, K, Ca⟩ := S
  obtain ⟨cpc, CL, sc, M⟩ := C
  obtain ⟨e0, gl, gs, gk, gm⟩ := hG
  dsimp only at e0 gl gs gk gm
  subst e0
  unfold ab_alenS at h1
  dsimp only at h1
  split at h1
  · rename_i n c st'
    split at h1
    · rename_i r hr
      split at h1
      · rename_i hc
        cases h1
        obtain ⟨vx, sc2, rfl, ⟨c', hc', rfl⟩, gs2⟩ := ab_s_cons gs
        cases List.mem_singleton.mp hc'
        unfold cm_alenS
        dsimp only
        rw [hr]
        exact ⟨hc.1, hc.2.1, hc.2.2, ab_fin hk _ (List.mem_singleton.mpr rfl) (cpc + 1, CL, .int (Int32.ofNat r.2.2.2.length) :: sc2, M) ⟨rfl, gl, ⟨ab_iv (ab_c_at ρ _), gs2⟩, gk, gm⟩⟩
      · cases h1
    · cases h1
  · cases h1

def ab_baloadS : ab_O := fun h md P t S => match S.2.2.1 with
  | i :: (1, _, [c]) :: st => (match ev_strs[(c - 1001) / 2]? with
    | some r => if 1001 ≤ c ∧ c < 1081 ∧ c % 2 = 0 ∧ ab_isI i = true ∧ 0 ≤ (ab_bd S.2.2.2.1 i).1 ∧ (ab_bd S.2.2.2.1 i).2 < (r.2.2.2.length : Int) then some [ab_advK S 1 ((ab_any S.2.2.2.1 ev_ful).1 :: st) (ab_any S.2.2.2.1 ev_ful).2] else none
    | none => none)
  | _ => none
theorem ab_baloadS_ok : ab_Snd cm_baloadS ab_baloadS := by
  intro h N M0 md E P t S Ss C ρ k hN h1 hG hk
  obtain ⟨pc, L, st, K, Ca⟩ := S
  obtain ⟨cpc, CL, sc, M⟩ := C
  obtain ⟨e0, gl, gs, gk, gm⟩ := hG
  dsimp only at e0 gl gs gk gm
  subst e0
  unfold ab_baloadS at h1
  dsimp only at h1
  split at h1
  · rename_i i n c st'
    split at h1
    · rename_i r hr
      split at h1
      · rename_i hc
        cases h1
        obtain ⟨vi, sc1, rfl, hvi, gs1⟩ := ab_s_cons gs
        obtain ⟨vx, sc2, rfl, ⟨c', hc', rfl⟩, gs2⟩ := ab_s_cons gs1
        cases List.mem_singleton.mp hc'
        obtain ⟨c1, c2, c3, c4, c5, c6⟩ := hc
        obtain ⟨j, hj, rfl⟩ := ab_vi c4 hvi
        obtain ⟨b1, b2⟩ := ab_bd_in gk hj
        obtain ⟨ext, k1, k2⟩ := ab_any_ok gk (ev_ful_in (r.2.2.2.getD j.toNatClampNeg 0)) (rfl : ab_any K ev_ful = (_, _))
        unfold cm_baloadS
        dsimp only
        rw [hr]
        exact ⟨c1, c2, c3, by omega, by omega, hk _ (List.mem_singleton.mpr rfl) ext (cpc + 1, CL, .int (r.2.2.2.getD j.toNatClampNeg 0) :: sc2, M) ⟨rfl, ab_l_ap gl, ⟨ab_iv k2, ab_s_ap gs2⟩, k1, ab_m_ap gm⟩⟩
      · cases h1
    · cases h1
  · cases h1

theorem ab_tens_in (j : Nat) (hj : j < 5) : ev_inb (1, 10000) (cm_tens j) := by
  have : ∀ j : Fin 5, ev_inb (1, 10000) (cm_tens j.val) := by
    unfold ev_inb
    decide
  exact this ⟨j, hj⟩
def ab_tald : ab_O := fun h md P t S => match S.2.2.1 with
  | i :: (1, _, [c]) :: st => if c = 1100 ∧ ab_isI i = true ∧ 0 ≤ (ab_bd S.2.2.2.1 i).1 ∧ (ab_bd S.2.2.2.1 i).2 < 5 then some [ab_advK S 1 ((ab_any S.2.2.2.1 (1, 10000)).1 :: st) (ab_any S.2.2.2.1 (1, 10000)).2] else none
  | _ => none
theorem ab_tald_ok : ab_Snd cm_tald ab_tald := by
  intro h N M0 md E P t S Ss C ρ k hN h1 hG hk
  obtain ⟨pc, L, st, K, Ca⟩ := S
  obtain ⟨cpc, CL, sc, M⟩ := C
  obtain ⟨e0, gl, gs, gk, gm⟩ := hG
  dsimp only at e0 gl gs gk gm
  subst e0
  unfold ab_tald at h1
  dsimp only at h1
  split at h1
  · rename_i i n c st'
    split at h1
    · rename_i hc
      cases h1
      obtain ⟨vi, sc1, rfl, hvi, gs1⟩ := ab_s_cons gs
      obtain ⟨vx, sc2, rfl, ⟨c', hc', rfl⟩, gs2⟩ := ab_s_cons gs1
      cases List.mem_singleton.mp hc'
      obtain ⟨c1, c4, c5, c6⟩ := hc
      obtain ⟨j, hj, rfl⟩ := ab_vi c4 hvi
      obtain ⟨b1, b2⟩ := ab_bd_in gk hj
      have hj5 : j.toNatClampNeg < 5 := by
        show j.toInt.toNat < 5
        omega
      obtain ⟨ext, k1, k2⟩ := ab_any_ok gk (ab_tens_in j.toNatClampNeg hj5) (rfl : ab_any K (1, 10000) = (_, _))
      exact ⟨c1, by omega, by omega, hk _ (List.mem_singleton.mpr rfl) ext (cpc + 1, CL, .int (cm_tens j.toNatClampNeg) :: sc2, M) ⟨rfl, ab_l_ap gl, ⟨ab_iv k2, ab_s_ap gs2⟩, k1, ab_m_ap gm⟩⟩
    · cases h1
  · cases h1

def ab_alenT : ab_O := fun h md P t S => match S.2.2.1 with
  | (1, _, [c]) :: st => if c = 1100 then some [ab_adv S 1 (ab_c 5 :: st)] else none
  | _ => none
theorem ab_alenT_ok : ab_Snd cm_alenT ab_alenT := by
  intro h N M0 md E P t S Ss C ρ k hN h1 hG hk
  obtain ⟨pc, L, st, K, Ca⟩ := S
  obtain ⟨cpc, CL, sc, M⟩ := C
  obtain ⟨e0, gl, gs, gk, gm⟩ := hG
  dsimp only at e0 gl gs gk gm
  subst e0
  unfold ab_alenT at h1
  dsimp only at h1
  split at h1
  · rename_i n c st'
    split at h1
    · rename_i hc
      cases h1
      obtain ⟨vx, sc2, rfl, ⟨c', hc', rfl⟩, gs2⟩ := ab_s_cons gs
      cases List.mem_singleton.mp hc'
      exact ⟨hc, ab_fin hk _ (List.mem_singleton.mpr rfl) (cpc + 1, CL, .int 5 :: sc2, M) ⟨rfl, gl, ⟨rfl, gs2⟩, gk, gm⟩⟩
    · cases h1
  · cases h1

def ab_copyi : ab_O := fun h md P t S => match S.2.2.1 with
  | n :: dp :: y :: sp :: x :: st => if ab_cs st ≤ 8 ∧ x.1 = 1 ∧ y.1 = 1 ∧ ab_isI n = true ∧ ab_isI dp = true ∧ ab_isI sp = true ∧ ab_same x.2.2 (ab_kd x.2.2) = true ∧ ab_same y.2.2 (ab_kd y.2.2) = true ∧ (ab_kd x.2.2).1 = 100 ∧ (ab_kd y.2.2).1 = 100 ∧ 0 ≤ (ab_bd S.2.2.2.1 sp).1 ∧ 0 ≤ (ab_bd S.2.2.2.1 dp).1 ∧ 0 ≤ (ab_bd S.2.2.2.1 n).1 ∧ (ab_bd S.2.2.2.1 sp).2 + (ab_bd S.2.2.2.1 n).2 ≤ ((ab_kd x.2.2).2 : Int) ∧ (ab_bd S.2.2.2.1 dp).2 + (ab_bd S.2.2.2.1 n).2 ≤ ((ab_kd y.2.2).2 : Int) ∧ ab_stC h md y.2.2 = true then some [(S.1 + 3, S.2.1, st, S.2.2.2.1, ab_drop S.2.2.2.2 y.2.2 none)] else none
  | _ => none
theorem ab_copyi_ok : ab_Snd cm_copyi ab_copyi := by
  intro h N M0 md E P t S Ss C ρ k hN h1 hG hk
  obtain ⟨pc, L, st, K, Ca⟩ := S
  obtain ⟨cpc, CL, sc, M⟩ := C
  obtain ⟨e0, gl, gs, gk, gm⟩ := hG
  dsimp only at e0 gl gs gk gm
  subst e0
  unfold ab_copyi at h1
  dsimp only at h1
  split at h1
  · rename_i n dp y sp x st'
    split at h1
    · rename_i hc
      cases h1
      obtain ⟨z0, z1, z2, z3, z4, z5, z6, z7, z8, z9, y1, y2, y3, y4, y5, y6⟩ := hc
      obtain ⟨v1, sc1, rfl, h1v, gs1⟩ := ab_s_cons gs
      obtain ⟨v2, sc2, rfl, h2v, gs2⟩ := ab_s_cons gs1
      obtain ⟨v3, sc3, rfl, h3v, gs3⟩ := ab_s_cons gs2
      obtain ⟨v4, sc4, rfl, h4v, gs4⟩ := ab_s_cons gs3
      obtain ⟨v5, sc5, rfl, h5v, gs5⟩ := ab_s_cons gs4
      obtain ⟨n0, hn, rfl⟩ := ab_vi z3 h1v
      obtain ⟨dp0, hdp, rfl⟩ := ab_vi z4 h2v
      obtain ⟨d, hd, rfl⟩ := ab_v1 z2 h3v
      obtain ⟨sp0, hsp, rfl⟩ := ab_vi z5 h4v
      obtain ⟨c, hc, rfl⟩ := ab_v1 z1 h5v
      have hkc := ab_same_in z6 hc
      have hkd := ab_same_in z7 hd
      obtain ⟨a1, a2⟩ := ab_bd_in gk hn
      obtain ⟨b1, b2⟩ := ab_bd_in gk hdp
      obtain ⟨c1, c2⟩ := ab_bd_in gk hsp
      have hcs := ab_cs_ok gs5
      exact ⟨by rw [hcs]; exact z0, by rw [hkc]; exact z8, by rw [hkd]; exact z9, by omega, by omega, by omega, by rw [hkc]; omega, by rw [hkd]; omega, ab_fin hk _ (List.mem_singleton.mpr rfl) (cpc + 3, CL, sc5, cm_cp M c sp0.toNatClampNeg d dp0.toNatClampNeg n0.toNatClampNeg) ⟨rfl, gl, gs5, gk, ab_stC_ok hN gm y6 hd⟩⟩
    · cases h1
  · cases h1
/-! AB: runs -/
def ab_ops : List ab_O := [ab_iconst, ab_bipush, ab_sipush, ab_lconst, ab_iload, ab_iloadn, ab_lload, ab_lloadn, ab_aload, ab_aloadn, ab_istore, ab_istoren, ab_lstore, ab_lstoren, ab_astore, ab_astoren, ab_iadd, ab_isub, ab_imul, ab_iand, ab_ior, ab_ixor, ab_ishl, ab_ishr, ab_iushr, ab_idiv, ab_irem, ab_ineg, ab_i2b, ab_i2l, ab_lcmp, ab_dup, ab_pop, ab_dup2, ab_iinc, ab_icmp_eq, ab_icmp_ne, ab_icmp_lt, ab_icmp_ge, ab_icmp_gt, ab_icmp_le, ab_if_eq, ab_if_ne, ab_if_lt, ab_if_ge, ab_if_gt, ab_if_le, ab_goto, ab_sw, ab_get, ab_put, ab_no, ab_iaload, ab_baload, ab_laload, ab_aaload, ab_iastore, ab_bastore, ab_no, ab_no, ab_no, ab_no, ab_no, ab_no, ab_alen, ab_no, ab_no, ab_mmin, ab_ldc, ab_ldcS, ab_getV, ab_getC, ab_gets, ab_alenS, ab_baloadS, ab_i2c, ab_ladd, ab_lsub, ab_lmul, ab_no, ab_no, ab_ldc2, ab_getsF, ab_ldcw, ab_mmax, ab_mabs, ab_copyi, ab_getT, ab_tald, ab_alenT, ab_lastore, ab_pop2]
def ab_All2 : List cm_O → List ab_O → Prop
  | [], [] => True
  | o :: os, a :: as => ab_Snd o a ∧ ab_All2 os as
  | _, _ => False
theorem ab_All2_at : ∀ {os : List cm_O} {as : List ab_O}, ab_All2 os as → ∀ (k : Nat) (a : ab_O), as[k]? = some a → ∃ o, os[k]? = some o ∧ ab_Snd o a
  | [], [], _, k, a, h => by cases h
  | [], _ :: _, h, _, _, _ => h.elim
  | _ :: _, [], h, _, _, _ => h.elim
  | o :: os, x :: as, h, 0, a, e => by cases e; exact ⟨o, rfl, h.1⟩
  | o :: os, x :: as, h, k + 1, a, e => ab_All2_at h.2 k a e
theorem ab_ops_ok : ab_All2 cm_ops ab_ops := ⟨ab_iconst_ok, ⟨ab_bipush_ok, ⟨ab_sipush_ok, ⟨ab_lconst_ok, ⟨ab_iload_ok, ⟨ab_iloadn_ok, ⟨ab_lload_ok, ⟨ab_lloadn_ok, ⟨ab_aload_ok, ⟨ab_aloadn_ok, ⟨ab_istore_ok, ⟨ab_istoren_ok, ⟨ab_lstore_ok, ⟨ab_lstoren_ok, ⟨ab_astore_ok, ⟨ab_astoren_ok, ⟨ab_iadd_ok, ⟨ab_isub_ok, ⟨ab_imul_ok, ⟨ab_iand_ok, ⟨ab_ior_ok, ⟨ab_ixor_ok, ⟨ab_ishl_ok, ⟨ab_ishr_ok, ⟨ab_iushr_ok, ⟨ab_idiv_ok, ⟨ab_irem_ok, ⟨ab_ineg_ok, ⟨ab_i2b_ok, ⟨ab_i2l_ok, ⟨ab_lcmp_ok, ⟨ab_dup_ok, ⟨ab_pop_ok, ⟨ab_dup2_ok, ⟨ab_iinc_ok, ⟨ab_icmp_eq_ok, ⟨ab_icmp_ne_ok, ⟨ab_icmp_lt_ok, ⟨ab_icmp_ge_ok, ⟨ab_icmp_gt_ok, ⟨ab_icmp_le_ok, ⟨ab_if_eq_ok, ⟨ab_if_ne_ok, ⟨ab_if_lt_ok, ⟨ab_if_ge_ok, ⟨ab_if_gt_ok, ⟨ab_if_le_ok, ⟨ab_goto_ok, ⟨ab_sw_ok, ⟨ab_get_ok, ⟨ab_put_ok, ⟨ab_no_ok _, ⟨ab_iaload_ok, ⟨ab_baload_ok, ⟨ab_laload_ok, ⟨ab_aaload_ok, ⟨ab_iastore_ok, ⟨ab_bastore_ok, ⟨ab_no_ok _, ⟨ab_no_ok _, ⟨ab_no_ok _, ⟨ab_no_ok _, ⟨ab_no_ok _, ⟨ab_no_ok _, ⟨ab_alen_ok, ⟨ab_no_ok _, ⟨ab_no_ok _, ⟨ab_mmin_ok, ⟨ab_ldc_ok, ⟨ab_ldcS_ok, ⟨ab_getV_ok, ⟨ab_getC_ok, ⟨ab_gets_ok, ⟨ab_alenS_ok, ⟨ab_baloadS_ok, ⟨ab_i2c_ok, ⟨ab_ladd_ok, ⟨ab_lsub_ok, ⟨ab_lmul_ok, ⟨ab_no_ok _, ⟨ab_no_ok _, ⟨ab_ldc2_ok, ⟨ab_getsF_ok, ⟨ab_ldcw_ok, ⟨ab_mmax_ok, ⟨ab_mabs_ok, ⟨ab_copyi_ok, ⟨ab_getT_ok, ⟨ab_tald_ok, ⟨ab_alenT_ok, ⟨ab_lastore_ok, ⟨ab_pop2_ok, trivial⟩⟩⟩⟩⟩⟩⟩⟩⟩⟩⟩⟩⟩⟩⟩⟩⟩⟩⟩⟩⟩⟩⟩⟩⟩⟩⟩⟩⟩⟩⟩⟩⟩⟩⟩⟩⟩⟩⟩⟩⟩⟩⟩⟩⟩⟩⟩⟩⟩⟩⟩⟩⟩⟩⟩⟩⟩⟩⟩⟩⟩⟩⟩⟩⟩⟩⟩⟩⟩⟩⟩⟩⟩⟩⟩⟩⟩⟩⟩⟩⟩⟩⟩⟩⟩⟩⟩⟩⟩⟩⟩⟩
abbrev ab_Out : Type := List ab_A × ab_K × ab_Ca
abbrev ab_Cl : Type := Nat → List ab_A → ab_K → ab_Ca → Option (List ab_Out)
def ab_take (recv : Bool) (n : Nat) (st : List ab_A) : Option (List ab_A × List ab_A) :=
  if recv = true then (match st.drop n with
    | x :: rest => if (st.take n).length = n then some (x :: (st.take n).reverse, rest) else none
    | [] => none)
  else (if (st.take n).length = n then some ((st.take n).reverse, st.drop n) else none)
/-- the receiver: one of the class's cells (99: a text) -/
def ab_recv (ci : Int) : List ab_A → Bool
  | a :: _ => decide (a.1 = 1) && a.2.2.all (fun c => if ci = 99 then decide (1001 ≤ c) && (decide (c < 1081) && decide (c % 2 = 1)) else decide ((cm_kind c).1 = ci.toNat))
  | [] => false
def ab_rcv (r : ev_Row) (as : List ab_A) : Bool := if r.1 = 200 then (match r.2.2.2.2 with
  | [ci] => ab_recv ci as
  | _ => false) else true
def ab_inv (cl : ab_Cl) (r : ev_Row) (S : ab_S) : Option (List ab_S) := match ab_take (!(r.1 == 201)) r.2.2.2.1.toNat S.2.2.1 with
  | some (as, rest) => if ab_cs rest ≤ 8 ∧ ab_rcv r as = true then (match cl r.2.1.toNat as S.2.2.2.1 S.2.2.2.2 with
      | some outs => some (outs.map (fun o => (S.1 + 3, S.2.1, o.1 ++ rest, o.2)))
      | none => none) else none
  | none => none
def ab_pick (L : List (Nat × ab_A)) : List Nat → Option (List (Nat × ab_A))
  | [] => some []
  | i :: r => match ev_at L i, ab_pick L r with
    | some v, some l => some ((i, v) :: l)
    | _, _ => none
theorem ab_pick_at {L : List (Nat × ab_A)} : ∀ {live : List Nat} {L' : List (Nat × ab_A)}, ab_pick L live = some L' → ∀ q ∈ L', ev_at L q.1 = some q.2
  | [], L', h => by cases h; exact fun q hq => nomatch hq
  | i :: r, L', h => by
    unfold ab_pick at h
    split at h
    · rename_i v l h1 h2
      cases h
      intro q hq
      rcases List.mem_cons.mp hq with rfl | hq
      · exact h1
      · exact ab_pick_at h2 q hq
    · cases h
theorem ab_pick_ok {ρ : List Int32} {L : List (Nat × ab_A)} {CL : List (Nat × Value)} (hl : ab_l ρ L CL) : ∀ {live : List Nat} {L' : List (Nat × ab_A)}, ab_pick L live = some L' → ∃ CL', cm_pick CL live = some CL' ∧ ab_l ρ L' CL'
  | [], L', h => by cases h; exact ⟨[], rfl, fun q hq => nomatch hq⟩
  | i :: r, L', h => by
    unfold ab_pick at h
    split at h
    · rename_i v l h1 h2
      cases h
      obtain ⟨CL', e1, e2⟩ := ab_pick_ok hl h2
      obtain ⟨x, x1, x2⟩ := hl _ (ev_at_mem h1)
      refine ⟨(i, x) :: CL', by unfold cm_pick; rw [x1, e1], fun q hq => ?_⟩
      rcases List.mem_cons.mp hq with rfl | hq
      · exact ⟨x, by unfold cm_look; rw [if_pos rfl], x2⟩
      · by_cases e : i = q.1
        · have := ab_pick_at h2 q hq
          rw [← e, h1] at this
          cases this
          exact ⟨x, by unfold cm_look; rw [if_pos e], x2⟩
        · obtain ⟨y, y1, y2⟩ := e2 q hq
          exact ⟨y, by unfold cm_look; rw [if_neg e]; exact y1, y2⟩
    · cases h
def ab_all {α β : Type} (f : α → Option (List β)) : List α → Option (List β)
  | [] => some []
  | S :: r => match f S, ab_all f r with
    | some a, some b => some (a ++ b)
    | _, _ => none
theorem ab_all_ok {α β : Type} {f : α → Option (List β)} : ∀ {Ss : List α} {o : List β}, ab_all f Ss = some o → ∀ S ∈ Ss, ∃ o', f S = some o' ∧ ∀ x ∈ o', x ∈ o
  | [], o, h => fun S hS => nomatch hS
  | S :: r, o, h => by
    unfold ab_all at h
    split at h
    · rename_i a b ha hb
      cases h
      intro S' hS'
      rcases List.mem_cons.mp hS' with rfl | hS'
      · exact ⟨a, ha, fun x hx => List.mem_append_left _ hx⟩
      · obtain ⟨o', h1, h2⟩ := ab_all_ok hb S' hS'
        exact ⟨o', h1, fun x hx => List.mem_append_right _ (h2 x hx)⟩
    · cases h
def ab_stop (stops : List (Nat × List Nat)) (k : ab_S → Option (List (Bool × ab_S))) (S : ab_S) : Option (List (Bool × ab_S)) := match ev_at stops S.1 with
  | none => k S
  | some live => (match ab_pick S.2.1 live with
    | some L => some [(true, S.1, L, S.2.2)]
    | none => none)
def ol_0 : List ab_O := [ab_iconst, ab_bipush, ab_sipush, ab_lconst, ab_iload, ab_iloadn]
def ol_1 : List ab_O := [ab_lload, ab_lloadn, ab_aload, ab_aloadn, ab_istore, ab_istoren]
def ol_2 : List ab_O := [ab_lstore, ab_lstoren, ab_astore, ab_astoren, ab_iadd, ab_isub]
def ol_3 : List ab_O := [ab_imul, ab_iand, ab_ior, ab_ixor, ab_ishl, ab_ishr]
def ol_4 : List ab_O := [ab_iushr, ab_idiv, ab_irem, ab_ineg, ab_i2b, ab_i2l]
def ol_5 : List ab_O := [ab_lcmp, ab_dup, ab_pop, ab_dup2, ab_iinc, ab_icmp_eq]
def ol_6 : List ab_O := [ab_icmp_ne, ab_icmp_lt, ab_icmp_ge, ab_icmp_gt, ab_icmp_le, ab_if_eq]
def ol_7 : List ab_O := [ab_if_ne, ab_if_lt, ab_if_ge, ab_if_gt, ab_if_le, ab_goto]
def ol_8 : List ab_O := [ab_sw, ab_get, ab_put, ab_no, ab_iaload, ab_baload]
def ol_9 : List ab_O := [ab_laload, ab_aaload, ab_iastore, ab_bastore, ab_no, ab_no]
def ol_10 : List ab_O := [ab_no, ab_no, ab_no, ab_no, ab_alen, ab_no]
def ol_11 : List ab_O := [ab_no, ab_mmin, ab_ldc, ab_ldcS, ab_getV, ab_getC]
def ol_12 : List ab_O := [ab_gets, ab_alenS, ab_baloadS, ab_i2c, ab_ladd, ab_lsub]
def ol_13 : List ab_O := [ab_lmul, ab_no, ab_no, ab_ldc2, ab_getsF, ab_ldcw]
def ol_14 : List ab_O := [ab_mmax, ab_mabs, ab_copyi, ab_getT, ab_tald, ab_alenT]
def ol_15 : List ab_O := [ab_lastore, ab_pop2]
theorem ap_at {α : Type} {A B : List α} {N k : Nat} {x y : Option α} (h : A.length = N) (hb : y = B[k - N]?) (ha : x = A[k]?) : cond (Nat.ble N k) y x = (A ++ B)[k]? := by
  subst h
  cases hk : Nat.ble A.length k with
  | true => exact hb.trans (List.getElem?_append_right (Nat.le_of_ble_eq_true hk)).symm
  | false =>
    have hlt : k < A.length := Nat.lt_of_not_le (fun z => by
      have := Nat.ble_eq_true_of_le z
      rw [hk] at this
      cases this)
    exact ha.trans (List.getElem?_append_left hlt).symm
def ab_opF (k : Nat) : Option ab_O := cond (Nat.ble 48 k) (cond (Nat.ble 24 (k - 48)) (cond (Nat.ble 12 ((k - 48) - 24)) (cond (Nat.ble 6 (((k - 48) - 24) - 12)) (ol_15[(((k - 48) - 24) - 12) - 6]?) (ol_14[((k - 48) - 24) - 12]?)) (cond (Nat.ble 6 ((k - 48) - 24)) (ol_13[((k - 48) - 24) - 6]?) (ol_12[(k - 48) - 24]?))) (cond (Nat.ble 12 (k - 48)) (cond (Nat.ble 6 ((k - 48) - 12)) (ol_11[((k - 48) - 12) - 6]?) (ol_10[(k - 48) - 12]?)) (cond (Nat.ble 6 (k - 48)) (ol_9[(k - 48) - 6]?) (ol_8[k - 48]?)))) (cond (Nat.ble 24 k) (cond (Nat.ble 12 (k - 24)) (cond (Nat.ble 6 ((k - 24) - 12)) (ol_7[((k - 24) - 12) - 6]?) (ol_6[(k - 24) - 12]?)) (cond (Nat.ble 6 (k - 24)) (ol_5[(k - 24) - 6]?) (ol_4[k - 24]?))) (cond (Nat.ble 12 k) (cond (Nat.ble 6 (k - 12)) (ol_3[(k - 12) - 6]?) (ol_2[k - 12]?)) (cond (Nat.ble 6 k) (ol_1[k - 6]?) (ol_0[k]?))))
theorem ab_opF_eq (k : Nat) : ab_opF k = ab_ops[k]? := by
  have e : ab_ops = (((ol_0 ++ ol_1) ++ (ol_2 ++ ol_3)) ++ ((ol_4 ++ ol_5) ++ (ol_6 ++ ol_7))) ++ (((ol_8 ++ ol_9) ++ (ol_10 ++ ol_11)) ++ ((ol_12 ++ ol_13) ++ (ol_14 ++ ol_15))) := rfl
  rw [e]
  unfold ab_opF
  exact ap_at rfl (ap_at rfl (ap_at rfl (ap_at rfl rfl rfl) (ap_at rfl rfl rfl)) (ap_at rfl (ap_at rfl rfl rfl) (ap_at rfl rfl rfl))) (ap_at rfl (ap_at rfl (ap_at rfl rfl rfl) (ap_at rfl rfl rfl)) (ap_at rfl (ap_at rfl rfl rfl) (ap_at rfl rfl rfl)))
/-- rows: by the tail behind the last one -/
def ab_srt : List (Nat × ev_Row) → Bool
  | [] => true
  | q :: l => (match l with
    | [] => true
    | p :: _ => Nat.blt q.1 p.1) && ab_srt l
theorem ab_srt_tl {q : Nat × ev_Row} {l : List (Nat × ev_Row)} (h : ab_srt (q :: l) = true) : ab_srt l = true := by
  unfold ab_srt at h
  rw [Bool.and_eq_true] at h
  exact h.2
theorem ab_srt_lt : ∀ {l : List (Nat × ev_Row)} {q : Nat × ev_Row}, ab_srt (q :: l) = true → ∀ x ∈ l, q.1 < x.1
  | [], q, _ => fun x hx => nomatch hx
  | p :: l, q, h => by
    have h2 := ab_srt_tl h
    have h : (Nat.blt q.1 p.1 && ab_srt (p :: l)) = true := h
    rw [Bool.and_eq_true] at h
    have h1 : q.1 < p.1 := Nat.le_of_ble_eq_true (show Nat.ble (q.1 + 1) p.1 = true from h.1)
    intro x hx
    rcases List.mem_cons.mp hx with rfl | hx
    · exact h1
    · exact Nat.lt_trans h1 (ab_srt_lt h2 x hx)
theorem ab_at_mid : ∀ {pre : List (Nat × ev_Row)} {q : Nat × ev_Row} {tl : List (Nat × ev_Row)}, ab_srt (pre ++ q :: tl) = true → ev_at (pre ++ q :: tl) q.1 = some q.2
  | [], q, tl, _ => by
    show cond (Nat.beq q.1 q.1) (some q.2) (ev_at tl q.1) = some q.2
    exact (congrArg (fun b => cond b (some q.2) (ev_at tl q.1)) (Nat.beq_refl q.1)).trans rfl
  | p :: pre, q, tl, h => by
    have h1 : p.1 < q.1 := ab_srt_lt (show ab_srt (p :: (pre ++ q :: tl)) = true from h) q (List.mem_append_right _ List.mem_cons_self)
    have h2 : ab_srt (pre ++ q :: tl) = true := ab_srt_tl (show ab_srt (p :: (pre ++ q :: tl)) = true from h)
    show cond (Nat.beq p.1 q.1) (some p.2) (ev_at (pre ++ q :: tl) q.1) = some q.2
    cases hb : Nat.beq p.1 q.1 with
    | true =>
      have := Nat.eq_of_beq_eq_true hb
      omega
    | false => exact ab_at_mid h2
def ab_tl (rows : List (Nat × ev_Row)) (pc : Nat) : List (Nat × ev_Row) := match rows with
  | [] => []
  | q :: l => cond (Nat.beq q.1 pc) (q :: l) (ab_tl l pc)
theorem ab_tl_ok : ∀ {rows : List (Nat × ev_Row)} {pc : Nat} {q : Nat × ev_Row} {tl : List (Nat × ev_Row)}, ab_tl rows pc = q :: tl → q.1 = pc ∧ ∃ pre, rows = pre ++ q :: tl
  | [], pc, q, tl, h => by cases h
  | p :: l, pc, q, tl, h => by
    have h : cond (Nat.beq p.1 pc) (p :: l) (ab_tl l pc) = q :: tl := h
    cases hb : Nat.beq p.1 pc with
    | true =>
      rw [hb] at h
      have h : p :: l = q :: tl := h
      cases h
      exact ⟨Nat.eq_of_beq_eq_true hb, [], rfl⟩
    | false =>
      rw [hb] at h
      obtain ⟨h1, pre, h2⟩ := ab_tl_ok (show ab_tl l pc = q :: tl from h)
      exact ⟨h1, p :: pre, congrArg (List.cons p) h2⟩
def ab_nx (rows tl : List (Nat × ev_Row)) (pc : Nat) : List (Nat × ev_Row) := match tl with
  | [] => ab_tl rows pc
  | q :: l => cond (Nat.beq q.1 pc) (q :: l) (ab_tl rows pc)
theorem ab_nx_ok {rows tl : List (Nat × ev_Row)} {pc : Nat} {q : Nat × ev_Row} {tl' : List (Nat × ev_Row)} (hs : ab_srt rows = true) (ht : ∃ pre, rows = pre ++ tl) (h : ab_nx rows tl pc = q :: tl') : ev_at rows pc = some q.2 ∧ q ∈ rows ∧ ∃ pre, rows = pre ++ tl' := by
  have k : q.1 = pc ∧ ∃ pre, rows = pre ++ q :: tl' := by
    cases tl with
    | nil => exact ab_tl_ok (show ab_tl rows pc = q :: tl' from h)
    | cons p l =>
      have h : cond (Nat.beq p.1 pc) (p :: l) (ab_tl rows pc) = q :: tl' := h
      cases hb : Nat.beq p.1 pc with
      | true =>
        rw [hb] at h
        have h : p :: l = q :: tl' := h
        cases h
        exact ⟨Nat.eq_of_beq_eq_true hb, ht⟩
      | false =>
        rw [hb] at h
        exact ab_tl_ok (show ab_tl rows pc = q :: tl' from h)
  obtain ⟨k1, pre, k2⟩ := k
  subst k1
  subst k2
  exact ⟨ab_at_mid hs, List.mem_append_right _ List.mem_cons_self, pre ++ [q], by simp⟩
/-- a run to its ends: at stops (true), at returns (false) -/
def ab_runT (cl : ab_Cl) (h : ab_H) (md : ab_Md) (P : ev_P) (rows : List (Nat × ev_Row)) (stops : List (Nat × List Nat)) : Nat → List (Nat × ev_Row) → ab_S → Option (List (Bool × ab_S))
  | 0, _, _ => none
  | n + 1, tl, S => match ab_nx rows tl S.1 with
    | [] => none
    | r :: tl' =>
      if 210 ≤ r.2.1 then some [(false, S)]
      else if 200 ≤ r.2.1 then (match ab_inv cl r.2 S with
        | some Ss => ab_all (ab_stop stops (ab_runT cl h md P rows stops n tl')) Ss
        | none => none)
      else (match ab_opF r.2.1 with
        | some o => (match o h md P r.2.2 S with
          | some Ss => ab_all (ab_stop stops (ab_runT cl h md P rows stops n tl')) Ss
          | none => none)
        | none => none)
def ab_run (cl : ab_Cl) (h : ab_H) (md : ab_Md) (P : ev_P) (rows : List (Nat × ev_Row)) (stops : List (Nat × List Nat)) (n : Nat) (S : ab_S) : Option (List (Bool × ab_S)) := cond (ab_srt rows) (ab_runT cl h md P rows stops n rows S) none
theorem ab_s_app {ρ : List Int32} : ∀ {a b : List ab_A} {x y : List Value}, ab_s ρ a x → ab_s ρ b y → ab_s ρ (a ++ b) (x ++ y)
  | [], _, [], _, _, h => h
  | [], _, _ :: _, _, h, _ => h.elim
  | _ :: _, _, [], _, h, _ => h.elim
  | _ :: _, _, _ :: _, _, h1, h2 => ⟨h1.1, ab_s_app h1.2 h2⟩
theorem ab_s_rev {ρ : List Int32} : ∀ {a : List ab_A} {x : List Value}, ab_s ρ a x → ab_s ρ a.reverse x.reverse
  | [], [], _ => trivial
  | [], _ :: _, h => h.elim
  | _ :: _, [], h => h.elim
  | a :: as, x :: xs, h => by
    rw [List.reverse_cons, List.reverse_cons]
    exact ab_s_app (ab_s_rev h.2) ⟨h.1, trivial⟩
theorem ab_s_split {ρ : List Int32} : ∀ (n : Nat) {a : List ab_A} {x : List Value}, ab_s ρ a x → ab_s ρ (a.take n) (x.take n) ∧ ab_s ρ (a.drop n) (x.drop n)
  | 0, _, _, h => ⟨trivial, h⟩
  | _ + 1, [], [], _ => ⟨trivial, trivial⟩
  | _ + 1, [], _ :: _, h => h.elim
  | _ + 1, _ :: _, [], h => h.elim
  | n + 1, _ :: _, _ :: _, h => ⟨⟨h.1, (ab_s_split n h.2).1⟩, (ab_s_split n h.2).2⟩
theorem ab_s_len {ρ : List Int32} : ∀ {a : List ab_A} {x : List Value}, ab_s ρ a x → a.length = x.length
  | [], [], _ => rfl
  | [], _ :: _, h => h.elim
  | _ :: _, [], h => h.elim
  | _ :: _, _ :: _, h => congrArg Nat.succ (ab_s_len h.2)
theorem ab_take_ok {ρ : List Int32} {recv : Bool} {n : Nat} {st as rest : List ab_A} {sc : List Value} (h : ab_take recv n st = some (as, rest)) (hs : ab_s ρ st sc) : ∃ vs restc, cm_take recv n sc = some (vs, restc) ∧ ab_s ρ as vs ∧ ab_s ρ rest restc := by
  obtain ⟨t1, t2⟩ := ab_s_split n hs
  have hl := ab_s_len t1
  unfold ab_take at h
  unfold cm_take
  split at h
  · rename_i hr
    rw [if_pos hr]
    split at h
    · rename_i x rest' hd
      split at h
      · rename_i hn
        cases h
        rw [hd] at t2
        obtain ⟨v, sc', e1, e2, e3⟩ := ab_s_cons t2
        rw [e1]
        dsimp only
        rw [if_pos (by rw [← hl]; exact hn)]
        exact ⟨_, _, rfl, ⟨e2, ab_s_rev t1⟩, e3⟩
      · cases h
    · cases h
  · rename_i hr
    rw [if_neg hr]
    split at h
    · rename_i hn
      cases h
      rw [if_pos (by rw [← hl]; exact hn)]
      exact ⟨_, _, rfl, ab_s_rev t1, t2⟩
    · cases h
section ABR
variable {ms : List ev_MI} {h : ab_H} {N : cm_M → Prop} {M0 : cm_M} {md : ab_Md} {d : Nat} {cl : ab_Cl} {E : cm_E} {P : ev_P} {rows : List (Nat × ev_Row)} {stops : List (Nat × List Nat)} {J : cm_S → Prop} {Z : Nat → cm_S → Prop}
/-- what a call may answer -/
def ab_Post (h : ab_H) (N : cm_M → Prop) (M0 : cm_M) (md : ab_Md) (ρ : List Int32) (outs : List ab_Out) : cm_K := fun v M' => ∃ o ∈ outs, ∃ ext, ab_s (ρ ++ ext) o.1 v.toList ∧ ab_k (ρ ++ ext) o.2.1 ∧ ab_m h N M0 md (ρ ++ ext) o.2.2 M'
def ab_ClOk (ms : List ev_MI) (h : ab_H) (N : cm_M → Prop) (M0 : cm_M) (md : ab_Md) (d : Nat) (cl : ab_Cl) : Prop := ∀ (k : Nat) (as : List ab_A) (K : ab_K) (Ca : ab_Ca) (outs : List ab_Out) (ρ : List Int32) (vs : List Value) (M : cm_M), cl k as K Ca = some outs → ab_s ρ as vs → ab_k ρ K → ab_m h N M0 md ρ Ca M → cm_Call ms d k vs M (ab_Post h N M0 md ρ outs)
theorem ab_inv_ok (hcl : ab_ClOk ms h N M0 md d cl) {q : Nat × ev_Row} (hrc : ab_RC ms q) (h200 : 200 ≤ q.2.1) (h210 : q.2.1 < 210) {S : ab_S} {Ss : List ab_S} {C : cm_S} {ρ : List Int32} {k : cm_S → Prop} (hi : ab_inv cl q.2 S = some Ss) (hG : ab_G h N M0 md ρ S C) (hk : ∀ S' ∈ Ss, ∀ (ext : List Int32) (C' : cm_S), ab_G h N M0 md (ρ ++ ext) S' C' → k C') : cm_inv ms (cm_Call ms d) q.2 C k := by
  obtain ⟨pc, L, st, K, Ca⟩ := S
  obtain ⟨cpc, CL, sc, M⟩ := C
  obtain ⟨e0, gl, gs, gk, gm⟩ := hG
  dsimp only at e0 gl gs gk gm
  subst e0
  obtain ⟨mi, hmi, hn, hrv⟩ := hrc h200 h210
  obtain ⟨qpc, op, t1, t2, t3, t4⟩ := q
  dsimp only at hmi hn hrv h200 h210 hi ⊢
  unfold ab_inv at hi
  dsimp only at hi
  split at hi
  · rename_i as rest htk
    split at hi
    · rename_i hc
      split at hi
      · rename_i outs hcall
        cases hi
        obtain ⟨vs, restc, e1, e2, e3⟩ := ab_take_ok htk gs
        unfold cm_inv
        dsimp only
        rw [hmi]
        dsimp only
        rw [e1]
        have hcs := ab_cs_ok e3
        refine ⟨by rw [hcs]; exact hc.1, hn, fun h2 => ?_, cm_Call_up (hcl _ _ _ _ _ ρ vs M hcall e2 gk gm) (Nat.le_refl _) (fun v M' hp => ?_)⟩
        · obtain ⟨ci, hci, hrecv⟩ : ∃ ci, t4 = [ci] ∧ ab_recv ci as = true := by
            have h3 := hc.2
            unfold ab_rcv at h3
            rw [if_pos h2] at h3
            split at h3
            · rename_i ci e
              exact ⟨ci, e, h3⟩
            · cases h3
          have hrv := hrv h2 ci hci
          unfold ab_recv at hrecv
          split at hrecv
          · rename_i a as'
            simp only [Bool.and_eq_true, decide_eq_true_eq] at hrecv
            obtain ⟨v, vs', rfl, hv, -⟩ := ab_s_cons e2
            obtain ⟨c, hc1, rfl⟩ := ab_v1 hrecv.1 hv
            have hcc := List.all_eq_true.mp hrecv.2 c hc1
            rcases hrv with ⟨h99, hs⟩ | ⟨h99, hs⟩
            · rw [if_pos h99] at hcc
              simp only [Bool.and_eq_true, decide_eq_true_eq] at hcc
              exact Or.inl ⟨hcc.1, hcc.2.1, hcc.2.2, hs⟩
            · rw [if_neg h99] at hcc
              simp only [decide_eq_true_eq] at hcc
              exact Or.inr (by rw [hcc]; exact hs)
          · cases hrecv
        · obtain ⟨o, ho, ext, p1, p2, p3⟩ := hp
          exact hk _ (List.mem_map.mpr ⟨o, ho, rfl⟩) ext (cpc + 3, CL, v.toList ++ restc, M') ⟨rfl, ab_l_ap gl, ab_s_app p1 (ab_s_ap e3), p2, p3⟩
      · cases hi
    · cases hi
  · cases hi
theorem ab_runT_ok (hN : ab_NP h N) (hcl : ab_ClOk ms h N M0 md d cl) (hrc : ∀ q ∈ rows, ab_RC ms q) (hs : ab_srt rows = true) : ∀ (n : Nat) (tl : List (Nat × ev_Row)) (S : ab_S) (fs : List (Bool × ab_S)) (C : cm_S) (ρ : List Int32), (∃ pre, rows = pre ++ tl) → ab_runT cl h md P rows stops n tl S = some fs → ab_G h N M0 md ρ S C → (∀ f ∈ fs, ∀ (ext : List Int32) (C' : cm_S), ab_G h N M0 md (ρ ++ ext) f.2 C' → (f.1 = true → J C') ∧ (f.1 = false → ∀ r, ev_at rows C'.1 = some r → 210 ≤ r.1 → Z r.1 C')) → cm_wp ms (cm_Call ms d) E P rows stops J Z n C
  | 0, tl, S, fs, C, ρ, _, hr, _, _ => by cases hr
  | n + 1, tl, S, fs, C, ρ, htl, hr, hG, hf => by
    have hst : ∀ (tl' : List (Nat × ev_Row)), (∃ pre, rows = pre ++ tl') → ∀ (Ss : List ab_S), ab_all (ab_stop stops (ab_runT cl h md P rows stops n tl')) Ss = some fs → ∀ S' ∈ Ss, ∀ (ext : List Int32) (C' : cm_S), ab_G h N M0 md (ρ ++ ext) S' C' → cm_stop stops J (cm_wp ms (cm_Call ms d) E P rows stops J Z n) C' := by
      intro tl' htl' Ss hall S' hS' ext C' hG'
      obtain ⟨o', h1, h2⟩ := ab_all_ok hall S' hS'
      unfold ab_stop at h1
      unfold cm_stop
      rw [hG'.1]
      split at h1
      · rename_i e
        rw [e]
        exact ab_runT_ok hN hcl hrc hs n tl' S' o' C' (ρ ++ ext) htl' h1 hG' (fun f hf1 ext' C2 hG2 => hf f (h2 f hf1) (ext ++ ext') C2 (by rw [← List.append_assoc]; exact hG2))
      · rename_i live e
        rw [e]
        split at h1
        · rename_i L' hL'
          cases h1
          obtain ⟨CL', e1, e2⟩ := ab_pick_ok hG'.2.1 hL'
          dsimp only
          rw [e1]
          exact (hf _ (h2 _ (List.mem_singleton.mpr rfl)) ext (S'.1, CL', C'.2.2) ⟨rfl, e2, hG'.2.2⟩).1 rfl
        · cases h1
    unfold ab_runT at hr
    unfold cm_wp
    rw [hG.1]
    split at hr
    · cases hr
    · rename_i r tl' hnx
      obtain ⟨hrr, hmem, htl'⟩ := ab_nx_ok hs htl hnx
      rw [hrr]
      dsimp only
      split at hr
      · rename_i h210
        rw [if_pos h210]
        cases hr
        exact (hf _ (List.mem_singleton.mpr rfl) [] C (by rw [ab_nil]; exact hG)).2 rfl r.2 (by rw [hG.1]; exact hrr) h210
      · rename_i h210
        rw [if_neg h210]
        split at hr
        · rename_i h200
          rw [if_pos h200]
          split at hr
          · rename_i Ss hSs
            exact ab_inv_ok hcl (hrc _ (ev_at_mem hrr)) h200 (by dsimp only; omega) hSs hG (hst tl' htl' Ss hr)
          · cases hr
        · rename_i h200
          rw [if_neg h200]
          split at hr
          · rename_i o ho
            split at hr
            · rename_i Ss hSs
              rw [ab_opF_eq] at ho
              obtain ⟨co, hco, hsnd⟩ := ab_All2_at ab_ops_ok r.2.1 o ho
              rw [hco]
              exact hsnd h N M0 md E P r.2.2 S Ss C ρ _ hN hSs hG (hst tl' htl' Ss hr)
            · cases hr
          · cases hr
theorem ab_run_ok (hN : ab_NP h N) (hcl : ab_ClOk ms h N M0 md d cl) (hrc : ∀ q ∈ rows, ab_RC ms q) (n : Nat) (S : ab_S) (fs : List (Bool × ab_S)) (C : cm_S) (ρ : List Int32) (hr : ab_run cl h md P rows stops n S = some fs) (hG : ab_G h N M0 md ρ S C) (hf : ∀ f ∈ fs, ∀ (ext : List Int32) (C' : cm_S), ab_G h N M0 md (ρ ++ ext) f.2 C' → (f.1 = true → J C') ∧ (f.1 = false → ∀ r, ev_at rows C'.1 = some r → 210 ≤ r.1 → Z r.1 C')) : cm_wp ms (cm_Call ms d) E P rows stops J Z n C := by
  unfold ab_run at hr
  cases hs : ab_srt rows with
  | true =>
    rw [hs] at hr
    exact ab_runT_ok hN hcl hrc hs n rows S fs C ρ ⟨[], rfl⟩ hr hG hf
  | false =>
    rw [hs] at hr
    have hr : (none : Option (List (Bool × ab_S))) = some fs := hr
    cases hr
end ABR
/-! AB: instances of templates -/
def ab_eqA (a b : ab_A) : Bool := decide (a.1 = b.1) && (decide (a.2.1 = b.2.1) && decide (a.2.2 = b.2.2))
theorem ab_eqA_ok {a b : ab_A} (h : ab_eqA a b = true) : a = b := by
  obtain ⟨a1, a2, a3⟩ := a
  obtain ⟨b1, b2, b3⟩ := b
  simp only [ab_eqA, Bool.and_eq_true, decide_eq_true_eq] at h
  obtain ⟨rfl, rfl, rfl⟩ := h
  rfl
/-- a's value is as t says, t's variables being sg -/
def ab_sub (K : ab_K) (sg : List ab_A) (t a : ab_A) : Bool := match t.1 with
  | 0 => ab_isI a && (decide ((ab_bd K a).1 = (Int32.ofInt t.2.1).toInt) && decide ((ab_bd K a).2 = (Int32.ofInt t.2.1).toInt))
  | 1 => decide (a.1 = 1) && a.2.2.all (fun c => t.2.2.contains c)
  | 2 => decide (a.1 = 2)
  | 3 => (match sg[t.2.1.toNat]? with
    | some b => ab_eqA b a && ab_isI a
    | none => false)
  | 6 => decide (a.1 = 6)
  | 7 => (decide (a.1 = 1) || (decide (a.1 = 2) || decide (a.1 = 7))) && a.2.2.all (fun c => t.2.2.contains c)
  | _ => false
def ab_rT (ρ : List Int32) (sg : List ab_A) : List Int32 := sg.map (fun b => (ab_i ρ b).getD 0)
theorem ab_rT_at {ρ : List Int32} {sg : List ab_A} {j : Nat} {b : ab_A} {x : Int32} (h : sg[j]? = some b) (hb : ab_i ρ b = some x) : (ab_rT ρ sg)[j]? = some x := by
  unfold ab_rT
  rw [List.getElem?_map, h]
  simp [hb]
theorem ab_sub_ok {ρ : List Int32} {K : ab_K} {sg : List ab_A} {t a : ab_A} {v : Value} (h : ab_sub K sg t a = true) (hk : ab_k ρ K) (hv : ab_v ρ a v) : ab_v (ab_rT ρ sg) t v := by
  unfold ab_sub at h
  split at h
  · rename_i e
    simp only [Bool.and_eq_true, decide_eq_true_eq] at h
    obtain ⟨h1, h2, h3⟩ := h
    obtain ⟨x, hx, rfl⟩ := ab_vi h1 hv
    obtain ⟨b1, b2⟩ := ab_bd_in hk hx
    unfold ab_v
    rw [e]
    have : x = Int32.ofInt t.2.1 := Int32.toInt_inj.mp (by omega)
    show Value.int x = .int (Int32.ofInt t.2.1)
    rw [this]
  · rename_i e
    simp only [Bool.and_eq_true, decide_eq_true_eq] at h
    obtain ⟨c, hc, rfl⟩ := ab_v1 h.1 hv
    unfold ab_v
    rw [e]
    exact ⟨c, List.contains_iff_mem.mp (List.all_eq_true.mp h.2 c hc), rfl⟩
  · rename_i e
    have h := of_decide_eq_true h
    unfold ab_v at hv ⊢
    rw [h] at hv
    rw [e]
    exact hv
  · rename_i e
    split at h
    · rename_i b hb
      simp only [Bool.and_eq_true] at h
      cases ab_eqA_ok h.1
      obtain ⟨x, hx, rfl⟩ := ab_vi h.2 hv
      unfold ab_v
      rw [e]
      exact ⟨x, ab_rT_at hb hx, rfl⟩
    · cases h
  · rename_i e
    have h := of_decide_eq_true h
    obtain ⟨x, rfl⟩ := ab_v6 h hv
    unfold ab_v
    rw [e]
    exact ⟨x, rfl⟩
  · rename_i e
    simp only [Bool.and_eq_true, Bool.or_eq_true, decide_eq_true_eq] at h
    obtain ⟨h1, h2⟩ := h
    unfold ab_v
    rw [e]
    have hin : ∀ c, c ∈ a.2.2 → c ∈ t.2.2 := fun c hc => List.contains_iff_mem.mp (List.all_eq_true.mp h2 c hc)
    unfold ab_v at hv
    rcases h1 with h1 | h1 | h1
    · rw [h1] at hv
      obtain ⟨c, hc, rfl⟩ := hv
      exact Or.inr ⟨c, hin c hc, rfl⟩
    · rw [h1] at hv
      exact Or.inl hv
    · rw [h1] at hv
      rcases hv with hv | ⟨c, hc, rfl⟩
      · exact Or.inl hv
      · exact Or.inr ⟨c, hin c hc, rfl⟩
  · cases h
/-- a value that stands -/
def ab_def (K : ab_K) (b : ab_A) : Bool := decide (b.1 = 0) || (decide (b.1 = 3) && decide (b.2.1.toNat < K.length))
theorem ab_def_ok {ρ : List Int32} {K : ab_K} {b : ab_A} (h : ab_def K b = true) (hk : ab_k ρ K) : ∃ x, ab_i ρ b = some x := by
  simp only [ab_def, Bool.or_eq_true, Bool.and_eq_true, decide_eq_true_eq] at h
  unfold ab_i
  rcases h with h | ⟨h, h2⟩
  · rw [h]; exact ⟨_, rfl⟩
  · rw [h]; exact ⟨_, List.getElem?_eq_getElem (by rw [← hk.1]; exact h2)⟩
def ab_sb (sg : List ab_A) (a : ab_A) : ab_A := if a.1 = 3 then (match sg[a.2.1.toNat]? with
  | some b => b
  | none => (9, 0, [])) else a
theorem ab_sb_ok {ρ : List Int32} {sg : List ab_A} {a : ab_A} {y : Int32} (h : ab_i ρ (ab_sb sg a) = some y) : ab_i (ab_rT ρ sg) a = some y := by
  unfold ab_sb at h
  split at h
  · rename_i h3
    split at h
    · rename_i b hb
      unfold ab_i
      rw [h3]
      exact ab_rT_at hb h
    · cases h
  · rename_i h3
    unfold ab_i at h ⊢
    split at h
    · rename_i e; exact h
    · rename_i e; exact absurd e h3
    · cases h
/-- the template's knowledge holds -/
def ab_kin (K : ab_K) (sg : List ab_A) (b : ab_A) (r : ab_Ke) : Bool := ab_def K b && (decide (r.1 ≤ (ab_bd K b).1) && (decide ((ab_bd K b).2 ≤ r.2.1) && (decide (r.2.2.1 = 0) || (decide (b.1 = 3) && (match K[b.2.1.toNat]? with
  | some q => decide (q.2.2.1 = r.2.2.1) && (decide (q.2.2.1 ≠ 0) && (ab_eqA q.2.2.2.1 (ab_sb sg r.2.2.2.1) && ab_eqA q.2.2.2.2 (ab_sb sg r.2.2.2.2)))
  | none => false)))))
def ab_kins (K : ab_K) (sg : List ab_A) : List ab_A → ab_K → Bool
  | [], [] => true
  | b :: bs, r :: rs => ab_kin K sg b r && ab_kins K sg bs rs
  | _, _ => false
theorem ab_kins_at {K : ab_K} {sg : List ab_A} : ∀ {bs : List ab_A} {rs : ab_K}, ab_kins K sg bs rs = true → bs.length = rs.length ∧ ∀ (j : Nat) (b : ab_A) (r : ab_Ke), bs[j]? = some b → rs[j]? = some r → ab_kin K sg b r = true
  | [], [], _ => ⟨rfl, fun j b r h => by cases h⟩
  | [], _ :: _, h => by cases h
  | _ :: _, [], h => by cases h
  | b :: bs, r :: rs, h => by
    unfold ab_kins at h
    simp only [Bool.and_eq_true] at h
    obtain ⟨i1, i2⟩ := ab_kins_at h.2
    refine ⟨by rw [List.length_cons, List.length_cons, i1], fun j b' r' h1 h2 => ?_⟩
    cases j with
    | zero => cases h1; cases h2; exact h.1
    | succ j => exact i2 j b' r' h1 h2
theorem ab_kins_ok {ρ : List Int32} {K TK : ab_K} {sg : List ab_A} (hk : ab_k ρ K) (h : ab_kins K sg sg TK = true) : ab_k (ab_rT ρ sg) TK ∧ ∀ b ∈ sg, ∃ x, ab_i ρ b = some x := by
  obtain ⟨hl, hat⟩ := ab_kins_at h
  have hall : ∀ b ∈ sg, ∃ x, ab_i ρ b = some x := by
    intro b hb
    obtain ⟨j, hj⟩ := List.getElem?_of_mem hb
    have hlt : j < TK.length := by rw [← hl]; exact (List.getElem?_eq_some_iff.mp hj).1
    have h1 := hat j b _ hj (List.getElem?_eq_getElem hlt)
    unfold ab_kin at h1
    simp only [Bool.and_eq_true] at h1
    exact ab_def_ok h1.1 hk
  refine ⟨⟨by unfold ab_rT; rw [List.length_map, hl], fun j r x h1 h2 => ?_⟩, hall⟩
  have hlt : j < sg.length := by rw [hl]; exact (List.getElem?_eq_some_iff.mp h1).1
  have hb := List.getElem?_eq_getElem hlt
  obtain ⟨y, hy⟩ := hall _ (List.mem_of_getElem? hb)
  rw [ab_rT_at hb hy] at h2
  cases h2
  have h3 := hat j _ r hb h1
  unfold ab_kin at h3
  simp only [Bool.and_eq_true, Bool.or_eq_true, decide_eq_true_eq] at h3
  obtain ⟨d1, d2, d3, d4⟩ := h3
  obtain ⟨b1, b2⟩ := ab_bd_in hk hy
  refine ⟨⟨Int.le_trans d2 b1, Int.le_trans b2 d3⟩, ?_⟩
  rcases d4 with d4 | ⟨d4, d5⟩
  · exact Or.inl d4
  · refine Or.inr ?_
    split at d5
    · rename_i q hq
      simp only [Bool.and_eq_true, decide_eq_true_eq] at d5
      obtain ⟨f1, f2, f3, f4⟩ := d5
      have hy2 : ρ[(sg[j]).2.1.toNat]? = some x := by
        unfold ab_i at hy
        rw [d4] at hy
        exact hy
      rcases (hk.2 _ q x hq hy2).2 with hz | ⟨u, z, hu, hz, e⟩
      · exact absurd hz f2
      · rw [ab_eqA_ok f3] at hu
        rw [ab_eqA_ok f4] at hz
        exact ⟨u, z, ab_sb_ok hu, ab_sb_ok hz, by rw [← f1]; exact e⟩
    · cases d5
/-- entries of the memory that the template tells are read -/
def ab_fill (h : ab_H) : ab_Ca → ab_K → ab_Ca → ab_K × ab_Ca
  | [], K, Ca => (K, Ca)
  | q :: r, K, Ca => if ab_isI q.2.2 = true ∧ ab_cf Ca q.1 q.2.1 = none then ab_fill h r (ab_ldI h K Ca [q.1] (some [q.2.1])).2.1 (ab_ldI h K Ca [q.1] (some [q.2.1])).2.2 else ab_fill h r K Ca
theorem ab_fill_ok {h : ab_H} {N : cm_M → Prop} {M0 : cm_M} {md : ab_Md} {M : cm_M} (hN : ab_NP h N) : ∀ (T : ab_Ca) {K : ab_K} {Ca : ab_Ca} {ρ : List Int32}, ab_k ρ K → ab_m h N M0 md ρ Ca M → ∃ ext, ab_k (ρ ++ ext) (ab_fill h T K Ca).1 ∧ ab_m h N M0 md (ρ ++ ext) (ab_fill h T K Ca).2 M
  | [], K, Ca, ρ, hk, hm => ⟨[], by rw [ab_nil]; exact hk, by rw [ab_nil]; exact hm⟩
  | q :: r, K, Ca, ρ, hk, hm => by
    unfold ab_fill
    split
    · obtain ⟨ext, k1, k2, k3⟩ := ab_ldI_ok (c := q.1) (i := q.2.1) hN hk hm (rfl : ab_ldI h K Ca [q.1] (some [q.2.1]) = (_, _, _)) (List.mem_singleton.mpr rfl) (List.mem_singleton.mpr rfl)
      obtain ⟨ext2, e1, e2⟩ := ab_fill_ok hN r k1 k3
      exact ⟨ext ++ ext2, by rw [← List.append_assoc]; exact e1, by rw [← List.append_assoc]; exact e2⟩
    · exact ab_fill_ok hN r hk hm
def ab_subs (K : ab_K) (sg : List ab_A) : List ab_A → List ab_A → Bool
  | [], [] => true
  | t :: ts, a :: as => ab_sub K sg t a && ab_subs K sg ts as
  | _, _ => false
theorem ab_subs_ok {ρ : List Int32} {K : ab_K} {sg : List ab_A} (hk : ab_k ρ K) : ∀ {ts as : List ab_A} {vs : List Value}, ab_subs K sg ts as = true → ab_s ρ as vs → ab_s (ab_rT ρ sg) ts vs
  | [], [], [], _, _ => trivial
  | [], [], _ :: _, _, h => h.elim
  | [], _ :: _, _, h, _ => by cases h
  | _ :: _, [], _, h, _ => by cases h
  | _ :: _, _ :: _, [], _, h => h.elim
  | t :: ts, a :: as, v :: vs, h, hs => by
    unfold ab_subs at h
    simp only [Bool.and_eq_true] at h
    exact ⟨ab_sub_ok h.1 hk hs.1, ab_subs_ok hk h.2 hs.2⟩
def ab_subL (K : ab_K) (sg : List ab_A) (TL L : List (Nat × ab_A)) : Bool := TL.all (fun q => match ev_at L q.1 with
  | some a => ab_sub K sg q.2 a
  | none => false)
theorem ab_subL_ok {ρ : List Int32} {K : ab_K} {sg : List ab_A} {TL L : List (Nat × ab_A)} {CL : List (Nat × Value)} (hk : ab_k ρ K) (h : ab_subL K sg TL L = true) (hl : ab_l ρ L CL) : ab_l (ab_rT ρ sg) TL CL := by
  intro q hq
  have h1 := List.all_eq_true.mp h q hq
  split at h1
  · rename_i a ha
    obtain ⟨v, x1, x2⟩ := hl _ (ev_at_mem ha)
    exact ⟨v, x1, ab_sub_ok h1 hk x2⟩
  · cases h1
def ab_subC (h : ab_H) (K : ab_K) (sg : List ab_A) (T Ca : ab_Ca) : Bool := T.all (fun q => if ab_isI q.2.2 = true then (match ab_cf Ca q.1 q.2.1 with
    | some a => ab_isI a && ab_sub K sg q.2.2 a
    | none => false) else (match ab_ldR h Ca [q.1] [q.2.1] with
    | some a => ab_sub K sg q.2.2 a
    | none => false))
theorem ab_subC_ok {h : ab_H} {N : cm_M → Prop} {M0 : cm_M} {md : ab_Md} {ρ : List Int32} {K : ab_K} {sg : List ab_A} {T Ca : ab_Ca} {M : cm_M} (hk : ab_k ρ K) (hs : ab_subC h K sg T Ca = true) (hm : ab_m h N M0 md ρ Ca M) : ab_ca (ab_rT ρ sg) M T := by
  intro q hq
  have h1 := List.all_eq_true.mp hs q hq
  unfold ab_ce
  split
  · rename_i hI
    rw [if_pos hI] at h1
    split at h1
    · rename_i a ha
      simp only [Bool.and_eq_true] at h1
      have h2 := hm.2.2 _ (ab_cf_mem ha)
      unfold ab_ce at h2
      rw [if_pos h1.1] at h2
      exact ab_vint (ab_sub_ok h1.2 hk (ab_iv h2))
    · cases h1
  · rename_i hI
    rw [if_neg hI] at h1
    split at h1
    · rename_i a ha
      exact ab_sub_ok h1 hk (ab_ldR_ok hm ha (List.mem_singleton.mpr rfl) (List.mem_singleton.mpr rfl))
    · cases h1
/-- the template's variables, found where they stand -/
def ab_prs (T S : ab_S) : List (ab_A × ab_A) := T.2.1.filterMap (fun q => (ev_at S.2.1 q.1).map (fun a => (q.2, a))) ++ (T.2.2.1.zip S.2.2.1 ++ T.2.2.2.2.filterMap (fun q => (ab_cf S.2.2.2.2 q.1 q.2.1).map (fun a => (q.2.2, a))))
def ab_sgf (prs : List (ab_A × ab_A)) (j : Nat) : ab_A := match prs with
  | [] => (9, 0, [])
  | p :: r => if p.1.1 = 3 ∧ p.1.2.1 = (j : Int) then p.2 else ab_sgf r j
def ab_sig (nE : Nat) (T S : ab_S) : List ab_A := (List.range T.2.2.2.1.length).map (fun j => if j < nE then ab_x j else ab_sgf (ab_prs T S) j)
/-! relations at a template are made new -/
/-- a value as another one and a number -/
def ab_un1 (K : ab_K) (a : ab_A) : ab_A × Int := if a.1 = 3 then (match K[a.2.1.toNat]? with
  | some r => if r.2.2.1 = 1 ∧ r.2.2.2.2.1 = 0 ∧ -2147483648 ≤ (ab_bd K r.2.2.2.1).1 + (Int32.ofInt r.2.2.2.2.2.1).toInt ∧ (ab_bd K r.2.2.2.1).2 + (Int32.ofInt r.2.2.2.2.2.1).toInt ≤ 2147483647 then (r.2.2.2.1, (Int32.ofInt r.2.2.2.2.2.1).toInt) else (a, 0)
  | none => (a, 0)) else (a, 0)
theorem ab_un1_ok {ρ : List Int32} {K : ab_K} {a u : ab_A} {c : Int} {x : Int32} (hk : ab_k ρ K) (ha : ab_i ρ a = some x) (h : ab_un1 K a = (u, c)) : ∃ y, ab_i ρ u = some y ∧ x.toInt = y.toInt + c := by
  unfold ab_un1 at h
  split at h
  · rename_i h3
    split at h
    · rename_i r hr
      split at h
      · rename_i hc
        cases h
        have hx : ρ[a.2.1.toNat]? = some x := by
          unfold ab_i at ha
          rw [h3] at ha
          exact ha
        have hcn : ab_i ρ r.2.2.2.2 = some (Int32.ofInt r.2.2.2.2.2.1) := by
          unfold ab_i
          rw [hc.2.1]
          rfl
        rcases (hk.2 _ r x hr hx).2 with hz | ⟨y, z, hy, hz, e⟩
        · omega
        · rw [hcn] at hz
          cases hz
          obtain ⟨y1, y2⟩ := ab_bd_in hk hy
          rw [hc.1] at e
          have e : x = y + Int32.ofInt r.2.2.2.2.2.1 := e
          refine ⟨y, hy, ?_⟩
          rw [e, Int32.toInt_add]
          exact ev_bm (by omega) (by omega)
      · cases h
        exact ⟨x, ha, by omega⟩
    · cases h
      exact ⟨x, ha, by omega⟩
  · cases h
    exact ⟨x, ha, by omega⟩
/-- bounds of y - x that a relation tells -/
def ab_rfd (y x : ab_A) : List ab_Ke → Option (Int × Int)
  | [] => none
  | r :: l => if r.2.2.1 = 22 ∧ ab_eqA r.2.2.2.1 y = true ∧ ab_eqA r.2.2.2.2 x = true then some (r.1, r.2.1) else ab_rfd y x l
theorem ab_rfd_ok {ρ : List Int32} {y x : ab_A} {yv xv : Int32} (hy : ab_i ρ y = some yv) (hx : ab_i ρ x = some xv) : ∀ {l : List ab_Ke} {b : Int × Int}, (∀ r ∈ l, ∃ w, ab_e ρ r w) → ab_rfd y x l = some b → ev_inb b (yv - xv)
  | [], b, _, h => by cases h
  | r :: l, b, hl, h => by
    unfold ab_rfd at h
    split at h
    · rename_i hc
      cases h
      obtain ⟨w, hw⟩ := hl r List.mem_cons_self
      rcases hw.2 with hz | ⟨y', x', h1, h2, e⟩
      · omega
      · rw [ab_eqA_ok hc.2.1, hy] at h1
        rw [ab_eqA_ok hc.2.2, hx] at h2
        cases h1
        cases h2
        rw [hc.1] at e
        have e : w = yv - xv := e
        rw [← e]
        exact hw.1
    · exact ab_rfd_ok hy hx (fun q hq => hl q (List.mem_cons_of_mem _ hq)) h
def ab_df (K : ab_K) (y x : ab_A) : Int × Int :=
  let g := ev_bd 22 (ab_bd K y) (ab_bd K x)
  let u := ab_un1 K y
  let v := ab_un1 K x
  match ab_rfd u.1 v.1 K with
  | some b => if -2147483648 ≤ (ab_bd K u.1).1 - (ab_bd K v.1).2 ∧ (ab_bd K u.1).2 - (ab_bd K v.1).1 ≤ 2147483647 ∧ -2147483648 ≤ b.1 + u.2 - v.2 ∧ b.2 + u.2 - v.2 ≤ 2147483647 then (max g.1 (b.1 + u.2 - v.2), min g.2 (b.2 + u.2 - v.2)) else g
  | none => g
theorem ab_df_in {ρ : List Int32} {K : ab_K} {y x : ab_A} {yv xv : Int32} (hk : ab_k ρ K) (hy : ab_i ρ y = some yv) (hx : ab_i ρ x = some xv) : ev_inb (ab_df K y x) (ev_f 22 yv xv) := by
  have hg : ev_inb (ev_bd 22 (ab_bd K y) (ab_bd K x)) (ev_f 22 yv xv) := ev_bd_in (ab_bd_in hk hy) (ab_bd_in hk hx)
  obtain ⟨ua, uc, hua⟩ : ∃ a b, ab_un1 K y = (a, b) := ⟨_, _, rfl⟩
  obtain ⟨va, vc, hva⟩ : ∃ a b, ab_un1 K x = (a, b) := ⟨_, _, rfl⟩
  unfold ab_df
  rw [hua, hva]
  dsimp only
  split
  · rename_i b hb
    split
    · rename_i hc
      obtain ⟨u, hu, eu⟩ := ab_un1_ok hk hy hua
      obtain ⟨v, hv, ev⟩ := ab_un1_ok hk hx hva
      obtain ⟨b1, b2⟩ := ab_rfd_ok hu hv (ab_k_all hk) hb
      obtain ⟨u1, u2⟩ := ab_bd_in hk hu
      obtain ⟨v1, v2⟩ := ab_bd_in hk hv
      have e1 : (u - v).toInt = u.toInt - v.toInt := by
        rw [Int32.toInt_sub]
        exact ev_bm (by omega) (by omega)
      have e2 : (ev_f 22 yv xv).toInt = yv.toInt - xv.toInt := by
        show (yv - xv).toInt = _
        rw [Int32.toInt_sub]
        exact ev_bm (by omega) (by omega)
      obtain ⟨g1, g2⟩ := hg
      refine ⟨?_, ?_⟩
      · dsimp only; omega
      · dsimp only; omega
    · exact hg
  · exact hg
/-- the relations of the template, made new in the state -/
def ab_rls (sg0 : List ab_A) : ab_K → List ab_A → ab_K → ab_K × List ab_A
  | r :: TK, b :: sg, K => if r.2.2.1 = 22 then
      (let q := ab_rls sg0 TK sg (K ++ [((ab_df K (ab_sb sg0 r.2.2.2.1) (ab_sb sg0 r.2.2.2.2)).1, (ab_df K (ab_sb sg0 r.2.2.2.1) (ab_sb sg0 r.2.2.2.2)).2, 22, ab_sb sg0 r.2.2.2.1, ab_sb sg0 r.2.2.2.2)])
       if ab_def K (ab_sb sg0 r.2.2.2.1) = true ∧ ab_def K (ab_sb sg0 r.2.2.2.2) = true then (q.1, ab_x K.length :: q.2) else (K, []))
    else (let q := ab_rls sg0 TK sg K
          (q.1, b :: q.2))
  | _, _, K => (K, [])
theorem ab_rls_ok {h : ab_H} {N : cm_M → Prop} {M0 : cm_M} {md : ab_Md} {Ca : ab_Ca} {M : cm_M} {sg0 : List ab_A} : ∀ (TK : ab_K) (sg : List ab_A) {K : ab_K} {ρ : List Int32}, ab_k ρ K → ab_m h N M0 md ρ Ca M → ∃ ext, ab_k (ρ ++ ext) (ab_rls sg0 TK sg K).1 ∧ ab_m h N M0 md (ρ ++ ext) Ca M
  | [], sg, K, ρ, hk, hm => ⟨[], by rw [ab_nil]; unfold ab_rls; exact hk, by rw [ab_nil]; exact hm⟩
  | _ :: _, [], K, ρ, hk, hm => ⟨[], by rw [ab_nil]; unfold ab_rls; exact hk, by rw [ab_nil]; exact hm⟩
  | r :: TK, b :: sg, K, ρ, hk, hm => by
    unfold ab_rls
    split
    · dsimp only
      split
      · rename_i hd
        obtain ⟨y, hy⟩ := ab_def_ok hd.1 hk
        obtain ⟨x, hx⟩ := ab_def_ok hd.2 hk
        have hk2 := ab_push hk (r := ((ab_df K (ab_sb sg0 r.2.2.2.1) (ab_sb sg0 r.2.2.2.2)).1, (ab_df K (ab_sb sg0 r.2.2.2.1) (ab_sb sg0 r.2.2.2.2)).2, 22, ab_sb sg0 r.2.2.2.1, ab_sb sg0 r.2.2.2.2)) (x := ev_f 22 y x) ⟨ab_df_in hk hy hx, Or.inr ⟨y, x, hy, hx, rfl⟩⟩
        obtain ⟨ext, e1, e2⟩ := ab_rls_ok (sg0 := sg0) TK sg hk2 (ab_m_ap hm)
        exact ⟨[ev_f 22 y x] ++ ext, by rw [← List.append_assoc]; exact e1, by rw [← List.append_assoc]; exact e2⟩
      · exact ⟨[], by rw [ab_nil]; exact hk, by rw [ab_nil]; exact hm⟩
    · dsimp only
      exact ab_rls_ok (sg0 := sg0) TK sg hk hm
def ab_in (h : ab_H) (nE : Nat) (T S : ab_S) : Option (ab_K × ab_Ca × List ab_A) :=
  let f := ab_fill h T.2.2.2.2 S.2.2.2.1 S.2.2.2.2
  let g := ab_rls (ab_sig nE T (S.1, S.2.1, S.2.2.1, f.1, f.2)) T.2.2.2.1 (ab_sig nE T (S.1, S.2.1, S.2.2.1, f.1, f.2)) f.1
  if nE ≤ g.2.length ∧ (List.range nE).all (fun j => match g.2[j]? with
      | some b => ab_eqA b (ab_x j)
      | none => false) = true ∧ ab_kins g.1 g.2 g.2 T.2.2.2.1 = true ∧ ab_subL g.1 g.2 T.2.1 S.2.1 = true ∧ ab_subs g.1 g.2 T.2.2.1 S.2.2.1 = true ∧ ab_subC h g.1 g.2 T.2.2.2.2 f.2 = true then some (g.1, f.2, g.2) else none
theorem ab_sig_pre {nE : Nat} {sg : List ab_A} {ρ0 e : List Int32} (h0 : ρ0.length = nE) (hn : nE ≤ sg.length) (hs : (List.range nE).all (fun j => match sg[j]? with
      | some b => ab_eqA b (ab_x j)
      | none => false) = true) : ∃ eT, ab_rT (ρ0 ++ e) sg = ρ0 ++ eT := by
  refine ⟨(ab_rT (ρ0 ++ e) sg).drop nE, ?_⟩
  have : (ab_rT (ρ0 ++ e) sg).take nE = ρ0 := by
    apply List.ext_getElem?
    intro j
    by_cases hj : j < nE
    · rw [List.getElem?_take_of_lt hj]
      have h1 := List.all_eq_true.mp hs j (List.mem_range.mpr hj)
      split at h1
      · rename_i b hb
        have hb2 := ab_eqA_ok h1
        subst hb2
        rw [List.getElem?_eq_getElem (show j < ρ0.length by omega)]
        refine ab_rT_at hb ?_
        show (ρ0 ++ e)[((j : Int)).toNat]? = some ρ0[j]
        rw [Int.toNat_natCast, List.getElem?_append_left (by omega), List.getElem?_eq_getElem (by omega)]
      · cases h1
    · rw [List.getElem?_eq_none (by rw [List.length_take]; omega), List.getElem?_eq_none (by omega)]
  have h1 := List.take_append_drop nE (ab_rT (ρ0 ++ e) sg)
  rw [this] at h1
  exact h1.symm
theorem ab_in_ok {h : ab_H} {N : cm_M → Prop} {M0 : cm_M} {md : ab_Md} {nE : Nat} {T S : ab_S} {K1 : ab_K} {Ca1 : ab_Ca} {sg : List ab_A} {ρ0 e : List Int32} {C : cm_S} (hN : ab_NP h N) (hin : ab_in h nE T S = some (K1, Ca1, sg)) (h0 : ρ0.length = nE) (gl : ab_l (ρ0 ++ e) S.2.1 C.2.1) (gs : ab_s (ρ0 ++ e) S.2.2.1 C.2.2.1) (gk : ab_k (ρ0 ++ e) S.2.2.2.1) (gm : ab_m h N M0 md (ρ0 ++ e) S.2.2.2.2 C.2.2.2) :
    ∃ e1 eT, ab_k (ρ0 ++ e ++ e1) K1 ∧ ab_m h N M0 md (ρ0 ++ e ++ e1) Ca1 C.2.2.2 ∧ ab_rT (ρ0 ++ e ++ e1) sg = ρ0 ++ eT ∧ (∀ b ∈ sg, ∃ x, ab_i (ρ0 ++ e ++ e1) b = some x) ∧ ab_l (ρ0 ++ eT) T.2.1 C.2.1 ∧ ab_s (ρ0 ++ eT) T.2.2.1 C.2.2.1 ∧ ab_k (ρ0 ++ eT) T.2.2.2.1 ∧ ab_m h N M0 md (ρ0 ++ eT) T.2.2.2.2 C.2.2.2 := by
  unfold ab_in at hin
  dsimp only at hin
  split at hin
  · rename_i hc
    cases hin
    obtain ⟨c0, cp, c1, c2, c3, c4⟩ := hc
    obtain ⟨e1, k1, k2⟩ := ab_fill_ok hN T.2.2.2.2 gk gm
    obtain ⟨e2, k1, k2⟩ := ab_rls_ok (sg0 := ab_sig nE T (S.1, S.2.1, S.2.2.1, (ab_fill h T.2.2.2.2 S.2.2.2.1 S.2.2.2.2).1, (ab_fill h T.2.2.2.2 S.2.2.2.1 S.2.2.2.2).2)) T.2.2.2.1 (ab_sig nE T (S.1, S.2.1, S.2.2.1, (ab_fill h T.2.2.2.2 S.2.2.2.1 S.2.2.2.2).1, (ab_fill h T.2.2.2.2 S.2.2.2.1 S.2.2.2.2).2)) k1 k2
    rw [List.append_assoc (ρ0 ++ e)] at k1 k2
    obtain ⟨r1, r2⟩ := ab_kins_ok k1 c1
    obtain ⟨eT, hT⟩ := ab_sig_pre (e := e ++ (e1 ++ e2)) h0 c0 cp
    rw [← List.append_assoc] at hT
    refine ⟨e1 ++ e2, eT, k1, k2, hT, r2, ?_, ?_, ?_, k2.1, k2.2.1, ?_⟩
    · rw [← hT]; exact ab_subL_ok k1 c2 (ab_l_ap gl)
    · rw [← hT]; exact ab_subs_ok k1 c3 (ab_s_ap gs)
    · rw [← hT]; exact r1
    · rw [← hT]; exact ab_subC_ok k1 c4 k2
  · cases hin
/-! AB: contracts of methods: method, arguments, knowledge, memory, what may be written, ends (their stack, knowledge, memory) -/
abbrev ab_Ct : Type := Nat × List ab_A × ab_K × ab_Ca × ab_Md × List ab_Out
def ab_CT (ms : List ev_MI) (h : ab_H) (N : cm_M → Prop) (d : Nat) (c : ab_Ct) : Prop := ∀ (ρ : List Int32) (vs : List Value) (M : cm_M), ab_s ρ c.2.1 vs → ab_k ρ c.2.2.1 → ab_ok h N M → ab_ca ρ M c.2.2.2.1 → cm_Call ms d c.1 vs M (ab_Post h N M c.2.2.2.2.1 ρ c.2.2.2.2.2)
def ab_mds (a b : ab_Md) : Bool := a.all (fun q => match ev_at b q.1 with
  | some l => l.isEmpty || (!(q.2.isEmpty) && q.2.all (fun i => l.contains i))
  | none => false)
theorem ab_mds_ok {a b : ab_Md} (h : ab_mds a b = true) {c i : Nat} (hb : ab_inM b c i = false) : ab_inM a c i = false := by
  cases ha : ab_inM a c i with
  | false => rfl
  | true =>
    unfold ab_inM at ha
    split at ha
    · rename_i l hl
      have h1 := List.all_eq_true.mp h _ (ev_at_mem hl)
      dsimp only at h1
      unfold ab_inM at hb
      split at h1
      · rename_i l2 hl2
        rw [hl2] at hb
        simp only [Bool.or_eq_false_iff] at hb
        simp only [Bool.or_eq_true, Bool.and_eq_true, Bool.not_eq_true'] at h1
        rcases h1 with h1 | ⟨h1, h2⟩
        · rw [hb.1] at h1; cases h1
        · simp only [Bool.or_eq_true] at ha
          rcases ha with ha | ha
          · rw [h1] at ha; cases ha
          · have h3 := List.all_eq_true.mp h2 i (List.contains_iff_mem.mp ha)
            rw [hb.2] at h3
            cases h3
      · cases h1
    · cases ha
/-- a contract's variables at a call: those of its start by sg, new ones behind -/
def ab_tv (sg : List ab_A) (n : Nat) (a : ab_A) : ab_A := if a.1 = 3 then (match sg[a.2.1.toNat]? with
  | some b => b
  | none => ab_x (n + (a.2.1.toNat - sg.length))) else a
def ab_tk (sg : List ab_A) (n : Nat) (r : ab_Ke) : ab_Ke := (r.1, r.2.1, r.2.2.1, ab_tv sg n r.2.2.2.1, ab_tv sg n r.2.2.2.2)
theorem ab_tv_i {ρ ext : List Int32} {sg : List ab_A} {n : Nat} (hn : n = ρ.length) (hsg : ∀ b ∈ sg, ∃ x, ab_i ρ b = some x) {a : ab_A} {y : Int32} (h : ab_i (ab_rT ρ sg ++ ext) a = some y) : ab_i (ρ ++ ext) (ab_tv sg n a) = some y := by
  unfold ab_tv
  split
  · rename_i h3
    unfold ab_i at h
    rw [h3] at h
    have h : (ab_rT ρ sg ++ ext)[a.2.1.toNat]? = some y := h
    have hlen : (ab_rT ρ sg).length = sg.length := by unfold ab_rT; rw [List.length_map]
    split
    · rename_i b hb
      have hlt := (List.getElem?_eq_some_iff.mp hb).1
      rw [List.getElem?_append_left (by rw [hlen]; exact hlt)] at h
      obtain ⟨x, hx⟩ := hsg b (List.mem_of_getElem? hb)
      rw [ab_rT_at hb hx] at h
      cases h
      exact ab_i_ap hx
    · rename_i hb
      have hge : sg.length ≤ a.2.1.toNat := List.getElem?_eq_none_iff.mp hb
      rw [List.getElem?_append_right (by rw [hlen]; exact hge), hlen] at h
      unfold ab_x ab_i
      dsimp only
      rw [Int.toNat_natCast, List.getElem?_append_right (by omega)]
      rw [show n + (a.2.1.toNat - sg.length) - ρ.length = a.2.1.toNat - sg.length by omega]
      exact h
  · rename_i h3
    unfold ab_i at h ⊢
    split at h
    · exact h
    · rename_i e; exact absurd e h3
    · cases h
theorem ab_tv_v {ρ ext : List Int32} {sg : List ab_A} {n : Nat} (hn : n = ρ.length) (hsg : ∀ b ∈ sg, ∃ x, ab_i ρ b = some x) {a : ab_A} {v : Value} (h : ab_v (ab_rT ρ sg ++ ext) a v) : ab_v (ρ ++ ext) (ab_tv sg n a) v := by
  by_cases h3 : a.1 = 3
  · obtain ⟨x, hx, rfl⟩ := ab_vi (by unfold ab_isI; rw [h3]; rfl) h
    exact ab_iv (ab_tv_i hn hsg hx)
  · have e : ab_tv sg n a = a := by unfold ab_tv; rw [if_neg h3]
    rw [e]
    unfold ab_v at h ⊢
    split at h
    · exact h
    · exact h
    · exact h
    · rename_i e2; exact absurd e2 h3
    · exact h
    · exact h
    · exact h
theorem ab_tv_s {ρ ext : List Int32} {sg : List ab_A} {n : Nat} (hn : n = ρ.length) (hsg : ∀ b ∈ sg, ∃ x, ab_i ρ b = some x) : ∀ {st : List ab_A} {vs : List Value}, ab_s (ab_rT ρ sg ++ ext) st vs → ab_s (ρ ++ ext) (st.map (ab_tv sg n)) vs
  | [], [], _ => trivial
  | [], _ :: _, h => h.elim
  | _ :: _, [], h => h.elim
  | _ :: _, _ :: _, h => ⟨ab_tv_v hn hsg h.1, ab_tv_s hn hsg h.2⟩
theorem ab_tv_isI {ρ : List Int32} {sg : List ab_A} {n : Nat} (hsg : ∀ b ∈ sg, ∃ x, ab_i ρ b = some x) (a : ab_A) : ab_isI (ab_tv sg n a) = ab_isI a := by
  unfold ab_tv
  split
  · rename_i h3
    have e : ab_isI a = true := by unfold ab_isI; rw [h3]; rfl
    rw [e]
    split
    · rename_i b hb
      obtain ⟨x, hx⟩ := hsg b (List.mem_of_getElem? hb)
      exact ab_ivI hx
    · rfl
  · rfl
/-- an end's bounds of the start's variables are known behind the call -/
def ab_rf : List ab_A → ab_K → ab_K → ab_K
  | b :: sg, r :: eK, K => ab_rf sg eK (ab_set1 K b (max (ab_bd K b).1 r.1, min (ab_bd K b).2 r.2.1))
  | _, _, K => K
theorem ab_set1_len (K : ab_K) (a : ab_A) (b : Int × Int) : (ab_set1 K a b).length = K.length := by
  unfold ab_set1
  split
  · split
    · rw [List.length_set]
    · rfl
  · rfl
theorem ab_rf_len : ∀ (sg : List ab_A) (eK K : ab_K), (ab_rf sg eK K).length = K.length
  | [], _, K => by unfold ab_rf; rfl
  | _ :: _, [], K => by unfold ab_rf; rfl
  | b :: sg, r :: eK, K => by
    unfold ab_rf
    rw [ab_rf_len, ab_set1_len]
theorem ab_rf_ok {ρ : List Int32} : ∀ (sg : List ab_A) (eK : ab_K) {K : ab_K}, (∀ (j : Nat) (b : ab_A) (r : ab_Ke), sg[j]? = some b → eK[j]? = some r → ∃ x, ab_i ρ b = some x ∧ ev_inb (r.1, r.2.1) x) → ab_k ρ K → ab_k ρ (ab_rf sg eK K)
  | [], _, K, _, hk => by unfold ab_rf; exact hk
  | _ :: _, [], K, _, hk => by unfold ab_rf; exact hk
  | b :: sg, r :: eK, K, hj, hk => by
    unfold ab_rf
    obtain ⟨x, hx, hb⟩ := hj 0 b r rfl rfl
    have h1 := ab_bd_in hk hx
    obtain ⟨a1, a2⟩ := h1
    obtain ⟨b1, b2⟩ := hb
    dsimp only at b1 b2
    exact ab_rf_ok sg eK (fun j b' r' e1 e2 => hj (j + 1) b' r' e1 e2) (ab_set1_ok hk hx ⟨by dsimp only; omega, by dsimp only; omega⟩)
def ab_use (h : ab_H) (md : ab_Md) (c : ab_Ct) (as : List ab_A) (K : ab_K) (Ca : ab_Ca) : Option (List ab_Out) :=
  if ab_mds c.2.2.2.2.1 md = true then (match ab_in h 0 (0, [], c.2.1, c.2.2.1, c.2.2.2.1) (0, [], as, K, Ca) with
    | some (K1, Ca1, sg) => some (c.2.2.2.2.2.map (fun e => (e.1.map (ab_tv sg K1.length), ab_rf sg e.2.1 K1 ++ (e.2.1.drop sg.length).map (ab_tk sg K1.length), Ca1.filter (fun q => !(ab_inM c.2.2.2.2.1 q.1 q.2.1)) ++ e.2.2.map (fun q => (q.1, q.2.1, ab_tv sg K1.length q.2.2)))))
    | none => none) else none
theorem ab_use_ok {ms : List ev_MI} {h : ab_H} {N : cm_M → Prop} {M0 : cm_M} {md : ab_Md} {d : Nat} {c : ab_Ct} (hN : ab_NP h N) (hc : ab_CT ms h N d c) {as : List ab_A} {K : ab_K} {Ca : ab_Ca} {outs : List ab_Out} {ρ : List Int32} {vs : List Value} {M : cm_M} (hu : ab_use h md c as K Ca = some outs) (gs : ab_s ρ as vs) (gk : ab_k ρ K) (gm : ab_m h N M0 md ρ Ca M) : cm_Call ms d c.1 vs M (ab_Post h N M0 md ρ outs) := by
  unfold ab_use at hu
  split at hu
  · rename_i hmd
    split at hu
    · rename_i K1 Ca1 sg hin
      cases hu
      obtain ⟨e1, eT, k1, k2, k3, k4, -, k6, k7, k8⟩ := ab_in_ok (N := N) (M0 := M0) (md := md) (ρ0 := []) (e := ρ) (C := (0, [], vs, M)) hN hin rfl (fun q hq => nomatch hq) gs gk gm
      rw [List.nil_append] at k1 k2 k3 k4 k6 k7 k8
      dsimp only at k6 k7 k8 k2
      rw [List.nil_append] at k3
      rw [← k3] at k6 k7 k8
      refine cm_Call_up (hc _ vs M k6 k7 k8.1 k8.2.2) (Nat.le_refl _) (fun v M' hp => ?_)
      obtain ⟨o, ho, ext, p1, p2, p3⟩ := hp
      have hn : K1.length = (ρ ++ e1).length := k1.1
      have hlen : (ab_rT (ρ ++ e1) sg).length = sg.length := by unfold ab_rT; rw [List.length_map]
      refine ⟨_, List.mem_map.mpr ⟨o, ho, rfl⟩, e1 ++ ext, ?_, ?_, p3.1, ?_, ?_⟩
      · rw [← List.append_assoc]
        exact ab_tv_s hn k4 p1
      · rw [← List.append_assoc]
        have hol : o.2.1.length = sg.length + ext.length := by rw [p2.1, List.length_append, hlen]
        have hrf : ab_k (ρ ++ e1) (ab_rf sg o.2.1 K1) := by
          refine ab_rf_ok sg o.2.1 (fun j b r g1 g2 => ?_) k1
          obtain ⟨x, hx⟩ := k4 b (List.mem_of_getElem? g1)
          have g3 := ab_rT_at g1 hx
          exact ⟨x, hx, (p2.2 j r x g2 (ev_ap g3)).1⟩
        have hrl := ab_rf_len sg o.2.1 K1
        refine ⟨by simp only [List.length_append, List.length_map, List.length_drop]; rw [hrl, hn, hol, List.length_append]; omega, fun j r x h1 h2 => ?_⟩
        by_cases hj : j < K1.length
        · rw [List.getElem?_append_left (by rw [hrl]; exact hj)] at h1
          rw [List.getElem?_append_left (by rw [← hn]; exact hj)] at h2
          exact ab_e_ap (hrf.2 j r x h1 h2)
        · rw [List.getElem?_append_right (by rw [hrl]; omega), List.getElem?_map, List.getElem?_drop, hrl] at h1
          rw [List.getElem?_append_right (by rw [← hn]; omega)] at h2
          cases hz : o.2.1[sg.length + (j - K1.length)]? with
          | none => rw [hz] at h1; cases h1
          | some r0 =>
            rw [hz] at h1
            cases h1
            have h5 := p2.2 (sg.length + (j - K1.length)) r0 x hz (by
              rw [List.getElem?_append_right (by rw [hlen]; omega), hlen, show sg.length + (j - K1.length) - sg.length = j - (ρ ++ e1).length by omega]
              exact h2)
            refine ⟨h5.1, ?_⟩
            rcases h5.2 with h6 | ⟨y, z, hy, hz2, e⟩
            · exact Or.inl h6
            · exact Or.inr ⟨y, z, ab_tv_i hn k4 hy, ab_tv_i hn k4 hz2, e⟩
      · intro c' i' hm'
        obtain ⟨f1, f2, f3⟩ := p3.2.1 c' i' (ab_mds_ok hmd hm')
        obtain ⟨g1, g2, g3⟩ := k2.2.1 c' i' hm'
        exact ⟨f1.trans g1, f2.trans g2, f3.trans g3⟩
      · intro q hq
        rw [← List.append_assoc]
        rcases List.mem_append.mp hq with hq | hq
        · obtain ⟨q1, q2⟩ := List.mem_filter.mp hq
          have q2 : ab_inM c.2.2.2.2.1 q.1 q.2.1 = false := by simpa using q2
          obtain ⟨f1, -, f3⟩ := p3.2.1 q.1 q.2.1 q2
          exact ab_ce_ap (ab_ce_ne f1 f3 (k2.2.2 q q1))
        · obtain ⟨q0, h0, rfl⟩ := List.mem_map.mp hq
          have h1 := p3.2.2 q0 h0
          unfold ab_ce at h1 ⊢
          dsimp only
          rw [ab_tv_isI k4]
          split
          · rename_i hI
            rw [if_pos hI] at h1
            exact ab_tv_i hn k4 h1
          · rename_i hI
            rw [if_neg hI] at h1
            exact ab_tv_v hn k4 h1
    · cases hu
  · cases hu
def ab_uses (h : ab_H) (md : ab_Md) (us : List ab_Ct) (k : Nat) (as : List ab_A) (K : ab_K) (Ca : ab_Ca) : Option (List ab_Out) := match us with
  | [] => none
  | c :: r => if c.1 = k then (match ab_use h md c as K Ca with
      | some o => some o
      | none => ab_uses h md r k as K Ca) else ab_uses h md r k as K Ca
theorem ab_uses_ok {ms : List ev_MI} {h : ab_H} {N : cm_M → Prop} {M0 : cm_M} {md : ab_Md} {d : Nat} (hN : ab_NP h N) : ∀ {us : List ab_Ct}, (∀ c ∈ us, ab_CT ms h N d c) → ab_ClOk ms h N M0 md d (ab_uses h md us)
  | [], _ => fun k as K Ca outs ρ vs M hu => by cases hu
  | c :: r, hus => fun k as K Ca outs ρ vs M hu gs gk gm => by
    have ih := ab_uses_ok hN (M0 := M0) (md := md) (us := r) (fun x hx => hus x (List.mem_cons_of_mem _ hx))
    unfold ab_uses at hu
    split at hu
    · rename_i hk
      split at hu
      · rename_i o ho
        cases hu
        rw [← hk]
        exact ab_use_ok hN (hus c List.mem_cons_self) ho gs gk gm
      · exact ih k as K Ca outs ρ vs M hu gs gk gm
    · exact ih k as K Ca outs ρ vs M hu gs gk gm
/-! a method's end -/
def ab_ret (ret : Option FieldType) (rows : List (Nat × ev_Row)) (S : ab_S) : Bool := match ev_at rows S.1 with
  | some r => (match r.1, ret, S.2.2.1 with
    | 210, some .int, [a] => ab_isI a
    | 210, some .boolean, [a] => ab_isI a && (decide (0 ≤ (ab_bd S.2.2.2.1 a).1) && decide ((ab_bd S.2.2.2.1 a).2 ≤ 1))
    | 210, some .char, [a] => ab_isI a && (decide (0 ≤ (ab_bd S.2.2.2.1 a).1) && decide ((ab_bd S.2.2.2.1 a).2 ≤ 65535))
    | 210, some .byte, [a] => ab_isI a && (decide (0 ≤ (ab_bd S.2.2.2.1 a).1) && decide ((ab_bd S.2.2.2.1 a).2 ≤ 0))
    | 211, some .long, [a] => decide (a.1 = 6)
    | 212, some (.object _), [a] => decide (a.1 = 1)
    | 213, none, [] => true
    | _, _, _ => false)
  | none => false
theorem ab_ret_ok {h : ab_H} {N : cm_M → Prop} {M0 : cm_M} {md : ab_Md} {ret : Option FieldType} {rows : List (Nat × ev_Row)} {S : ab_S} {C : cm_S} {ρ : List Int32} {Post : cm_K} {r : ev_Row} (hr : ab_ret ret rows S = true) (hG : ab_G h N M0 md ρ S C) (he : ev_at rows C.1 = some r) (hp : ∀ v : Option Value, ab_s ρ S.2.2.1 v.toList → Post v C.2.2.2) : cm_ret ret Post r.1 C := by
  obtain ⟨pc, L, st, K, Ca⟩ := S
  obtain ⟨cpc, CL, sc, M⟩ := C
  obtain ⟨e0, gl, gs, gk, gm⟩ := hG
  dsimp only at e0 gl gs gk gm hp he
  subst e0
  unfold ab_ret at hr
  dsimp only at hr
  rw [he] at hr
  dsimp only at hr
  split at hr
  · rename_i a0 e1
    obtain ⟨v, sc', rfl, hv, gs'⟩ := ab_s_cons gs
    cases ab_s_nil gs'
    obtain ⟨x, hx, rfl⟩ := ab_vi hr hv
    rw [e1]
    exact hp (some (.int x)) ⟨hv, trivial⟩
  · rename_i a0 e1
    simp only [Bool.and_eq_true, decide_eq_true_eq] at hr
    obtain ⟨v, sc', rfl, hv, gs'⟩ := ab_s_cons gs
    cases ab_s_nil gs'
    obtain ⟨x, hx, rfl⟩ := ab_vi hr.1 hv
    obtain ⟨b1, b2⟩ := ab_bd_in gk hx
    rw [e1]
    refine ⟨?_, hp (some (.int x)) ⟨hv, trivial⟩⟩
    have : x.toInt = 0 ∨ x.toInt = 1 := by omega
    rcases this with h0 | h0
    · exact Or.inl (Int32.toInt_inj.mp (by rw [h0]; rfl))
    · exact Or.inr (Int32.toInt_inj.mp (by rw [h0]; rfl))
  · rename_i a0 e1
    simp only [Bool.and_eq_true, decide_eq_true_eq] at hr
    obtain ⟨v, sc', rfl, hv, gs'⟩ := ab_s_cons gs
    cases ab_s_nil gs'
    obtain ⟨x, hx, rfl⟩ := ab_vi hr.1 hv
    obtain ⟨b1, b2⟩ := ab_bd_in gk hx
    rw [e1]
    exact ⟨by omega, by omega, hp (some (.int x)) ⟨hv, trivial⟩⟩
  · rename_i a0 e1
    simp only [Bool.and_eq_true, decide_eq_true_eq] at hr
    obtain ⟨v, sc', rfl, hv, gs'⟩ := ab_s_cons gs
    cases ab_s_nil gs'
    obtain ⟨x, hx, rfl⟩ := ab_vi hr.1 hv
    obtain ⟨b1, b2⟩ := ab_bd_in gk hx
    rw [e1]
    exact ⟨Int32.toInt_inj.mp (by have : x.toInt = 0 := by omega
                                  rw [this]; rfl), hp (some (.int x)) ⟨hv, trivial⟩⟩
  · rename_i a0 e1
    obtain ⟨v, sc', rfl, hv, gs'⟩ := ab_s_cons gs
    cases ab_s_nil gs'
    obtain ⟨x, rfl⟩ := ab_v6 (of_decide_eq_true hr) hv
    rw [e1]
    exact hp (some (.long x)) ⟨hv, trivial⟩
  · rename_i a0 e1
    obtain ⟨v, sc', rfl, hv, gs'⟩ := ab_s_cons gs
    cases ab_s_nil gs'
    obtain ⟨x, -, rfl⟩ := ab_v1 (of_decide_eq_true hr) hv
    rw [e1]
    exact hp (some (.ref x)) ⟨hv, trivial⟩
  · rename_i e1
    cases ab_s_nil gs
    rw [e1]
    exact hp none trivial
  · cases hr
def ab_args : Nat → List ab_A → List (Nat × ab_A)
  | _, [] => []
  | i, a :: as => (i, a) :: ab_args (i + if a.1 = 6 then 2 else 1) as
theorem ab_args_ge : ∀ (as : List ab_A) (i : Nat), ∀ q ∈ ab_args i as, i ≤ q.1
  | [], i, q, hq => nomatch hq
  | a :: as, i, q, hq => by
    unfold ab_args at hq
    rcases List.mem_cons.mp hq with rfl | hq
    · exact Nat.le_refl _
    · have := ab_args_ge as _ q hq
      omega
theorem ab_args_ok {ρ : List Int32} : ∀ {as : List ab_A} {vs : List Value} (i : Nat), ab_s ρ as vs → ab_l ρ (ab_args i as) (cm_args i vs)
  | [], [], i, _ => fun q hq => nomatch hq
  | [], _ :: _, _, h => h.elim
  | _ :: _, [], _, h => h.elim
  | a :: as, v :: vs, i, h => by
    intro q hq
    unfold ab_args at hq
    unfold cm_args cm_look
    rcases List.mem_cons.mp hq with rfl | hq
    · rw [if_pos rfl]
      exact ⟨v, rfl, h.1⟩
    · have hge := ab_args_ge as _ q hq
      have hne : ¬ i = q.1 := by
        have : 1 ≤ (if a.1 = 6 then 2 else 1) := by split <;> omega
        omega
      rw [if_neg hne]
      have hcat : v.category = (if a.1 = 6 then 2 else 1) := by
        rcases ab_cat h.1 with ⟨h1, h2⟩ | ⟨h1, h2⟩
        · rw [h2, if_pos h1]
        · rw [h2, if_neg h1]
      rw [hcat]
      exact ab_args_ok _ h.2 q hq
/-! AB: calls by their bodies, loops, methods -/
def ab_outs (ret : Option FieldType) (rows : List (Nat × ev_Row)) : List (Bool × ab_S) → Option (List ab_Out)
  | [] => some []
  | f :: r => if f.1 = false ∧ ab_ret ret rows f.2 = true then (match ab_outs ret rows r with
      | some o => some ((f.2.2.2.1, f.2.2.2.2.1, f.2.2.2.2.2) :: o)
      | none => none) else none
theorem ab_outs_ok {ret : Option FieldType} {rows : List (Nat × ev_Row)} : ∀ {fs : List (Bool × ab_S)} {o : List ab_Out}, ab_outs ret rows fs = some o → ∀ f ∈ fs, f.1 = false ∧ ab_ret ret rows f.2 = true ∧ (f.2.2.2.1, f.2.2.2.2.1, f.2.2.2.2.2) ∈ o
  | [], o, h => fun f hf => nomatch hf
  | g :: r, o, h => by
    unfold ab_outs at h
    split at h
    · rename_i hc
      split at h
      · rename_i o' ho
        cases h
        intro f hf
        rcases List.mem_cons.mp hf with rfl | hf
        · exact ⟨hc.1, hc.2, List.mem_cons_self⟩
        · obtain ⟨a, b, c⟩ := ab_outs_ok ho f hf
          exact ⟨a, b, List.mem_cons_of_mem _ c⟩
      · cases h
    · cases h
/-- a call: by its body where its number stands in inl, else by a contract -/
def ab_cl (ms : List ev_MI) (h : ab_H) (md : ab_Md) (us : List ab_Ct) (inl : List (Nat × ev_MI)) : Nat → ab_Cl
  | 0 => ab_uses h md us
  | n + 1 => fun k as K Ca => (match ev_at inl k with
      | some mi => if ab_cs as ≤ mi.2.2.1 then (match ab_run (ab_cl ms h md us inl n) h md (cm_P mi) mi.2.2.2.2.2.2 [] 2000 (0, ab_args 0 as, [], K, Ca) with
          | some fs => ab_outs mi.2.2.2.1 mi.2.2.2.2.2.2 fs
          | none => none) else none
      | none => ab_uses h md us k as K Ca)
section ABC
variable {ms : List ev_MI} {h : ab_H} {N : cm_M → Prop}
theorem ab_CT_up {c : ab_Ct} {d e : Nat} (hc : ab_CT ms h N d c) (hd : d ≤ e) : ab_CT ms h N e c := fun ρ vs M h1 h2 h3 h4 => cm_Call_up (hc ρ vs M h1 h2 h3 h4) hd (fun _ _ q => q)
theorem ab_cl_ok (hMS : ∀ (k : Nat) (mi : ev_MI), ms[k]? = some mi → cm_MOK ms mi) (hRC : ∀ (k : Nat) (mi : ev_MI), ms[k]? = some mi → ∀ q ∈ mi.2.2.2.2.2.2, ab_RC ms q) {inl : List (Nat × ev_MI)} (hin : ∀ q ∈ inl, ms[q.1]? = some q.2) (hN : ab_NP h N) {M0 : cm_M} {md : ab_Md} {us : List ab_Ct} {d : Nat} (hus : ∀ c ∈ us, ab_CT ms h N d c) : ∀ n : Nat, ab_ClOk ms h N M0 md (d + n) (ab_cl ms h md us inl n)
  | 0 => ab_uses_ok hN hus
  | n + 1 => fun k as K Ca outs ρ vs M hu gs gk gm => by
    unfold ab_cl at hu
    split at hu
    · rename_i mi hmi0
      have hmi := hin _ (ev_at_mem hmi0)
      dsimp only at hmi
      · split at hu
        · rename_i hcs
          split at hu
          · rename_i fs hfs
            refine cm_Call_of hMS hmi (by rw [ab_cs_ok gs]; exact hcs) ?_
            refine cm_At_run hMS hmi (stops := []) (J := fun _ => False) (fun S hS => hS.elim) (n := 2000) ?_
            refine ab_run_ok hN (ab_cl_ok hMS hRC hin hN hus n) (hRC k mi hmi) 2000 _ fs _ ρ hfs ⟨rfl, ab_args_ok 0 gs, trivial, gk, gm⟩ (fun f hf ext C' hG => ⟨fun ht => ?_, fun _ r hr _ => ?_⟩)
            · have := (ab_outs_ok hu f hf).1
              rw [this] at ht
              cases ht
            · obtain ⟨-, o2, o3⟩ := ab_outs_ok hu f hf
              exact ab_ret_ok o2 hG hr (fun v hv => ⟨_, o3, ext, hv, hG.2.2.2.1, hG.2.2.2.2⟩)
          · cases hu
        · cases hu
    · exact cm_Call_up (ab_uses_ok hN hus k as K Ca outs ρ vs M hu gs gk gm) (by omega) (fun _ _ q => q)
end ABC
/-! measures: terms c + s x, compared one behind the other -/
abbrev ab_Mu : Type := List (Int × Int × ab_A)
def ab_tm (ρ : List Int32) (m : Int × Int × ab_A) : Int := m.2.1 + m.1 * ((ab_i ρ m.2.2).getD 0).toInt
def ab_tb (K : ab_K) (m : Int × Int × ab_A) : Int × Int := if m.1 = 1 then (m.2.1 + (ab_bd K m.2.2).1, m.2.1 + (ab_bd K m.2.2).2) else if m.1 = -1 then (m.2.1 - (ab_bd K m.2.2).2, m.2.1 - (ab_bd K m.2.2).1) else (m.2.1, m.2.1)
def ab_tok (K : ab_K) (m : Int × Int × ab_A) : Bool := ab_def K m.2.2 && (decide (m.1 = 1 ∨ m.1 = -1 ∨ m.1 = 0) && (decide (0 ≤ (ab_tb K m).1) && decide ((ab_tb K m).2 < 17179869184)))
theorem ab_tb_in {ρ : List Int32} {K : ab_K} {m : Int × Int × ab_A} (hk : ab_k ρ K) (h : ab_tok K m = true) : (ab_tb K m).1 ≤ ab_tm ρ m ∧ ab_tm ρ m ≤ (ab_tb K m).2 ∧ 0 ≤ ab_tm ρ m ∧ ab_tm ρ m < 17179869184 := by
  simp only [ab_tok, Bool.and_eq_true, decide_eq_true_eq] at h
  obtain ⟨h1, h2, h3, h4⟩ := h
  obtain ⟨x, hx⟩ := ab_def_ok h1 hk
  obtain ⟨b1, b2⟩ := ab_bd_in hk hx
  unfold ab_tm
  rw [hx]
  unfold ab_tb at h3 h4 ⊢
  simp only [Option.getD_some]
  rcases h2 with h2 | h2 | h2
  · rw [if_pos h2] at h3 h4 ⊢
    rw [h2]
    dsimp only at h3 h4 ⊢
    omega
  · rw [if_neg (by omega), if_pos h2] at h3 h4 ⊢
    rw [h2]
    dsimp only at h3 h4 ⊢
    omega
  · rw [if_neg (by omega), if_neg (by omega)] at h3 h4 ⊢
    rw [h2]
    dsimp only at h3 h4 ⊢
    omega
def ab_mu (ρ : List Int32) : ab_Mu → Nat
  | [] => 0
  | m :: ms => (ab_tm ρ m).toNat * 17179869184 ^ ms.length + ab_mu ρ ms
theorem ab_mu_lt {ρ : List Int32} {K : ab_K} (hk : ab_k ρ K) : ∀ {l : ab_Mu}, l.all (ab_tok K) = true → ab_mu ρ l < 17179869184 ^ l.length
  | [], _ => by show 0 < 17179869184 ^ 0; decide
  | m :: l, h => by
    rw [List.all_cons, Bool.and_eq_true] at h
    have ih := ab_mu_lt hk h.2
    obtain ⟨-, -, t1, t2⟩ := ab_tb_in hk h.1
    unfold ab_mu
    rw [List.length_cons, Nat.pow_succ]
    have h1 : (ab_tm ρ m).toNat + 1 ≤ 17179869184 := by omega
    have h2 := Nat.mul_le_mul_right (17179869184 ^ l.length) h1
    rw [Nat.add_mul, Nat.one_mul, Nat.mul_comm 17179869184] at h2
    omega
theorem ab_mu_ap {ρ ext : List Int32} : ∀ {m : ab_Mu}, (∀ q ∈ m, ∃ x, ab_i ρ q.2.2 = some x) → ab_mu (ρ ++ ext) m = ab_mu ρ m
  | [], _ => rfl
  | a :: m, hq => by
    unfold ab_mu
    rw [ab_mu_ap (fun q h => hq q (List.mem_cons_of_mem _ h))]
    obtain ⟨x, hx⟩ := hq a List.mem_cons_self
    unfold ab_tm
    rw [ab_i_ap hx, hx]
/-- the new term is less: by bounds, or one is a sum of the other -/
def ab_tlt (K : ab_K) (o n : Int × Int × ab_A) : Bool := decide ((ab_tb K n).2 < (ab_tb K o).1) || (decide (n.1 = o.1) && (decide (n.2.1 = o.2.1) && (decide (n.2.2.1 = 3) && (match K[n.2.2.2.1.toNat]? with
  | some r => (decide (r.2.2.1 = 1) || decide (r.2.2.1 = 2)) && (ab_eqA r.2.2.2.1 o.2.2 && (decide (r.2.2.2.2.1 = 0) &&
      (let c := if r.2.2.1 = 1 then (Int32.ofInt r.2.2.2.2.2.1).toInt else - (Int32.ofInt r.2.2.2.2.2.1).toInt
       decide (o.1 * c < 0) && (decide (-2147483648 ≤ (ab_bd K o.2.2).1 + c) && decide ((ab_bd K o.2.2).2 + c ≤ 2147483647)))))
  | none => false))))
theorem ab_tlt_ok {ρ : List Int32} {K : ab_K} {o n : Int × Int × ab_A} (hk : ab_k ρ K) (ho : ab_tok K o = true) (hn : ab_tok K n = true) (h : ab_tlt K o n = true) : ab_tm ρ n < ab_tm ρ o := by
  have o1 := ab_tb_in hk ho
  have n1 := ab_tb_in hk hn
  unfold ab_tlt at h
  rw [Bool.or_eq_true] at h
  rcases h with h | h
  · have h := of_decide_eq_true h
    omega
  · simp only [Bool.and_eq_true, decide_eq_true_eq] at h
    obtain ⟨e1, e2, e3, h⟩ := h
    split at h
    · rename_i r hr
      simp only [Bool.and_eq_true, Bool.or_eq_true, decide_eq_true_eq] at h
      obtain ⟨f1, f2, f3, f4, f5, f6⟩ := h
      simp only [ab_tok, Bool.and_eq_true] at ho hn
      obtain ⟨x, hx⟩ := ab_def_ok ho.1 hk
      obtain ⟨y, hy⟩ := ab_def_ok hn.1 hk
      have hy2 : ρ[n.2.2.2.1.toNat]? = some y := by
        unfold ab_i at hy
        rw [e3] at hy
        exact hy
      have hc : ab_i ρ r.2.2.2.2 = some (Int32.ofInt r.2.2.2.2.2.1) := by
        unfold ab_i
        rw [f3]
        rfl
      obtain ⟨b1, b2⟩ := ab_bd_in hk hx
      rcases (hk.2 _ r y hr hy2).2 with hz | ⟨u, z, hu, hz, e⟩
      · omega
      · rw [hc] at hz
        cases hz
        rw [ab_eqA_ok f2, hx] at hu
        cases hu
        unfold ab_tm
        rw [hx, hy, e1, e2]
        simp only [Option.getD_some]
        have hyx : y.toInt = x.toInt + (if r.2.2.1 = 1 then (Int32.ofInt r.2.2.2.2.2.1).toInt else - (Int32.ofInt r.2.2.2.2.2.1).toInt) := by
          rcases f1 with f1 | f1
          · rw [if_pos f1] at f5 f6 ⊢
            rw [f1] at e
            have e : y = x + Int32.ofInt r.2.2.2.2.2.1 := e
            rw [e, Int32.toInt_add]
            exact ev_bm (by omega) (by omega)
          · rw [if_neg (by omega)] at f5 f6 ⊢
            rw [f1] at e
            have e : y = x - Int32.ofInt r.2.2.2.2.2.1 := e
            rw [e, Int32.toInt_sub]
            rw [show x.toInt - (Int32.ofInt r.2.2.2.2.2.1).toInt = x.toInt + - (Int32.ofInt r.2.2.2.2.2.1).toInt by omega]
            exact ev_bm (by omega) (by omega)
        rw [hyx, Int.mul_add]
        omega
    · cases h
def ab_teq (o n : Int × Int × ab_A) : Bool := decide (n.1 = o.1) && (decide (n.2.1 = o.2.1) && ab_eqA n.2.2 o.2.2)
def ab_lex (K : ab_K) : ab_Mu → ab_Mu → Bool
  | o :: os, n :: ns => if ab_teq o n = true then ab_lex K os ns else ab_tlt K o n
  | _, _ => false
theorem ab_lex_ok {ρ : List Int32} {K : ab_K} (hk : ab_k ρ K) : ∀ {os ns : ab_Mu}, os.length = ns.length → os.all (ab_tok K) = true → ns.all (ab_tok K) = true → ab_lex K os ns = true → ab_mu ρ ns < ab_mu ρ os
  | [], _, _, _, _, h => by cases h
  | _ :: _, [], _, _, _, h => by cases h
  | o :: os, n :: ns, hl, ho, hn, h => by
    rw [List.all_cons, Bool.and_eq_true] at ho hn
    have hl : os.length = ns.length := Nat.succ.inj hl
    unfold ab_lex at h
    unfold ab_mu
    rw [hl]
    split at h
    · rename_i he
      simp only [ab_teq, Bool.and_eq_true, decide_eq_true_eq] at he
      obtain ⟨a1, a2, a3⟩ := he
      have : n = o := Prod.ext a1 (Prod.ext a2 (ab_eqA_ok a3))
      rw [this]
      have := ab_lex_ok hk hl ho.2 hn.2 h
      omega
    · have h1 := ab_tlt_ok hk ho.1 hn.1 h
      have h2 := ab_tb_in hk ho.1
      have h3 := ab_tb_in hk hn.1
      have h4 := ab_mu_lt hk hn.2
      have h5 : (ab_tm ρ n).toNat + 1 ≤ (ab_tm ρ o).toNat := by omega
      have h6 := Nat.mul_le_mul_right (17179869184 ^ ns.length) h5
      rw [Nat.add_mul, Nat.one_mul] at h6
      omega
/-- a template at a loop's head, with its measure -/
abbrev ab_Tm : Type := ab_S × ab_Mu
def ab_sbm (sg : List ab_A) (mu : ab_Mu) : ab_Mu := mu.map (fun m => (m.1, m.2.1, ab_sb sg m.2.2))
theorem ab_sbm_ok {ρ : List Int32} {sg : List ab_A} {K : ab_K} (hk : ab_k ρ K) : ∀ {mu : ab_Mu}, (ab_sbm sg mu).all (ab_tok K) = true → ab_mu (ab_rT ρ sg) mu = ab_mu ρ (ab_sbm sg mu)
  | [], _ => rfl
  | m :: mu, h => by
    unfold ab_sbm at h ⊢
    rw [List.map_cons] at h ⊢
    rw [List.all_cons, Bool.and_eq_true] at h
    have ih := ab_sbm_ok hk (mu := mu) h.2
    unfold ab_sbm at ih
    unfold ab_mu
    rw [List.length_map, ih]
    congr 2
    have h1 := h.1
    simp only [ab_tok, Bool.and_eq_true] at h1
    obtain ⟨x, hx⟩ := ab_def_ok h1.1 hk
    unfold ab_tm
    dsimp only at hx ⊢
    rw [hx, ab_sb_ok hx]
/-- an end of a run: at a head, where the measure is less (if one is given), or at one of the method's ends -/
def ab_end (h : ab_H) (nE : Nat) (ret : Option FieldType) (rows : List (Nat × ev_Row)) (tms : List ab_Tm) (ex : List ab_Out) (mu : Option ab_Mu) (f : Bool × ab_S) : Bool :=
  if f.1 = true then tms.any (fun T => decide (T.1.1 = f.2.1) && (match ab_in h nE T.1 f.2 with
    | some (K1, _, sg) => (match mu with
      | none => true
      | some m => decide (m.length = T.2.length) && (m.all (ab_tok K1) && ((ab_sbm sg T.2).all (ab_tok K1) && ab_lex K1 m (ab_sbm sg T.2))))
    | none => false))
  else ab_ret ret rows f.2 && ex.any (fun e => (ab_in h nE (f.2.1, [], e.1, e.2.1, e.2.2) (f.2.1, [], f.2.2.2)).isSome)
def ab_chk1 (ms : List ev_MI) (h : ab_H) (us : List ab_Ct) (inl : List (Nat × ev_MI)) (dd n : Nat) (c : ab_Ct) (mi : ev_MI) (tms : List ab_Tm) (mu : Option ab_Mu) (S : ab_S) : Bool := match ab_run (ab_cl ms h c.2.2.2.2.1 us inl dd) h c.2.2.2.2.1 (cm_P mi) mi.2.2.2.2.2.2 (tms.map (fun T => (T.1.1, T.1.2.1.map (fun q => q.1)))) n S with
  | some fs => fs.all (ab_end h c.2.2.1.length mi.2.2.2.1 mi.2.2.2.2.2.2 tms c.2.2.2.2.2 mu)
  | none => false
def ab_chk (ms : List ev_MI) (h : ab_H) (us : List ab_Ct) (inl : List (Nat × ev_MI)) (dd n : Nat) (c : ab_Ct) (tms : List ab_Tm) : Bool := match ms[c.1]? with
  | some mi => decide (ab_cs c.2.1 ≤ mi.2.2.1) && (ab_chk1 ms h us inl dd n c mi tms none (0, ab_args 0 c.2.1, [], c.2.2.1, c.2.2.2.1) && tms.all (fun T => ab_chk1 ms h us inl dd n c mi tms (some T.2) T.1))
  | none => false
section ABD
variable {ms : List ev_MI} {h : ab_H} {N : cm_M → Prop}
theorem ab_chk1_ok (hMS : ∀ (k : Nat) (mi : ev_MI), ms[k]? = some mi → cm_MOK ms mi) (hRC : ∀ (k : Nat) (mi : ev_MI), ms[k]? = some mi → ∀ q ∈ mi.2.2.2.2.2.2, ab_RC ms q) {inl : List (Nat × ev_MI)} (hin : ∀ q ∈ inl, ms[q.1]? = some q.2) (hN : ab_NP h N) {us : List ab_Ct} {d dd n : Nat} (hus : ∀ c ∈ us, ab_CT ms h N d c) {c : ab_Ct} {mi : ev_MI} (hmi : ms[c.1]? = some mi) {tms : List ab_Tm} {mu : Option ab_Mu} {S : ab_S} {C : cm_S} {M0 : cm_M} {ρ0 e : List Int32} (h0 : ρ0.length = c.2.2.1.length) (hk : ab_chk1 ms h us inl dd n c mi tms mu S = true) (hG : ab_G h N M0 c.2.2.2.2.1 (ρ0 ++ e) S C)
    (IH : ∀ T ∈ tms, ∀ (eT : List Int32) (C' : cm_S), ab_G h N M0 c.2.2.2.2.1 (ρ0 ++ eT) T.1 C' → (∀ m, mu = some m → ab_mu (ρ0 ++ eT) T.2 < ab_mu (ρ0 ++ e) m) → cm_At ms (d + dd) mi (ab_Post h N M0 c.2.2.2.2.1 ρ0 c.2.2.2.2.2) C') (hmu : ∀ m, mu = some m → ∀ q ∈ m, ∃ x, ab_i (ρ0 ++ e) q.2.2 = some x) : cm_At ms (d + dd) mi (ab_Post h N M0 c.2.2.2.2.1 ρ0 c.2.2.2.2.2) C := by
  unfold ab_chk1 at hk
  split at hk
  · rename_i fs hfs
    refine cm_At_run hMS hmi (stops := tms.map (fun T => (T.1.1, T.1.2.1.map (fun q => q.1)))) (J := cm_At ms (d + dd) mi (ab_Post h N M0 c.2.2.2.2.1 ρ0 c.2.2.2.2.2)) (fun S hS => hS) (n := n) ?_
    refine ab_run_ok hN (ab_cl_ok hMS hRC hin hN hus dd) (hRC _ mi hmi) n S fs C (ρ0 ++ e) hfs hG (fun f hf ext C' hG' => ?_)
    have h1 := List.all_eq_true.mp hk f hf
    unfold ab_end at h1
    rw [List.append_assoc] at hG'
    obtain ⟨g0, g1, g2, g3, g4⟩ := hG'
    refine ⟨fun ht => ?_, fun hfl r hr _ => ?_⟩
    · rw [if_pos ht] at h1
      obtain ⟨T, hT, h2⟩ := List.any_eq_true.mp h1
      simp only [Bool.and_eq_true, decide_eq_true_eq] at h2
      obtain ⟨hpc, h3⟩ := h2
      split at h3
      · rename_i K1 Ca1 sg hin
        obtain ⟨e1, eT, k1, -, k3, k4, k5, k6, k7, k8⟩ := ab_in_ok hN hin h0 g1 g2 g3 g4
        refine IH T hT eT C' ⟨by rw [g0, hpc], k5, k6, k7, k8⟩ (fun m hm => ?_)
        subst hm
        dsimp only at h3
        simp only [Bool.and_eq_true, decide_eq_true_eq] at h3
        obtain ⟨l1, l2, l3, l4⟩ := h3
        have h5 := ab_lex_ok k1 (by unfold ab_sbm; rw [List.length_map]; exact l1) l2 l3 l4
        rw [← ab_sbm_ok k1 l3, k3] at h5
        have h6 : ab_mu (ρ0 ++ (e ++ ext) ++ e1) m = ab_mu (ρ0 ++ e) m := by
          rw [← List.append_assoc, List.append_assoc (ρ0 ++ e)]
          exact ab_mu_ap (hmu m rfl)
        rw [h6] at h5
        exact h5
      · cases h3
    · rw [if_neg (by rw [hfl]; decide), Bool.and_eq_true] at h1
      obtain ⟨h2, h3⟩ := h1
      obtain ⟨o, ho, h4⟩ := List.any_eq_true.mp h3
      refine ab_ret_ok h2 ⟨g0, g1, g2, g3, g4⟩ hr (fun v hv => ?_)
      obtain ⟨w, hw⟩ := Option.isSome_iff_exists.mp h4
      obtain ⟨K1, Ca1, sg⟩ := w
      obtain ⟨e1, eT, -, -, -, -, -, k6, k7, k8⟩ := ab_in_ok (C := (C'.1, [], v.toList, C'.2.2.2)) hN hw h0 (fun q hq => nomatch hq) hv g3 g4
      exact ⟨o, ho, eT, k6, k7, k8⟩
  · cases hk
/-- a method keeps its contract -/
theorem ab_chk_ok (hMS : ∀ (k : Nat) (mi : ev_MI), ms[k]? = some mi → cm_MOK ms mi) (hRC : ∀ (k : Nat) (mi : ev_MI), ms[k]? = some mi → ∀ q ∈ mi.2.2.2.2.2.2, ab_RC ms q) {inl : List (Nat × ev_MI)} (hin : ∀ q ∈ inl, ms[q.1]? = some q.2) (hN : ab_NP h N) {us : List ab_Ct} {d dd n : Nat} (hus : ∀ c ∈ us, ab_CT ms h N d c) {c : ab_Ct} {tms : List ab_Tm} (hk : ab_chk ms h us inl dd n c tms = true) (hmu : ∀ T ∈ tms, T.2.all (ab_tok T.1.2.2.2.1) = true) : ab_CT ms h N (d + dd + 1) c := by
  intro ρ vs M gs gk gok gca
  unfold ab_chk at hk
  split at hk
  · rename_i mi hmi
    simp only [Bool.and_eq_true, decide_eq_true_eq] at hk
    obtain ⟨h1, h2, h3⟩ := hk
    refine cm_Call_of hMS hmi (by rw [ab_cs_ok gs]; exact h1) ?_
    have hlen : ρ.length = c.2.2.1.length := gk.1.symm
    have loops : ∀ (k : Nat) (T : ab_Tm), T ∈ tms → ∀ (eT : List Int32) (C' : cm_S), ab_G h N M c.2.2.2.2.1 (ρ ++ eT) T.1 C' → ab_mu (ρ ++ eT) T.2 < k → cm_At ms (d + dd) mi (ab_Post h N M c.2.2.2.2.1 ρ c.2.2.2.2.2) C' := by
      intro k
      induction k with
      | zero => intro T hT eT C' hG hlt; exact absurd hlt (Nat.not_lt_zero _)
      | succ k ih =>
        intro T hT eT C' hG hlt
        refine ab_chk1_ok hMS hRC hin hN hus hmi hlen (List.all_eq_true.mp h3 T hT) hG (fun T' hT' e' C2 hG2 hm => ih T' hT' e' C2 hG2 ?_) (fun m hm q hq => ?_)
        · have := hm T.2 rfl
          omega
        · cases hm
          have h4 := List.all_eq_true.mp (hmu T hT) q hq
          simp only [ab_tok, Bool.and_eq_true] at h4
          exact ab_def_ok h4.1 hG.2.2.2.1
    refine ab_chk1_ok (e := []) hMS hRC hin hN hus hmi hlen h2 ⟨rfl, by rw [ab_nil]; exact ab_args_ok 0 gs, trivial, by rw [ab_nil]; exact gk, gok, ab_fr_rf _ _, by rw [ab_nil]; exact gca⟩ (fun T hT eT C' hG _ => loops _ T hT eT C' hG (Nat.lt_succ_self _)) (fun m hm => by cases hm)
  · cases hk
end ABD
/-! AB: what is kept of the memory -/
def mins : List Nat := [32, 35, 41, 44, 47, 50, 53, 56, 59, 62, 65, 68, 71, 74, 77, 80, 83, 86, 89, 92, 95, 100, 103, 106, 109, 112, 120]
def minsH : List Nat := [33, 36, 42, 45, 48, 51, 54, 57, 60, 63, 66, 69, 72, 75, 78, 81, 84, 87, 90, 93, 96, 101, 104, 107, 110, 113, 121]
def minsF : List Nat := [34, 37, 43, 46, 49, 52, 55, 58, 61, 64, 67, 70, 73, 76, 79, 82, 85, 88, 91, 94, 97, 102, 105, 108, 111, 114, 122]
def hp : ab_H := ([(0, [(1, 0, 900)]), (2, [(1, 0, 900), (2, 0, 900), (8, 0, 1), (9, 0, 7), (10, 0, 16)]), (5, [(0, 0, 5), (1, 0, 5), (2, 0, 5), (3, 0, 5), (4, 0, 5), (5, 0, 5), (6, 0, 5), (7, 0, 5), (8, 0, 5), (9, 0, 5), (10, 0, 5), (11, 0, 5), (12, 0, 5), (13, 0, 5), (14, 0, 5), (15, 0, 5)]), (6, [(3, 0, 6), (9, 0, 5), (15, 0, 5)]), (19, [(3, 0, 6), (9, 0, 5), (15, 0, 5)]), (38, [(2, 0, 15), (3, 0, 16), (4, 0, 3)]), (98, [(1, 0, 4)]), (118, [(1, 0, 32)]), (124, [(2, 0, 900), (3, 0, 900), (5, 0, 900), (13, 0, 1), (14, 0, 1), (20, 0, 16), (21, 0, 3)]), (127, [(2, 0, 100), (3, 0, 6), (4, 0, 5), (5, 0, 9), (6, 0, 6), (7, 0, 9), (8, 0, 5), (10, 0, 1), (11, 0, 2), (14, 0, 2), (17, 0, 2), (20, 0, 2), (23, 0, 2), (26, 0, 2), (66, 0, 1000), (67, 0, 1000), (68, 0, 1000), (69, 0, 8), (70, 0, 8), (71, 0, 8), (72, 0, 8), (73, 0, 8), (74, 0, 8), (75, 0, 8), (76, 0, 8), (77, 0, 8), (78, 0, 8), (79, 0, 8), (80, 0, 8), (81, 0, 8), (82, 0, 8), (83, 0, 8), (84, 0, 8)]), (128, [(2, 0, 100), (3, 0, 6), (4, 0, 5), (5, 0, 9), (6, 0, 6), (7, 0, 9), (8, 0, 5), (10, 0, 1), (11, 0, 2), (14, 0, 2), (17, 0, 2), (20, 0, 2), (23, 0, 2), (26, 0, 2), (66, 0, 1000), (67, 0, 1000), (68, 0, 1000), (69, 0, 8), (70, 0, 8), (71, 0, 8), (72, 0, 8), (73, 0, 8), (74, 0, 8), (75, 0, 8), (76, 0, 8), (77, 0, 8), (78, 0, 8), (79, 0, 8), (80, 0, 8), (81, 0, 8), (82, 0, 8), (83, 0, 8), (84, 0, 8)]), (133, [(0, 0, 4), (1, 0, 4), (2, 0, 4), (3, 0, 4), (4, 0, 4)])], [(0, [(0, false, [1]), (2, false, [2]), (3, false, [6, 19]), (4, false, [6, 19]), (5, false, [32]), (6, false, [35]), (7, false, [38]), (8, false, [98]), (9, false, [115]), (10, false, [118]), (11, false, [123])]), (2, [(0, true, [1]), (7, true, [6, 19]), (11, false, [3]), (12, false, [4]), (13, false, [5])]), (6, [(4, false, [7]), (5, false, [8]), (6, false, [9]), (7, false, [10]), (8, false, [11]), (10, false, [12]), (11, false, [13]), (12, false, [14]), (13, false, [15]), (14, false, [16]), (16, false, [17]), (17, false, [18])]), (19, [(4, false, [20]), (5, false, [21]), (6, false, [22]), (7, false, [23]), (8, false, [24]), (10, false, [25]), (11, false, [26]), (12, false, [27]), (13, false, [28]), (14, false, [29]), (16, false, [30]), (17, false, [31])]), (32, [(0, false, [33]), (1, false, [34])]), (35, [(0, false, [36]), (1, false, [37])]), (38, [(0, false, [39]), (1, false, [40])]), (39, [(0, false, [41]), (1, false, [44]), (2, false, [47]), (3, false, [50]), (4, false, [53]), (5, false, [56]), (6, false, [59]), (7, false, [62]), (8, false, [65]), (9, false, [68]), (10, false, [71]), (11, false, [74]), (12, false, [77]), (13, false, [80]), (14, false, [83]), (15, false, [86])]), (40, [(0, false, [89]), (1, false, [92]), (2, false, [95])]), (41, [(0, false, [42]), (1, false, [43])]), (44, [(0, false, [45]), (1, false, [46])]), (47, [(0, false, [48]), (1, false, [49])]), (50, [(0, false, [51]), (1, false, [52])]), (53, [(0, false, [54]), (1, false, [55])]), (56, [(0, false, [57]), (1, false, [58])]), (59, [(0, false, [60]), (1, false, [61])]), (62, [(0, false, [63]), (1, false, [64])]), (65, [(0, false, [66]), (1, false, [67])]), (68, [(0, false, [69]), (1, false, [70])]), (71, [(0, false, [72]), (1, false, [73])]), (74, [(0, false, [75]), (1, false, [76])]), (77, [(0, false, [78]), (1, false, [79])]), (80, [(0, false, [81]), (1, false, [82])]), (83, [(0, false, [84]), (1, false, [85])]), (86, [(0, false, [87]), (1, false, [88])]), (89, [(0, false, [90]), (1, false, [91])]), (92, [(0, false, [93]), (1, false, [94])]), (95, [(0, false, [96]), (1, false, [97])]), (98, [(0, false, [99])]), (99, [(0, false, [100]), (1, false, [103]), (2, false, [106]), (3, false, [109]), (4, false, [112])]), (100, [(0, false, [101]), (1, false, [102])]), (103, [(0, false, [104]), (1, false, [105])]), (106, [(0, false, [107]), (1, false, [108])]), (109, [(0, false, [110]), (1, false, [111])]), (112, [(0, false, [113]), (1, false, [114])]), (115, [(0, false, [116]), (1, false, [117])]), (118, [(0, false, [119]), (2, false, [120])]), (120, [(0, false, [121]), (1, false, [122])]), (124, [(1, false, [125]), (12, false, [126]), (15, false, [127]), (16, false, [128]), (17, false, [129]), (18, false, [130]), (19, false, [131]), (22, false, [132]), (23, false, [133]), (24, false, [134]), (26, false, [135])])], [(4, 0), (4, 1), (4, 2), (4, 3), (4, 4), (4, 5), (4, 6), (4, 7), (4, 8), (4, 9), (4, 10), (4, 11), (4, 12), (4, 13), (4, 14), (4, 15), (5, 0), (5, 1), (5, 2), (5, 3), (5, 4), (5, 5), (5, 6), (5, 7), (5, 8), (5, 9), (5, 10), (5, 11), (5, 12), (5, 13), (5, 14), (5, 15), (124, 6), (124, 8)], [(124, 8, 124, 6, 2, 0, 8), (5, 0, 4, 0, 2, 0, 4), (5, 1, 4, 1, 2, 0, 4), (5, 2, 4, 2, 2, 0, 4), (5, 3, 4, 3, 2, 0, 4), (5, 4, 4, 4, 2, 0, 4), (5, 5, 4, 5, 2, 0, 4), (5, 6, 4, 6, 2, 0, 4), (5, 7, 4, 7, 2, 0, 4), (5, 8, 4, 8, 2, 0, 4), (5, 9, 4, 9, 2, 0, 4), (5, 10, 4, 10, 2, 0, 4), (5, 11, 4, 11, 2, 0, 4), (5, 12, 4, 12, 2, 0, 4), (5, 13, 4, 13, 2, 0, 4), (5, 14, 4, 14, 2, 0, 4), (5, 15, 4, 15, 2, 0, 4)])
def hp0 : ab_H := (hp.1, hp.2.1, [], [])
def hN0 (_ : cm_M) : Prop := True
theorem hNP0 : ab_NP hp0 hN0 := ⟨fun _ _ _ _ => trivial, fun _ _ e he => by cases he⟩
/-- of a name that is a motion's the number is less than five; a word has no more than eight letters -/
def hN (M : cm_M) : Prop := (∀ i, i < 16 → M.1 4 i = 2 → 0 ≤ (M.1 5 i).toInt ∧ (M.1 5 i).toInt ≤ 4) ∧ (M.1 124 6 = 2 → 0 ≤ (M.1 124 8).toInt ∧ (M.1 124 8).toInt ≤ 8)
theorem hp_prot : ∀ i, i < 16 → (4, i) ∈ hp.2.2.1 ∧ (5, i) ∈ hp.2.2.1 := by decide +kernel
theorem hNP : ab_NP hp hN := by
  refine ⟨fun M M' h hn => ⟨fun i hi h2 => ?_, fun h2 => ?_⟩, fun M hn e he h2 => ?_⟩
  · have h4 := (h _ (hp_prot i hi).1).1
    have h5 := (h _ (hp_prot i hi).2).1
    dsimp only at h4 h5
    rw [h4] at h2
    rw [h5]
    exact hn.1 i hi h2
  · have h4 := (h (124, 6) (by decide)).1
    have h5 := (h (124, 8) (by decide)).1
    dsimp only at h4 h5
    rw [h4] at h2
    rw [h5]
    exact hn.2 h2
  · have hall : hp.2.2.2.all (fun e => decide (e = (124, 8, 124, 6, 2, 0, 8)) || (decide (e.2.1 < 16) && decide (e = (5, e.2.1, 4, e.2.1, 2, 0, 4)))) = true := by decide +kernel
    have h1 := List.all_eq_true.mp hall e he
    rw [Bool.or_eq_true, Bool.and_eq_true, decide_eq_true_eq, decide_eq_true_eq, decide_eq_true_eq] at h1
    rcases h1 with h1 | ⟨hi, h1⟩
    · rw [h1] at h2 ⊢
      exact hn.2 h2
    · generalize e.2.1 = i at hi h1
      rw [h1] at h2 ⊢
      exact hn.1 i hi h2
/-! AB: contracts over the table without protected places, lifted -/
theorem ab_hi_eq {h h' : ab_H} (e : h.1 = h'.1) (c i : Nat) : ab_hi h c i = ab_hi h' c i := by
  unfold ab_hi ab_hl
  rw [e]
theorem ab_hr_eq {h h' : ab_H} (e : h.2.1 = h'.2.1) (c i : Nat) : ab_hr h c i = ab_hr h' c i := by
  unfold ab_hr
  rw [e]
theorem hp0_ok {M : cm_M} (h : ab_ok hp hN M) : ab_ok hp0 hN0 M := ⟨fun c i => by rw [ab_hi_eq (h := hp0) (h' := hp) rfl]; exact h.1 c i, fun c i => by rw [ab_hr_eq (h := hp0) (h' := hp) rfl]; exact h.2.1 c i, trivial⟩
theorem hpl_ok {M : cm_M} (h : ab_ok hp0 hN0 M) (hn : hN M) : ab_ok hp hN M := ⟨fun c i => by rw [ab_hi_eq (h := hp) (h' := hp0) rfl]; exact h.1 c i, fun c i => by rw [ab_hr_eq (h := hp) (h' := hp0) rfl]; exact h.2.1 c i, hn⟩
/-- the reader's next token: a word has no more than eight letters -/
def nx_ok (c0 : ab_Ct) : Bool := decide (c0.2.2.2.2.2.length ≤ 100) && c0.2.2.2.2.2.all (fun o => decide (o.1 = []) && (match o.2.2 with
  | [(124, 6, (0, t, [])), (124, 8, a)] => decide (-100 ≤ t ∧ t ≤ 100) && (decide (t ≠ 2) || (ab_isI a && (decide (0 ≤ (ab_bd o.2.1 a).1) && decide ((ab_bd o.2.1 a).2 ≤ 8))))
  | _ => false))
theorem nx_lift {d k : Nat} {md : ab_Md} {ex : List ab_Out} (h0 : ab_CT cm_ms hp0 hN0 d (k, [(1, 0, [124])], [], [], md, ex)) (hok : nx_ok (k, [(1, 0, [124])], [], [], md, ex) = true) (hmd : (List.range 16).all (fun i => !(ab_inM md 4 i) && !(ab_inM md 5 i)) = true) : ab_CT cm_ms hp hN d (k, [(1, 0, [124])], [], [], md, [([], [], [])]) := by
  intro ρ vs M h1 h2 h3 h4
  refine cm_Call_up (h0 ρ vs M h1 h2 (hp0_ok h3) h4) (Nat.le_refl _) (fun v M' hp1 => ?_)
  obtain ⟨o, ho, ext, p1, p2, p3⟩ := hp1
  unfold nx_ok at hok
  rw [Bool.and_eq_true] at hok
  have h5 := List.all_eq_true.mp hok.2 o ho
  rw [Bool.and_eq_true, decide_eq_true_eq] at h5
  obtain ⟨e1, h6⟩ := h5
  have hn : hN M' := by
    refine ⟨fun i hi hs => ?_, fun ht => ?_⟩
    · have h7 := List.all_eq_true.mp hmd i (List.mem_range.mpr hi)
      simp only [Bool.and_eq_true, Bool.not_eq_true'] at h7
      have f4 := (p3.2.1 4 i h7.1).1
      have f5 := (p3.2.1 5 i h7.2).1
      rw [f4] at hs
      rw [f5]
      exact h3.2.2.1 i hi hs
    · split at h6
      · rename_i t a e
        simp only [Bool.and_eq_true, Bool.or_eq_true, decide_eq_true_eq] at h6
        have c1 := p3.2.2 (124, 6, (0, t, [])) (by rw [e]; exact List.mem_cons_self)
        have c2 := p3.2.2 (124, 8, a) (by rw [e]; exact List.mem_cons_of_mem _ List.mem_cons_self)
        have c1 : some (Int32.ofInt t) = some (M'.1 124 6) := c1
        rw [ht] at c1
        have c1 := Option.some.inj c1
        have c3 := congrArg Int32.toInt c1
        rw [Int32.toInt_ofInt, ev_bm (by omega) (by omega)] at c3
        have c3 : t = 2 := c3
        rcases h6.2 with h8 | ⟨h8, h9, h10⟩
        · exact absurd c3 h8
        · unfold ab_ce at c2
          rw [if_pos h8] at c2
          obtain ⟨b1, b2⟩ := ab_bd_in p2 c2
          dsimp only at b1 b2
          omega
      · cases h6
  refine ⟨_, List.mem_singleton.mpr rfl, [], ?_, ?_, hpl_ok p3.1 hn, p3.2.1, fun q hq => nomatch hq⟩
  · rw [e1] at p1
    rw [ab_s_nil p1]
    exact trivial
  · rw [ab_nil]
    exact h2
/-- a new name: of a motion the number is less than five -/
def tn_ok (q : Nat) (srt hi : Int) (md : ab_Md) (ex : List ab_Out) : Bool := ex.all (fun o => decide (o.1 = []) && (match o.2.2 with
  | [(4, i, a), (5, j, b)] => decide (i = q) && (decide (j = q) && ((ab_eqA a (0, srt, []) && (ab_eqA b (3, 0, []) && (decide (srt ≠ 2) || decide (hi ≤ 4)))) || (ab_eqA a (3, 1, []) && ab_eqA b (3, 2, []))))
  | [] => decide (q = 16) && (List.range 16).all (fun i => !(ab_inM md 4 i) && !(ab_inM md 5 i))
  | _ => false)) && ((List.range 16).all (fun i => decide (i = q) || (!(ab_inM md 4 i) && !(ab_inM md 5 i))) && (!(ab_inM md 124 6) && !(ab_inM md 124 8)))
def tn_ca (q : Nat) : ab_Ca := if q < 16 then [(2, 0, (1, 0, [1])), (2, 10, (0, (q : Int), [])), (4, q, (3, 1, [])), (5, q, (3, 2, []))] else [(2, 0, (1, 0, [1])), (2, 10, (0, (q : Int), []))]
def tn_k (q : Nat) (hi : Int) : ab_K := if q < 16 then [(0, hi, 0, (0, 0, []), (0, 0, [])), (-2147483648, 2147483647, 0, (0, 0, []), (0, 0, [])), (0, 5, 0, (0, 0, []), (0, 0, []))] else [(0, hi, 0, (0, 0, []), (0, 0, []))]
theorem tn_lift {d k : Nat} {srt hi : Int} {md : ab_Md} (h0 : ∀ q, q < 17 → ∃ mdq exq, ab_CT cm_ms hp0 hN0 d (k, [(1, 0, [2]), (0, srt, []), (3, 0, [])], tn_k q hi, tn_ca q, mdq, exq) ∧ tn_ok q srt hi mdq exq = true ∧ ab_mds mdq md = true) (hs : -100 ≤ srt ∧ srt ≤ 100) : ab_CT cm_ms hp hN d (k, [(1, 0, [2]), (0, srt, []), (3, 0, [])], [(0, hi, 0, (0, 0, []), (0, 0, []))], [(2, 0, (1, 0, [1]))], md, [([], [(0, hi, 0, (0, 0, []), (0, 0, []))], [])]) := by
  intro ρ vs M h1 h2 h3 h4
  have hnm := h3.1 2 10
  have hb : ab_hi hp 2 10 = (0, 16) := by decide
  rw [hb] at hnm
  obtain ⟨n1, n2⟩ := hnm
  dsimp only at n1 n2
  obtain ⟨q, hq, hqe⟩ : ∃ q : Nat, q < 17 ∧ (M.1 2 10).toInt = (q : Int) := ⟨(M.1 2 10).toInt.toNat, by omega, by omega⟩
  have hqi : Int32.ofInt (q : Int) = M.1 2 10 := by rw [← hqe, Int32.ofInt_toInt]
  obtain ⟨mdq, exq, hc, hok, hmd⟩ := h0 q hq
  have hlen : ρ.length = 1 := h2.1.symm
  obtain ⟨r0, rfl⟩ : ∃ r0, ρ = [r0] := by
    match ρ, hlen with
    | [r0], _ => exact ⟨r0, rfl⟩
  have ca0 := h4 _ (List.mem_singleton.mpr rfl)
  unfold tn_ok at hok
  simp only [Bool.and_eq_true, Bool.not_eq_true'] at hok
  obtain ⟨hok, hfr, hf6, hf8⟩ := hok
  -- what a run over the other table leaves
  have fin : ∀ (ρ1 : List Int32) (v : Option Value) (M' : cm_M), (q < 16 → ρ1 = [r0, M.1 4 q, M.1 5 q]) → (¬ q < 16 → ρ1 = [r0]) → ab_Post hp0 hN0 M mdq ρ1 exq v M' → ab_Post hp hN M md [r0] [([], [(0, hi, 0, (0, 0, []), (0, 0, []))], [])] v M' := by
    intro ρ1 v M' hr1 hr2 hp1
    obtain ⟨o, ho, ext, p1, p2, p3⟩ := hp1
    have h5 := List.all_eq_true.mp hok o ho
    rw [Bool.and_eq_true, decide_eq_true_eq] at h5
    obtain ⟨e1, h6⟩ := h5
    have hoth : ∀ i, i < 16 → i ≠ q → M'.1 4 i = M.1 4 i ∧ M'.1 5 i = M.1 5 i := by
      intro i hi hne
      have h7 := List.all_eq_true.mp hfr i (List.mem_range.mpr hi)
      simp only [Bool.or_eq_true, Bool.and_eq_true, Bool.not_eq_true', decide_eq_true_eq] at h7
      rcases h7 with h7 | h7
      · exact absurd h7 hne
      · exact ⟨(p3.2.1 4 i h7.1).1, (p3.2.1 5 i h7.2).1⟩
    have hn : hN M' := by
      refine ⟨fun i hi hs2 => ?_, fun ht => ?_⟩
      · by_cases hiq : i = q
        · subst hiq
          split at h6
          · rename_i i' a j' b e
            simp only [Bool.and_eq_true, Bool.or_eq_true, decide_eq_true_eq] at h6
            obtain ⟨rfl, rfl, h6⟩ := h6
            have c1 := p3.2.2 (4, j', a) (by rw [e]; exact List.mem_cons_self)
            have c2 := p3.2.2 (5, j', b) (by rw [e]; exact List.mem_cons_of_mem _ List.mem_cons_self)
            have hr := hr1 hi
            subst hr
            rcases h6 with ⟨ha, hb, hor⟩ | ⟨ha, hb⟩
            · rw [ab_eqA_ok ha] at c1
              rw [ab_eqA_ok hb] at c2
              have c1 : some (Int32.ofInt srt) = some (M'.1 4 j') := c1
              have c2 : some r0 = some (M'.1 5 j') := c2
              rw [hs2] at c1
              have c3 := congrArg Int32.toInt (Option.some.inj c1)
              rw [Int32.toInt_ofInt, ev_bm (by omega) (by omega)] at c3
              have c3 : srt = 2 := c3
              have hbd := (h2.2 0 _ r0 rfl rfl).1
              obtain ⟨b1, b2⟩ := hbd
              dsimp only at b1 b2
              rw [← Option.some.inj c2]
              rcases hor with hor | hor
              · exact absurd c3 hor
              · omega
            · rw [ab_eqA_ok ha] at c1
              rw [ab_eqA_ok hb] at c2
              have c1 : some (M.1 4 j') = some (M'.1 4 j') := c1
              have c2 : some (M.1 5 j') = some (M'.1 5 j') := c2
              rw [← Option.some.inj c1] at hs2
              rw [← Option.some.inj c2]
              exact h3.2.2.1 j' hi hs2
          · simp only [Bool.and_eq_true, decide_eq_true_eq] at h6
            omega
          · cases h6
        · obtain ⟨g1, g2⟩ := hoth i hi hiq
          rw [g1] at hs2
          rw [g2]
          exact h3.2.2.1 i hi hs2
      · have g6 := (p3.2.1 124 6 hf6).1
        have g8 := (p3.2.1 124 8 hf8).1
        rw [g6] at ht
        rw [g8]
        exact h3.2.2.2 ht
    refine ⟨_, List.mem_singleton.mpr rfl, [], ?_, ?_, hpl_ok p3.1 hn, fun c i hm => p3.2.1 c i (ab_mds_ok hmd hm), fun q hq => nomatch hq⟩
    · rw [e1] at p1
      rw [ab_s_nil p1]
      exact trivial
    · rw [ab_nil]
      exact h2
  by_cases h16 : q < 16
  · refine cm_Call_up (hc [r0, M.1 4 q, M.1 5 q] vs M (ab_s_ap (ext := [M.1 4 q, M.1 5 q]) h1) ?_ (hp0_ok h3) ?_) (Nat.le_refl _) (fun v M' hp1 => fin _ v M' (fun _ => rfl) (fun z => absurd h16 z) hp1)
    · show ab_k _ (tn_k q hi)
      unfold tn_k
      rw [if_pos h16]
      refine ⟨rfl, fun j r x g1 g2 => ?_⟩
      match j with
      | 0 => cases g1; cases g2; exact ⟨(h2.2 0 _ r0 rfl rfl).1, Or.inl rfl⟩
      | 1 => cases g1; cases g2; exact ⟨ev_ful_in _, Or.inl rfl⟩
      | 2 =>
        cases g1; cases g2
        have h5 := h3.1 5 q
        have hb5 : ∀ q, q < 16 → ab_hi hp 5 q = (0, 5) := by decide
        rw [hb5 q h16] at h5
        exact ⟨h5, Or.inl rfl⟩
      | j + 3 => cases g1
    · show ab_ca _ M (tn_ca q)
      unfold tn_ca
      rw [if_pos h16]
      intro z hz
      simp only [List.mem_cons, List.not_mem_nil, or_false] at hz
      rcases hz with rfl | rfl | rfl | rfl
      · exact ab_ce_ap (ext := [M.1 4 q, M.1 5 q]) ca0
      · exact congrArg some hqi
      · rfl
      · rfl
  · refine cm_Call_up (hc [r0] vs M h1 ?_ (hp0_ok h3) ?_) (Nat.le_refl _) (fun v M' hp1 => fin _ v M' (fun z => absurd z h16) (fun _ => rfl) hp1)
    · show ab_k _ (tn_k q hi)
      unfold tn_k
      rw [if_neg h16]
      exact h2
    · show ab_ca _ M (tn_ca q)
      unfold tn_ca
      rw [if_neg h16]
      intro z hz
      simp only [List.mem_cons, List.not_mem_nil, or_false] at hz
      rcases hz with rfl | rfl
      · exact ca0
      · exact congrArg some hqi
