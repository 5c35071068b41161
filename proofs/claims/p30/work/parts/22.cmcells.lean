/-! CM: cells -/
theorem cm_ty_at {ci : Nat} {r : vw_C} (h : vwCl[ci]? = some r) : ∃ ty, ev_tyl[ci]? = some ty := ⟨_, List.getElem?_eq_getElem (show ci < ev_tyl.length from (List.getElem?_eq_some_iff.mp h).1)⟩
theorem cm_obj {s : State} {adr : Nat → Nat} {M : cm_M} {ws : va_W} {k ci N : Nat} (h : cm_w s adr M ws) (hk : cm_kind k = (ci, N)) (hci : ci < 100) : ∃ fs, ws[k]? = some (adr k, .inr (ci, fs)) ∧ fs.length = N ∧ ∀ j, j < N → fs[j]? = some (cm_v adr (cm_rd M (cm_ft ci j) k j)) := by
  obtain ⟨x, h1, h2⟩ := cm_cell h (cm_kind_at hk (by dsimp only; omega))
  cases x with
  | inl a =>
    obtain ⟨t, a1, a2, -⟩ := h2
    dsimp only at a2
    omega
  | inr o =>
    obtain ⟨c1, fs⟩ := o
    obtain ⟨b1, b2, b3, b4⟩ := h2
    dsimp only at b1 b3 b4
    subst b1
    exact ⟨fs, h1, b3, b4⟩
theorem cm_arr {s : State} {adr : Nat → Nat} {M : cm_M} {ws : va_W} {k t N : Nat} (h : cm_w s adr M ws) (hk : cm_kind k = (100 + t, N)) (ht : t < 4) : ∃ cA arr, ws[k]? = some (adr k, .inl (cA, N, arr)) ∧ ArrOfT s cA (ev_ty t) ∧ va_RA s cA (ev_ty t) ∧ cm_ar adr M k t N arr := by
  obtain ⟨x, h1, h2⟩ := cm_cell h (cm_kind_at hk (by dsimp only; omega))
  cases x with
  | inr o =>
    obtain ⟨b1, b2, -⟩ := h2
    dsimp only at b2
    omega
  | inl a =>
    obtain ⟨cA, n, arr⟩ := a
    obtain ⟨tt, a1, a2, a3, a4, a5, a6⟩ := h2
    dsimp only at a2 a3 a4 a5 a6
    have : tt = t := by omega
    subst this
    subst a3
    exact ⟨cA, arr, h1, a4, a5, a6⟩
theorem cm_in {i : Int32} {n : Nat} (h1 : 0 ≤ i.toInt) (h2 : i.toInt < (n : Int)) : vp_in i n ∧ i.toNatClampNeg < n := by
  have hv : vp_in i n := by rw [vp_in_iff]; exact ⟨h1, h2⟩
  refine ⟨hv, ?_⟩
  unfold vp_in at hv
  exact Nat.lt_of_not_le (fun q => hv (Or.inr q))
/-- a value that a field may hold -/
def cm_fit (ci j : Nat) (v : Value) : Prop := match v with
  | .int x => cm_ft ci j = 0 ∧ (cm_isB ci j = true → x = 0 ∨ x = 1)
  | .long _ => cm_ft ci j = 2
  | .ref _ => cm_ft ci j = 3
  | .null => cm_ft ci j = 3
  | _ => False
def cm_wf (M : cm_M) (c j : Nat) (v : Value) : cm_M := match v with
  | .int x => cm_wi M c j x
  | .long x => cm_wl M c j x
  | .ref q => cm_wr M c j (some q)
  | .null => cm_wr M c j none
  | _ => M
/-- all fields of our classes are ints, truth values, longs or references -/
def cm_tyok (ty : FieldType) : Bool := match ty with
  | .int => true
  | .boolean => true
  | .long => true
  | .object _ => true
  | .array _ => true
  | _ => false
theorem cm_tys : ∀ (ci : Nat) (r : vw_C) (ty : Nat → FieldType), vwCl[ci]? = some r → ev_tyl[ci]? = some ty → ∀ k, k < r.2.2 → cm_tyok (ty k) = true
  | 0, r, ty, h1, h2 => by cases h1; cases h2; decide
  | 1, r, ty, h1, h2 => by cases h1; cases h2; decide
  | 2, r, ty, h1, h2 => by cases h1; cases h2; decide
  | 3, r, ty, h1, h2 => by cases h1; cases h2; decide
  | 4, r, ty, h1, h2 => by cases h1; cases h2; decide
  | 5, r, ty, h1, h2 => by cases h1; cases h2; decide
  | 6, r, ty, h1, h2 => by cases h1; cases h2; decide
  | 7, r, ty, h1, h2 => by cases h1; cases h2; decide
  | 8, r, ty, h1, h2 => by cases h1; cases h2; decide
  | 9, r, ty, h1, h2 => by cases h1; cases h2; decide
  | n + 10, r, ty, h1, h2 => by cases h1
theorem cm_fit_ok {ci j : Nat} {ty : Nat → FieldType} (hty : ev_tyl[ci]? = some ty) (hok : cm_tyok (ty j) = true) {v : Value} (h : cm_fit ci j v) (adr : Nat → Nat) : narrow (ty j) (cm_v adr v) = cm_v adr v ∧ fits (ty j) (cm_v adr v) = true := by
  unfold cm_fit at h
  split at h
  · rename_i x
    obtain ⟨h1, h2⟩ := h
    simp only [cm_ft, hty] at h1
    simp only [cm_isB, hty] at h2
    cases hz : ty j <;> rw [hz] at hok h1 h2 <;> simp [cm_tyok] at hok h1 h2
    · exact ⟨rfl, rfl⟩
    · rcases h2 with rfl | rfl
      · exact (by decide : narrow .boolean (.int 0) = .int 0 ∧ fits .boolean (.int 0) = true)
      · exact (by decide : narrow .boolean (.int 1) = .int 1 ∧ fits .boolean (.int 1) = true)
  · simp only [cm_ft, hty] at h
    cases hz : ty j <;> rw [hz] at hok h <;> simp [cm_tyok] at hok h
    exact ⟨rfl, rfl⟩
  · simp only [cm_ft, hty] at h
    cases hz : ty j <;> rw [hz] at hok h <;> simp [cm_tyok] at hok h
    · exact ⟨rfl, rfl⟩
    · exact ⟨rfl, rfl⟩
  · simp only [cm_ft, hty] at h
    cases hz : ty j <;> rw [hz] at hok h <;> simp [cm_tyok] at hok h
    · exact ⟨rfl, rfl⟩
    · exact ⟨rfl, rfl⟩
  · exact h.elim
theorem cm_wf_rd {ci c j : Nat} {M : cm_M} {v : Value} (h : cm_fit ci j v) (j' : Nat) : cm_rd (cm_wf M c j v) (cm_ft ci j') c j' = if j' = j then v else cm_rd M (cm_ft ci j') c j' := by
  by_cases hj : j' = j
  · subst hj
    rw [if_pos rfl]
    unfold cm_fit at h
    split at h
    · rw [h.1]; simp [cm_rd, cm_wf, cm_wi]
    · rw [h]; simp [cm_rd, cm_wf, cm_wl]
    · rw [h]; simp [cm_rd, cm_wf, cm_wr, cm_rq]
    · rw [h]; simp [cm_rd, cm_wf, cm_wr, cm_rq]
    · exact h.elim
  · rw [if_neg hj]
    unfold cm_wf
    split <;> (unfold cm_rd; split <;> simp [cm_wi, cm_wl, cm_wr, hj])
theorem cm_wf_ne {s : State} {adr : Nat → Nat} {M : cm_M} {c j : Nat} {v : Value} : ∀ k q y, k ≠ c → cm_c s adr M k q y → cm_c s adr (cm_wf M c j v) k q y := by
  intro k q y hk h
  refine cm_c_ne (fun i => ?_) (fun i => ?_) (fun i => ?_) h <;> (unfold cm_wf; split <;> simp [cm_wi, cm_wl, cm_wr, hk])
theorem cm_nfs : ∀ q ∈ cm_lay, q.1 < 10 → (vwCl[q.1]?).map (fun r => r.2.2) = some q.2 := by decide +kernel
theorem cm_nf {c ci j : Nat} {r : vw_C} (hr : vwCl[ci]? = some r) (h1 : (cm_kind c).1 = ci) (h2 : j < (cm_kind c).2) : j < r.2.2 := by
  have hci : ci < 10 := (List.getElem?_eq_some_iff.mp hr).1
  have h3 := cm_nfs _ (List.mem_of_getElem? (cm_kind_at (c := c) rfl (by omega))) (by omega)
  rw [h1, hr] at h3
  have h4 : r.2.2 = (cm_kind c).2 := Option.some.inj h3
  omega
def cm_get : cm_O := (ev_get.1, fun E P t S k => match S.2.2.1 with
  | .ref c :: st => (cm_kind c).1 = t.1.toNat ∧ t.2.1.toNat < (cm_kind c).2 ∧ k (cm_adv S 3 (cm_rd S.2.2.2 (cm_ft t.1.toNat t.2.1.toNat) c t.2.1.toNat :: st))
  | _ => False)
theorem cm_get_ok : cm_Snd cm_get := by
  intro p l e R s m args below meth c cc Q D A adr ce sl E P t S i n cs X h1 hd hw h2 ws H locs ls hR
  obtain ⟨hx, hb, hml, hown, hts, hK, hA, hN, hcC, hcS, hf, hlc, hscr⟩ := X
  obtain ⟨pc, L, st, M⟩ := S
  obtain ⟨t1, t2, t3, t4⟩ := t
  unfold cm_get ev_get at h1
  unfold cm_get at h2
  dsimp only at h1 h2
  cases hr : vwCl[t1.toNat]? with
  | none => simp [hr] at h1
  | some r =>
    rw [hr] at h1
    dsimp only at h1
    cases h1
    obtain ⟨hP, hD, hS, hW, hL⟩ := id hR
    have hci : t1.toNat < 10 := (List.getElem?_eq_some_iff.mp hr).1
    obtain ⟨ty, hty⟩ := cm_ty_at hr
    obtain ⟨k1, k2, k3, -⟩ := ev_cls _ r ty hr hty
    split at h2
    rotate_left
    · exact h2.elim
    rename_i c st'
    obtain ⟨hc1, hc2, hk⟩ := h2
    obtain ⟨fs, e1, e2, e3⟩ := cm_obj hW (show cm_kind c = (t1.toNat, (cm_kind c).2) from by rw [← hc1]) (by omega)
    exact va_get hx hb hts k1 hown hK hP _ e1 hr t2.toNat (cm_nf hr hc1 hc2) (hts _ (hw _ (List.mem_singleton.mpr rfl))) (fun _ h => h) (e3 _ hc2) hd (hk ws H locs ls hR)

def cm_fin (ci j : Nat) : Bool := match vwCl[ci]? with
  | some r => (r.2.1 j).2.2.2
  | none => true
def cm_put : cm_O := (ev_put.1, fun E P t S k => match S.2.2.1 with
  | v :: .ref c :: st => (cm_kind c).1 = t.1.toNat ∧ t.2.1.toNat < (cm_kind c).2 ∧ cm_fin t.1.toNat t.2.1.toNat = false ∧ cm_fit t.1.toNat t.2.1.toNat v ∧ k (S.1 + 3, S.2.1, st, cm_wf S.2.2.2 c t.2.1.toNat v)
  | _ => False)
theorem cm_put_ok : cm_Snd cm_put := by
  intro p l e R s m args below meth c cc Q D A adr ce sl E P t S i n cs X h1 hd hw h2 ws H locs ls hR
  obtain ⟨hx, hb, hml, hown, hts, hK, hA, hN, hcC, hcS, hf, hlc, hscr⟩ := X
  obtain ⟨pc, L, st, M⟩ := S
  obtain ⟨t1, t2, t3, t4⟩ := t
  unfold cm_put ev_put at h1
  unfold cm_put at h2
  dsimp only at h1 h2
  cases hr : vwCl[t1.toNat]? with
  | none => simp [hr] at h1
  | some r =>
    rw [hr] at h1
    dsimp only at h1
    cases h1
    obtain ⟨hP, hD, hS, hW, hL⟩ := id hR
    have hci : t1.toNat < 10 := (List.getElem?_eq_some_iff.mp hr).1
    obtain ⟨ty, hty⟩ := cm_ty_at hr
    obtain ⟨k1, k2, k3, -⟩ := ev_cls _ r ty hr hty
    split at h2
    rotate_left
    · exact h2.elim
    rename_i v c st'
    obtain ⟨hc1, hc2, hfin, hft, hk⟩ := h2
    obtain ⟨fs, e1, e2, e3⟩ := cm_obj hW (show cm_kind c = (t1.toNat, (cm_kind c).2) from by rw [← hc1]) (by omega)
    have hn := cm_nf hr hc1 hc2
    obtain ⟨hn1, hn2⟩ := cm_fit_ok hty (cm_tys _ r ty hr hty _ hn) hft adr
    simp only [cm_fin, hr] at hfin
    refine va_put hx hb hts k1 ty k2 k3 hown hK hP hD hS _ e1 hr t2.toNat hn (hts _ (hw _ (List.mem_singleton.mpr rfl))) (fun _ h => h) hfin (k2 _ hn) hn1 hn2 (by rw [e2]; exact hc2) hd (fun H1 locs1 hP1 hD1 hS1 => hk _ H1 locs1 ls ⟨hP1, hD1, hS1, cm_w_set hW (cm_kind_at (q := (t1.toNat, (cm_kind c).2)) (by rw [← hc1]) (by dsimp only; omega)) ⟨rfl, by dsimp only; omega, by dsimp only; rw [List.length_set]; exact e2, fun j hj => ?_⟩ cm_wf_ne, hL⟩)
    dsimp only at hj ⊢
    rw [cm_wf_rd hft]
    by_cases hjk : j = t2.toNat
    · subst hjk
      rw [if_pos rfl]
      exact List.getElem?_set_self (by rw [e2]; exact hj)
    · rw [if_neg hjk, List.getElem?_set_ne (Ne.symm hjk)]
      exact e3 j hj

/-! CM: arrays -/
def cm_iaload : cm_O := (ev_iaload.1, fun E P t S k => match S.2.2.1 with
  | .int i :: .ref c :: st => (cm_kind c).1 = 100 + 0 ∧ 0 ≤ i.toInt ∧ i.toInt < ((cm_kind c).2 : Int) ∧ k (cm_adv S 1 (.int (S.2.2.2.1 c i.toNatClampNeg) :: st))
  | _ => False)
theorem cm_iaload_ok : cm_Snd cm_iaload := by
  intro p l e R s m args below meth c cc Q D A adr ce sl E P t S i n cs X h1 hd hw h2 ws H locs ls hR
  obtain ⟨hx, hb, hml, hown, hts, hK, hA, hN, hcC, hcS, hf, hlc, hscr⟩ := X
  obtain ⟨pc, L, st, M⟩ := S
  have h1 : some ((.iaload : Instr), (1 : Nat), ([] : List Cond)) = some (i, n, cs) := h1
  cases h1
  unfold cm_iaload at h2
  dsimp only at h2
  split at h2
  rotate_left
  · exact h2.elim
  rename_i i c st'
  obtain ⟨hc1, hi1, hi2, hk⟩ := h2
  obtain ⟨hP, hD, hS, hW, hL⟩ := id hR
  obtain ⟨cA, arr, e1, e2, e3, e4⟩ := cm_arr (t := 0) hW (show cm_kind c = (100 + 0, (cm_kind c).2) from by rw [← hc1]) (by decide)
  obtain ⟨hv, hj⟩ := cm_in hi1 hi2
  rcases arr with f | f | f | f | f
  · refine va_iald hx hb (ev_K1 hK e2 e3) hP _ 0 e1 rfl hv hd ?_
    rw [e4.2 _ hj]
    exact hk ws H locs ls hR
  · first | exact e4.elim | (have := e4.1; omega)
  · first | exact e4.elim | (have := e4.1; omega)
  · first | exact e4.elim | (have := e4.1; omega)
  · first | exact e4.elim | (have := e4.1; omega)

def cm_baload : cm_O := (ev_baload.1, fun E P t S k => match S.2.2.1 with
  | .int i :: .ref c :: st => (cm_kind c).1 = 100 + 1 ∧ 0 ≤ i.toInt ∧ i.toInt < ((cm_kind c).2 : Int) ∧ k (cm_adv S 1 (.int (S.2.2.2.1 c i.toNatClampNeg) :: st))
  | _ => False)
theorem cm_baload_ok : cm_Snd cm_baload := by
  intro p l e R s m args below meth c cc Q D A adr ce sl E P t S i n cs X h1 hd hw h2 ws H locs ls hR
  obtain ⟨hx, hb, hml, hown, hts, hK, hA, hN, hcC, hcS, hf, hlc, hscr⟩ := X
  obtain ⟨pc, L, st, M⟩ := S
  have h1 : some ((.baload : Instr), (1 : Nat), ([] : List Cond)) = some (i, n, cs) := h1
  cases h1
  unfold cm_baload at h2
  dsimp only at h2
  split at h2
  rotate_left
  · exact h2.elim
  rename_i i c st'
  obtain ⟨hc1, hi1, hi2, hk⟩ := h2
  obtain ⟨hP, hD, hS, hW, hL⟩ := id hR
  obtain ⟨cA, arr, e1, e2, e3, e4⟩ := cm_arr (t := 1) hW (show cm_kind c = (100 + 1, (cm_kind c).2) from by rw [← hc1]) (by decide)
  obtain ⟨hv, hj⟩ := cm_in hi1 hi2
  rcases arr with f | f | f | f | f
  · refine va_bald hx hb (ev_K1 hK e2 e3) hP _ 0 e1 rfl hv hd ?_
    rw [e4.2 _ hj]
    exact hk ws H locs ls hR
  · first | exact e4.elim | (have := e4.1; omega)
  · first | exact e4.elim | (have := e4.1; omega)
  · first | exact e4.elim | (have := e4.1; omega)
  · first | exact e4.elim | (have := e4.1; omega)

def cm_laload : cm_O := (ev_laload.1, fun E P t S k => match S.2.2.1 with
  | .int i :: .ref c :: st => (cm_kind c).1 = 100 + 2 ∧ 0 ≤ i.toInt ∧ i.toInt < ((cm_kind c).2 : Int) ∧ k (cm_adv S 1 (.long (S.2.2.2.2.1 c i.toNatClampNeg) :: st))
  | _ => False)
theorem cm_laload_ok : cm_Snd cm_laload := by
  intro p l e R s m args below meth c cc Q D A adr ce sl E P t S i n cs X h1 hd hw h2 ws H locs ls hR
  obtain ⟨hx, hb, hml, hown, hts, hK, hA, hN, hcC, hcS, hf, hlc, hscr⟩ := X
  obtain ⟨pc, L, st, M⟩ := S
  have h1 : some ((.laload : Instr), (1 : Nat), ([] : List Cond)) = some (i, n, cs) := h1
  cases h1
  unfold cm_laload at h2
  dsimp only at h2
  split at h2
  rotate_left
  · exact h2.elim
  rename_i i c st'
  obtain ⟨hc1, hi1, hi2, hk⟩ := h2
  obtain ⟨hP, hD, hS, hW, hL⟩ := id hR
  obtain ⟨cA, arr, e1, e2, e3, e4⟩ := cm_arr (t := 2) hW (show cm_kind c = (100 + 2, (cm_kind c).2) from by rw [← hc1]) (by decide)
  obtain ⟨hv, hj⟩ := cm_in hi1 hi2
  rcases arr with f | f | f | f | f
  · first | exact e4.elim | (have := e4.1; omega)
  · refine va_lald hx hb (ev_K1 hK e2 e3) hP _ 0 e1 rfl hv hd ?_
    rw [e4.2 _ hj]
    exact hk ws H locs ls hR
  · first | exact e4.elim | (have := e4.1; omega)
  · first | exact e4.elim | (have := e4.1; omega)
  · first | exact e4.elim | (have := e4.1; omega)

def cm_aaload : cm_O := (ev_aaload.1, fun E P t S k => match S.2.2.1 with
  | .int i :: .ref c :: st => (cm_kind c).1 = 100 + 3 ∧ 0 ≤ i.toInt ∧ i.toInt < ((cm_kind c).2 : Int) ∧ k (cm_adv S 1 (cm_rq (S.2.2.2.2.2 c i.toNatClampNeg) :: st))
  | _ => False)
theorem cm_aaload_ok : cm_Snd cm_aaload := by
  intro p l e R s m args below meth c cc Q D A adr ce sl E P t S i n cs X h1 hd hw h2 ws H locs ls hR
  obtain ⟨hx, hb, hml, hown, hts, hK, hA, hN, hcC, hcS, hf, hlc, hscr⟩ := X
  obtain ⟨pc, L, st, M⟩ := S
  have h1 : some ((.aaload : Instr), (1 : Nat), ([] : List Cond)) = some (i, n, cs) := h1
  cases h1
  unfold cm_aaload at h2
  dsimp only at h2
  split at h2
  rotate_left
  · exact h2.elim
  rename_i i c st'
  obtain ⟨hc1, hi1, hi2, hk⟩ := h2
  obtain ⟨hP, hD, hS, hW, hL⟩ := id hR
  obtain ⟨cA, arr, e1, e2, e3, e4⟩ := cm_arr (t := 3) hW (show cm_kind c = (100 + 3, (cm_kind c).2) from by rw [← hc1]) (by decide)
  obtain ⟨hv, hj⟩ := cm_in hi1 hi2
  rcases arr with f | f | f | f | f
  · first | exact e4.elim | (have := e4.1; omega)
  · first | exact e4.elim | (have := e4.1; omega)
  · first | exact e4.elim | (have := e4.1; omega)
  · first | exact e4.elim | (have := e4.1; omega)
  · refine va_aldq hx hb (ev_K1 hK e2 e3) hP _ 0 e1 rfl hv hd ?_
    rw [e4.2 _ hj]
    have := hk ws H locs ls hR
    cases hz : M.2.2 c i.toNatClampNeg with
    | none => rw [hz] at this; exact this
    | some q => rw [hz] at this; exact this

theorem cm_wi_ne {s : State} {adr : Nat → Nat} {M : cm_M} {c j : Nat} {x : Int32} : ∀ k q y, k ≠ c → cm_c s adr M k q y → cm_c s adr (cm_wi M c j x) k q y := fun k q y hk h => cm_c_ne (M := M) (fun i => by simp [cm_wi, hk]) (fun i => rfl) (fun i => rfl) h
theorem cm_wl_ne {s : State} {adr : Nat → Nat} {M : cm_M} {c j : Nat} {x : Int64} : ∀ k q y, k ≠ c → cm_c s adr M k q y → cm_c s adr (cm_wl M c j x) k q y := fun k q y hk h => cm_c_ne (M := M) (fun i => rfl) (fun i => by simp [cm_wl, hk]) (fun i => rfl) h
theorem cm_cp_ne {s : State} {adr : Nat → Nat} {M : cm_M} {a sp d dp n : Nat} : ∀ k q y, k ≠ d → cm_c s adr M k q y → cm_c s adr (cm_cp M a sp d dp n) k q y := fun k q y hk h => cm_c_ne (M := M) (fun i => by simp [cm_cp, hk]) (fun i => rfl) (fun i => rfl) h
def cm_iastore : cm_O := (ev_iastore.1, fun E P t S k => match S.2.2.1 with
  | .int x :: .int i :: .ref c :: st => (cm_kind c).1 = 100 + 0 ∧ 0 ≤ i.toInt ∧ i.toInt < ((cm_kind c).2 : Int) ∧ k (S.1 + 1, S.2.1, st, cm_wi S.2.2.2 c i.toNatClampNeg x)
  | _ => False)
theorem cm_iastore_ok : cm_Snd cm_iastore := by
  intro p l e R s m args below meth c cc Q D A adr ce sl E P t S i n cs X h1 hd hw h2 ws H locs ls hR
  obtain ⟨hx, hb, hml, hown, hts, hK, hA, hN, hcC, hcS, hf, hlc, hscr⟩ := X
  obtain ⟨pc, L, st, M⟩ := S
  have h1 : some ((.iastore : Instr), (1 : Nat), ([] : List Cond)) = some (i, n, cs) := h1
  cases h1
  unfold cm_iastore at h2
  dsimp only at h2
  split at h2
  rotate_left
  · exact h2.elim
  rename_i x i c st'
  obtain ⟨hc1, hi1, hi2, hk⟩ := h2
  obtain ⟨hP, hD, hS, hW, hL⟩ := id hR
  obtain ⟨cA, arr, e1, e2, e3, e4⟩ := cm_arr (t := 0) hW (show cm_kind c = (100 + 0, (cm_kind c).2) from by rw [← hc1]) (by decide)
  obtain ⟨hv, hj⟩ := cm_in hi1 hi2
  rcases arr with f | f | f | f | f
  · refine va_iast hx hb (ev_K1 hK e2 e3) hP hD hS _ 0 e1 rfl hv hd (fun H1 locs1 hP1 hD1 hS1 => hk _ H1 locs1 ls ⟨hP1, hD1, hS1, cm_w_set hW (cm_kind_at (q := (100 + 0, (cm_kind c).2)) (by rw [← hc1]) (by dsimp only; omega)) ⟨0, by decide, rfl, rfl, e2, e3, by decide, fun j hj => ?_⟩ cm_wi_ne, hL⟩)
    dsimp only [upd, cm_wi, cm_wl]
    by_cases hji : j = i.toNatClampNeg
    · simp [hji]
    · simp only [hji, and_false, if_false]
      exact e4.2 j hj
  · first | exact e4.elim | (have := e4.1; omega)
  · first | exact e4.elim | (have := e4.1; omega)
  · first | exact e4.elim | (have := e4.1; omega)
  · first | exact e4.elim | (have := e4.1; omega)

def cm_bastore : cm_O := (ev_bastore.1, fun E P t S k => match S.2.2.1 with
  | .int x :: .int i :: .ref c :: st => (cm_kind c).1 = 100 + 1 ∧ 0 ≤ i.toInt ∧ i.toInt < ((cm_kind c).2 : Int) ∧ k (S.1 + 1, S.2.1, st, cm_wi S.2.2.2 c i.toNatClampNeg (vp_nar .byte x))
  | _ => False)
theorem cm_bastore_ok : cm_Snd cm_bastore := by
  intro p l e R s m args below meth c cc Q D A adr ce sl E P t S i n cs X h1 hd hw h2 ws H locs ls hR
  obtain ⟨hx, hb, hml, hown, hts, hK, hA, hN, hcC, hcS, hf, hlc, hscr⟩ := X
  obtain ⟨pc, L, st, M⟩ := S
  have h1 : some ((.bastore : Instr), (1 : Nat), ([] : List Cond)) = some (i, n, cs) := h1
  cases h1
  unfold cm_bastore at h2
  dsimp only at h2
  split at h2
  rotate_left
  · exact h2.elim
  rename_i x i c st'
  obtain ⟨hc1, hi1, hi2, hk⟩ := h2
  obtain ⟨hP, hD, hS, hW, hL⟩ := id hR
  obtain ⟨cA, arr, e1, e2, e3, e4⟩ := cm_arr (t := 1) hW (show cm_kind c = (100 + 1, (cm_kind c).2) from by rw [← hc1]) (by decide)
  obtain ⟨hv, hj⟩ := cm_in hi1 hi2
  rcases arr with f | f | f | f | f
  · refine va_bast hx hb (ev_K1 hK e2 e3) hP hD hS _ 0 e1 rfl hv hd (fun H1 locs1 hP1 hD1 hS1 => hk _ H1 locs1 ls ⟨hP1, hD1, hS1, cm_w_set hW (cm_kind_at (q := (100 + 1, (cm_kind c).2)) (by rw [← hc1]) (by dsimp only; omega)) ⟨1, by decide, rfl, rfl, e2, e3, by decide, fun j hj => ?_⟩ cm_wi_ne, hL⟩)
    dsimp only [upd, cm_wi, cm_wl]
    by_cases hji : j = i.toNatClampNeg
    · simp [hji]
    · simp only [hji, and_false, if_false]
      exact e4.2 j hj
  · first | exact e4.elim | (have := e4.1; omega)
  · first | exact e4.elim | (have := e4.1; omega)
  · first | exact e4.elim | (have := e4.1; omega)
  · first | exact e4.elim | (have := e4.1; omega)

def cm_lastore : cm_O := ((fun _ _ => some (.lastore, 1, [])), fun E P t S k => match S.2.2.1 with
  | .long x :: .int i :: .ref c :: st => (cm_kind c).1 = 100 + 2 ∧ 0 ≤ i.toInt ∧ i.toInt < ((cm_kind c).2 : Int) ∧ k (S.1 + 1, S.2.1, st, cm_wl S.2.2.2 c i.toNatClampNeg x)
  | _ => False)
theorem cm_lastore_ok : cm_Snd cm_lastore := by
  intro p l e R s m args below meth c cc Q D A adr ce sl E P t S i n cs X h1 hd hw h2 ws H locs ls hR
  obtain ⟨hx, hb, hml, hown, hts, hK, hA, hN, hcC, hcS, hf, hlc, hscr⟩ := X
  obtain ⟨pc, L, st, M⟩ := S
  have h1 : some ((.lastore : Instr), (1 : Nat), ([] : List Cond)) = some (i, n, cs) := h1
  cases h1
  unfold cm_lastore at h2
  dsimp only at h2
  split at h2
  rotate_left
  · exact h2.elim
  rename_i x i c st'
  obtain ⟨hc1, hi1, hi2, hk⟩ := h2
  obtain ⟨hP, hD, hS, hW, hL⟩ := id hR
  obtain ⟨cA, arr, e1, e2, e3, e4⟩ := cm_arr (t := 2) hW (show cm_kind c = (100 + 2, (cm_kind c).2) from by rw [← hc1]) (by decide)
  obtain ⟨hv, hj⟩ := cm_in hi1 hi2
  rcases arr with f | f | f | f | f
  · first | exact e4.elim | (have := e4.1; omega)
  · refine va_last hx hb (ev_K1 hK e2 e3) hP hD hS _ 0 e1 rfl hv hd (fun H1 locs1 hP1 hD1 hS1 => hk _ H1 locs1 ls ⟨hP1, hD1, hS1, cm_w_set hW (cm_kind_at (q := (100 + 2, (cm_kind c).2)) (by rw [← hc1]) (by dsimp only; omega)) ⟨2, by decide, rfl, rfl, e2, e3, by decide, fun j hj => ?_⟩ cm_wl_ne, hL⟩)
    dsimp only [vp_updL, cm_wi, cm_wl]
    by_cases hji : j = i.toNatClampNeg
    · simp [hji]
    · simp only [hji, and_false, if_false]
      exact e4.2 j hj
  · first | exact e4.elim | (have := e4.1; omega)
  · first | exact e4.elim | (have := e4.1; omega)
  · first | exact e4.elim | (have := e4.1; omega)

def cm_alen : cm_O := (ev_alen.1, fun E P t S k => match S.2.2.1 with
  | .ref c :: st => if c = 1000 then (match E with
    | some q => k (cm_adv S 1 (.int (Int32.ofNat q.1) :: st))
    | none => False) else (100 ≤ (cm_kind c).1 ∧ (cm_kind c).1 < 104 ∧ k (cm_adv S 1 (.int (Int32.ofNat (cm_kind c).2) :: st)))
  | _ => False)
theorem cm_alen_ok : cm_Snd cm_alen := by
  intro p l e R s m args below meth c cc Q D A adr ce sl E P t S i n cs X h1 hd hw h2 ws H locs ls hR
  obtain ⟨hx, hb, hml, hown, hts, hK, hA, hN, hcC, hcS, hf, hlc, hscr⟩ := X
  obtain ⟨pc, L, st, M⟩ := S
  have h1 : some ((.arraylength : Instr), (1 : Nat), ([] : List Cond)) = some (i, n, cs) := h1
  cases h1
  unfold cm_alen at h2
  dsimp only at h2
  split at h2
  rotate_left
  · exact h2.elim
  rename_i c st'
  split at h2
  · rename_i hc
    subst hc
    split at h2
    · rename_i q
      exact va_slen hx hb hscr.1 hscr.2.1 hscr.2.2 hR.2.2.1 hd (h2 ws H locs ls hR)
    · exact h2.elim
  · obtain ⟨hc1, hc2, hk⟩ := h2
    obtain ⟨hP, hD, hS, hW, hL⟩ := id hR
    obtain ⟨cA, arr, e1, e2, e3, e4⟩ := cm_arr (t := (cm_kind c).1 - 100) hW (show cm_kind c = (100 + ((cm_kind c).1 - 100), (cm_kind c).2) from Prod.ext (by dsimp only; omega) rfl) (by omega)
    exact va_alen hx hb (ev_K1 hK e2 e3) hP _ 0 e1 rfl rfl hd (hk ws H locs ls hR)

def cm_sald : cm_O := (ev_sald.1, fun E P t S k => match E, S.2.2.1 with
  | some q, .int i :: .ref c :: st => c = 1000 ∧ 0 ≤ i.toInt ∧ i.toInt < (q.1 : Int) ∧ k (cm_adv S 1 (.int (q.2 i.toNatClampNeg) :: st))
  | _, _ => False)
theorem cm_sald_ok : cm_Snd cm_sald := by
  intro p l e R s m args below meth c cc Q D A adr ce sl E P t S i n cs X h1 hd hw h2 ws H locs ls hR
  obtain ⟨hx, hb, hml, hown, hts, hK, hA, hN, hcC, hcS, hf, hlc, hscr⟩ := X
  obtain ⟨pc, L, st, M⟩ := S
  have h1 : some ((.iaload : Instr), (1 : Nat), ([] : List Cond)) = some (i, n, cs) := h1
  cases h1
  unfold cm_sald at h2
  dsimp only at h2
  split at h2
  rotate_left
  · exact h2.elim
  rename_i q i c st'
  obtain ⟨rfl, hi1, hi2, hk⟩ := h2
  exact va_sld hx hb hscr.1 hscr.2.1 hscr.2.2 hR.2.2.1 (cm_in hi1 hi2).1 hd (hk ws H locs ls hR)

