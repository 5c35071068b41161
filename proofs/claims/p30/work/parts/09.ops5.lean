/-! new cells, lengths, small library calls -/
def ev_cs (st : List ev_A) : Nat := (st.map (fun a => if ev_isL a = true then 2 else 1)).sum
theorem ev_cs_ok {g : ev_G} : ∀ {st : List ev_A} {sc : List Value}, ev_s g st sc → (sc.map fun v => v.category).sum = ev_cs st
  | [], [], _ => rfl
  | [], _ :: _, h => h.elim
  | _ :: _, [], h => h.elim
  | a :: st, v :: sc, h => by
    have ih := ev_cs_ok h.2
    simp only [ev_cs, List.map_cons, List.sum_cons] at ih ⊢
    rw [ih]
    rcases ev_cat h.1 with ⟨q1, q2⟩ | ⟨q1, q2⟩ <;> rw [q1, q2] <;> rfl
theorem ev_nn {x : Int32} (h : 0 ≤ x.toInt) : ¬ x < 0 := by
  rw [Int32.lt_iff_toInt_lt]
  exact Int.not_lt.mpr h
/-- how many places a new array has -/
def ev_len (a : ev_A) : Option Nat := if a.1 = 0 ∧ 0 ≤ (Int32.ofInt a.2).toInt ∧ (Int32.ofInt a.2).toNatClampNeg ≤ 100000 then some (Int32.ofInt a.2).toNatClampNeg else none
theorem ev_len_ok {a : ev_A} {n : Nat} {g : ev_G} {v : Value} (h : ev_len a = some n) (hv : ev_v g a = some v) : ∃ x : Int32, v = .int x ∧ ¬ x < 0 ∧ x.toNatClampNeg = n ∧ n ≤ 100000 := by
  unfold ev_len at h
  split at h
  · rename_i hc
    cases h
    obtain ⟨t, k⟩ := a
    obtain ⟨h1, h2, h3⟩ := hc
    have h1 : t = 0 := h1
    subst h1
    exact ⟨_, (Option.some.inj hv).symm, ev_nn h2, rfl, h3⟩
  · cases h

def ev_newI : ev_O := (fun _ _ => some (.newarray .int, 2, [.arrayClass .int]), fun P _ S => match S.2.2.1 with
  | a :: st => (match ev_len a with
    | some n => if S.2.2.2.2.2.1 + 1 ≤ P.1 ∧ S.2.2.2.2.2.2 + n ≤ P.2.1 then some [(S.1 + 2, S.2.1, (1, (S.2.2.2.1.length : Int)) :: st, S.2.2.2.1 ++ [(100, List.replicate n (0, 0))], S.2.2.2.2.1, S.2.2.2.2.2.1 + 1, S.2.2.2.2.2.2 + n)] else none
    | none => none)
  | _ => none)
theorem ev_newI_ok : ev_Snd ev_newI := by
  intro p l e R s m args below meth c cc Q D A g0 P t S i n cs Ss X h1 hd hw h2 hk g ws H locs ls sc hle hR
  obtain ⟨hx, hb, hml, hown, hts, hK, hA, hN, hini, hcC, hcS, hf, hlc, hscr⟩ := X
  obtain ⟨pc, L, st, w, K, ce, sl⟩ := S
  have h1 : some ((.newarray .int : Instr), (2 : Nat), ([.arrayClass .int] : List Cond)) = some (i, n, cs) := h1
  cases h1
  unfold ev_newI at h2
  dsimp only at h2
  split at h2
  · rename_i a st'
    split at h2
    · rename_i n hn
      split at h2
      · rename_i hc
        cases h2
        obtain ⟨hP, hD, hS, hW, hB, hL, hs⟩ := hR
        obtain ⟨va, sc1, rfl, hva, hs1⟩ := ev_s_cons hs
        obtain ⟨x, rfl, x1, x2, x3⟩ := ev_len_ok hn hva
        refine va_newa hx hb (atype := .int) (hts _ (hw _ (List.mem_singleton.mpr rfl))) rfl hK hP hD hS hA (a0 := (n, .inl (fun _ => 0))) (fun cA => rfl) x1 x2 (by simp only [componentBytes, newarray.typeOf]; omega) (by rw [hcC]; exact hc.1) (by rw [hcS]; exact hc.2) hd (fun q cA H1 hK1 hP1 hD1 hS1 => ?_)
        obtain ⟨k1, k2⟩ := hK1.2 0 _ rfl
        have hcell : ev_c s (g.1 ++ [q], g.2.1, g.2.2) (100, List.replicate n (0, 0)) (.inl (cA, n, .inl (fun _ => 0))) := by
          refine ⟨0, by decide, rfl, by simp, k1, k2, by decide, fun j y hj => ?_⟩
          rw [List.getElem?_replicate] at hj
          split at hj
          · cases hj
            rfl
          · cases hj
        obtain ⟨l1, w1, v1⟩ := ev_w_push hW hcell
        exact hk _ (List.mem_singleton.mpr rfl) _ _ H1 locs ls _ (ev_le_tr hle l1) ⟨hP1, hD1, hS1, w1, hB, ev_l_le l1 hL, v1, ev_s_le l1 hs1⟩
      · cases h2
    · cases h2
  · cases h2

def ev_newB : ev_O := (fun _ _ => some (.newarray .byte, 2, [.arrayClass .byte]), fun P _ S => match S.2.2.1 with
  | a :: st => (match ev_len a with
    | some n => if S.2.2.2.2.2.1 + 1 ≤ P.1 ∧ S.2.2.2.2.2.2 + n ≤ P.2.1 then some [(S.1 + 2, S.2.1, (1, (S.2.2.2.1.length : Int)) :: st, S.2.2.2.1 ++ [(101, List.replicate n (0, 0))], S.2.2.2.2.1, S.2.2.2.2.2.1 + 1, S.2.2.2.2.2.2 + n)] else none
    | none => none)
  | _ => none)
theorem ev_newB_ok : ev_Snd ev_newB := by
  intro p l e R s m args below meth c cc Q D A g0 P t S i n cs Ss X h1 hd hw h2 hk g ws H locs ls sc hle hR
  obtain ⟨hx, hb, hml, hown, hts, hK, hA, hN, hini, hcC, hcS, hf, hlc, hscr⟩ := X
  obtain ⟨pc, L, st, w, K, ce, sl⟩ := S
  have h1 : some ((.newarray .byte : Instr), (2 : Nat), ([.arrayClass .byte] : List Cond)) = some (i, n, cs) := h1
  cases h1
  unfold ev_newB at h2
  dsimp only at h2
  split at h2
  · rename_i a st'
    split at h2
    · rename_i n hn
      split at h2
      · rename_i hc
        cases h2
        obtain ⟨hP, hD, hS, hW, hB, hL, hs⟩ := hR
        obtain ⟨va, sc1, rfl, hva, hs1⟩ := ev_s_cons hs
        obtain ⟨x, rfl, x1, x2, x3⟩ := ev_len_ok hn hva
        refine va_newa hx hb (atype := .byte) (hts _ (hw _ (List.mem_singleton.mpr rfl))) rfl hK hP hD hS hA (a0 := (n, .inl (fun _ => 0))) (fun cA => rfl) x1 x2 (by simp only [componentBytes, newarray.typeOf]; omega) (by rw [hcC]; exact hc.1) (by rw [hcS]; exact hc.2) hd (fun q cA H1 hK1 hP1 hD1 hS1 => ?_)
        obtain ⟨k1, k2⟩ := hK1.2 0 _ rfl
        have hcell : ev_c s (g.1 ++ [q], g.2.1, g.2.2) (101, List.replicate n (0, 0)) (.inl (cA, n, .inl (fun _ => 0))) := by
          refine ⟨1, by decide, rfl, by simp, k1, k2, by decide, fun j y hj => ?_⟩
          rw [List.getElem?_replicate] at hj
          split at hj
          · cases hj
            rfl
          · cases hj
        obtain ⟨l1, w1, v1⟩ := ev_w_push hW hcell
        exact hk _ (List.mem_singleton.mpr rfl) _ _ H1 locs ls _ (ev_le_tr hle l1) ⟨hP1, hD1, hS1, w1, hB, ev_l_le l1 hL, v1, ev_s_le l1 hs1⟩
      · cases h2
    · cases h2
  · cases h2

def ev_newJ : ev_O := (fun _ _ => some (.newarray .long, 2, [.arrayClass .long]), fun P _ S => match S.2.2.1 with
  | a :: st => (match ev_len a with
    | some n => if S.2.2.2.2.2.1 + 1 ≤ P.1 ∧ S.2.2.2.2.2.2 + n ≤ P.2.1 then some [(S.1 + 2, S.2.1, (1, (S.2.2.2.1.length : Int)) :: st, S.2.2.2.1 ++ [(102, List.replicate n (4, 0))], S.2.2.2.2.1, S.2.2.2.2.2.1 + 1, S.2.2.2.2.2.2 + n)] else none
    | none => none)
  | _ => none)
theorem ev_newJ_ok : ev_Snd ev_newJ := by
  intro p l e R s m args below meth c cc Q D A g0 P t S i n cs Ss X h1 hd hw h2 hk g ws H locs ls sc hle hR
  obtain ⟨hx, hb, hml, hown, hts, hK, hA, hN, hini, hcC, hcS, hf, hlc, hscr⟩ := X
  obtain ⟨pc, L, st, w, K, ce, sl⟩ := S
  have h1 : some ((.newarray .long : Instr), (2 : Nat), ([.arrayClass .long] : List Cond)) = some (i, n, cs) := h1
  cases h1
  unfold ev_newJ at h2
  dsimp only at h2
  split at h2
  · rename_i a st'
    split at h2
    · rename_i n hn
      split at h2
      · rename_i hc
        cases h2
        obtain ⟨hP, hD, hS, hW, hB, hL, hs⟩ := hR
        obtain ⟨va, sc1, rfl, hva, hs1⟩ := ev_s_cons hs
        obtain ⟨x, rfl, x1, x2, x3⟩ := ev_len_ok hn hva
        refine va_newa hx hb (atype := .long) (hts _ (hw _ (List.mem_singleton.mpr rfl))) rfl hK hP hD hS hA (a0 := (n, .inr (.inl (fun _ => 0)))) (fun cA => rfl) x1 x2 (by simp only [componentBytes, newarray.typeOf]; omega) (by rw [hcC]; exact hc.1) (by rw [hcS]; exact hc.2) hd (fun q cA H1 hK1 hP1 hD1 hS1 => ?_)
        obtain ⟨k1, k2⟩ := hK1.2 0 _ rfl
        have hcell : ev_c s (g.1 ++ [q], g.2.1, g.2.2) (102, List.replicate n (4, 0)) (.inl (cA, n, .inr (.inl (fun _ => 0)))) := by
          refine ⟨2, by decide, rfl, by simp, k1, k2, by decide, fun j y hj => ?_⟩
          rw [List.getElem?_replicate] at hj
          split at hj
          · cases hj
            rfl
          · cases hj
        obtain ⟨l1, w1, v1⟩ := ev_w_push hW hcell
        exact hk _ (List.mem_singleton.mpr rfl) _ _ H1 locs ls _ (ev_le_tr hle l1) ⟨hP1, hD1, hS1, w1, hB, ev_l_le l1 hL, v1, ev_s_le l1 hs1⟩
      · cases h2
    · cases h2
  · cases h2

def ev_newQ : ev_O := (fun P t => some (.anewarray t.1.toNat, 3, [.classLink P.2.2.2.1 t.1.toNat "BarberMinutes$Minutes"]), fun P _ S => match S.2.2.1 with
  | a :: st => (match ev_len a with
    | some n => if S.2.2.2.2.2.1 + 1 ≤ P.1 ∧ S.2.2.2.2.2.2 + n ≤ P.2.1 then some [(S.1 + 3, S.2.1, (1, (S.2.2.2.1.length : Int)) :: st, S.2.2.2.1 ++ [(103, List.replicate n (2, 0))], S.2.2.2.2.1, S.2.2.2.2.2.1 + 1, S.2.2.2.2.2.2 + n)] else none
    | none => none)
  | _ => none)
theorem ev_newQ_ok : ev_Snd ev_newQ := by
  intro p l e R s m args below meth c cc Q D A g0 P t S i n cs Ss X h1 hd hw h2 hk g ws H locs ls sc hle hR
  obtain ⟨hx, hb, hml, hown, hts, hK, hA, hN, hini, hcC, hcS, hf, hlc, hscr⟩ := X
  obtain ⟨pc, L, st, w, K, ce, sl⟩ := S
  have h1 : some ((.anewarray t.1.toNat : Instr), (3 : Nat), ([.classLink P.2.2.2.1 t.1.toNat "BarberMinutes$Minutes"] : List Cond)) = some (i, n, cs) := h1
  cases h1
  unfold ev_newQ at h2
  dsimp only at h2
  split at h2
  · rename_i a st'
    split at h2
    · rename_i n hn
      split at h2
      · rename_i hc
        cases h2
        obtain ⟨hP, hD, hS, hW, hB, hL, hs⟩ := hR
        obtain ⟨va, sc1, rfl, hva, hs1⟩ := ev_s_cons hs
        obtain ⟨x, rfl, x1, x2, x3⟩ := ev_len_ok hn hva
        refine va_newq hx hb hown (hts _ (hw _ (List.mem_singleton.mpr rfl))) hN.1.2 hK hP hD hS hA x1 x2 (by omega) (by rw [hcC]; exact hc.1) (by rw [hcS]; exact hc.2) hd (fun q cA H1 hK1 hP1 hD1 hS1 => ?_)
        obtain ⟨k1, k2⟩ := hK1.2 0 _ rfl
        have hcell : ev_c s (g.1 ++ [q], g.2.1, g.2.2) (103, List.replicate n (2, 0)) (.inl (cA, n, .inr (.inr (.inr (.inr (fun _ => none)))))) := by
          refine ⟨3, by decide, rfl, by simp, k1, k2, rfl, fun j y hj => ?_⟩
          rw [List.getElem?_replicate] at hj
          split at hj
          · cases hj
            rfl
          · cases hj
        obtain ⟨l1, w1, v1⟩ := ev_w_push hW hcell
        exact hk _ (List.mem_singleton.mpr rfl) _ _ H1 locs ls _ (ev_le_tr hle l1) ⟨hP1, hD1, hS1, w1, hB, ev_l_le l1 hL, v1, ev_s_le l1 hs1⟩
      · cases h2
    · cases h2
  · cases h2
def ev_def (ty : FieldType) : ev_A := match ty with
  | .int => (0, 0)
  | .boolean => (0, 0)
  | .long => (4, 0)
  | .object _ => (2, 0)
  | .array _ => (2, 0)
  | _ => (9, 0)
theorem ev_def_ok (g : ev_G) {ty : FieldType} (h : ((ev_def ty).1 == 9) = false) : ev_v g (ev_def ty) = some (defaultValue ty) := by
  cases ty <;> first | rfl | (simp [ev_def] at h)
def ev_new : ev_O := (fun P t => match vwCl[t.1.toNat]? with
  | some r => some (.new t.2.2.1.toNat, 3, [.classLink P.2.2.2.1 t.2.2.1.toNat r.1, .instantiable r.1 r.2.2, .initialized r.1])
  | none => none, fun P t S => match vwCl[t.1.toNat]?, ev_tyl[t.1.toNat]? with
  | some r, some ty => if S.2.2.2.2.2.1 + 1 ≤ P.1 ∧ S.2.2.2.2.2.2 + r.2.2 ≤ P.2.1 ∧ (List.range r.2.2).all (fun j => !((ev_def (ty j)).1 == 9)) = true then some [(S.1 + 3, S.2.1, (1, (S.2.2.2.1.length : Int)) :: S.2.2.1, S.2.2.2.1 ++ [(t.1.toNat, (List.range r.2.2).map (fun j => ev_def (ty j)))], S.2.2.2.2.1, S.2.2.2.2.2.1 + 1, S.2.2.2.2.2.2 + r.2.2)] else none
  | _, _ => none)
theorem ev_new_ok : ev_Snd ev_new := by
  intro p l e R s m args below meth c cc Q D A g0 P t S i n cs Ss X h1 hd hw h2 hk g ws H locs ls sc hle hR
  obtain ⟨hx, hb, hml, hown, hts, hK, hA, hN, hini, hcC, hcS, hf, hlc, hscr⟩ := X
  obtain ⟨pc, L, st, w, K, ce, sl⟩ := S
  obtain ⟨t1, t2, t3, t4⟩ := t
  unfold ev_new at h1 h2
  dsimp only at h1 h2
  cases hr : vwCl[t1.toNat]? with
  | none => simp [hr] at h1
  | some r =>
    rw [hr] at h1 h2
    dsimp only at h1
    cases h1
    split at h2
    · rename_i r' ty hr' hty
      cases hr'
      split at h2
      · rename_i hc
        obtain ⟨hc1, hc2, hc3⟩ := hc
        cases h2
        obtain ⟨hP, hD, hS, hW, hB, hL, hs⟩ := hR
        obtain ⟨k1, k2, k3, k4⟩ := ev_cls _ r ty hr hty
        have hlt : t1.toNat < 10 := (List.getElem?_eq_some_iff.mp hr).1
        refine va_new (fs := (List.range r.2.2).map (fun j => defaultValue (ty j))) hx hb hts k1 ty k2 hown (hts _ (hw _ (by simp))) (hts _ (hw _ (by simp))) (hts _ (hw _ (by simp))) hK hP hD hS hA hr (fun j hj => by simp [vp_V, List.getD, hj]) (by rw [hcC]; exact hc1) (by rw [hcS]; exact hc2) hd (fun q H1 hP1 hD1 hS1 => ?_)
        have hcell : ev_c s (g.1 ++ [q], g.2.1, g.2.2) (t1.toNat, (List.range r.2.2).map (fun j => ev_def (ty j))) (.inr (t1.toNat, (List.range r.2.2).map (fun j => defaultValue (ty j)))) := by
          refine ⟨rfl, by omega, by simp, fun j a hj => ?_⟩
          dsimp only at hj ⊢
          rw [List.getElem?_map] at hj ⊢
          cases hz : (List.range r.2.2)[j]? with
          | none => simp [hz] at hj
          | some z =>
            simp only [hz, Option.map_some] at hj ⊢
            cases hj
            refine ⟨_, ev_def_ok _ ?_, rfl⟩
            have := List.all_eq_true.mp hc3 z (List.mem_of_getElem? hz)
            simpa using this
        obtain ⟨l1, w1, v1⟩ := ev_w_push hW hcell
        exact hk _ (List.mem_singleton.mpr rfl) _ _ H1 locs ls _ (ev_le_tr hle l1) ⟨hP1, hD1, hS1, w1, hB, ev_l_le l1 hL, v1, ev_s_le l1 hs⟩
      · cases h2
    · cases h2
def ev_aastore : ev_O := (fun _ _ => some (.aastore, 1, []), fun _ _ S => match S.2.2.1 with
  | a :: i :: x :: st => (match ev_ix 3 x i S.2.2.2.1, S.2.2.2.1[a.2.toNat]? with
    | some (cs, j), some cl => if a.1 = 1 ∧ cl.1 = 2 then some [(S.1 + 1, S.2.1, st, S.2.2.2.1.set x.2.toNat (103, cs.set j a), S.2.2.2.2)] else none
    | _, _ => none)
  | _ => none)
theorem ev_aastore_ok : ev_Snd ev_aastore := by
  intro p l e R s m args below meth c cc Q D A g0 P t S i n cs Ss X h1 hd hw h2 hk g ws H locs ls sc hle hR
  obtain ⟨hx, hb, hml, hown, hts, hK, hA, hN, hini, hcC, hcS, hf, hlc, hscr⟩ := X
  obtain ⟨pc, L, st, w, K, ce, sl⟩ := S
  have h1 : some ((.aastore : Instr), (1 : Nat), ([] : List Cond)) = some (i, n, cs) := h1
  cases h1
  unfold ev_aastore at h2
  dsimp only at h2
  split at h2
  · rename_i a i x st'
    split at h2
    · rename_i cs j cl hix hcl
      split at h2
      · rename_i ha
        cases h2
        obtain ⟨hP, hD, hS, hW, hB, hL, hs⟩ := hR
        obtain ⟨va, sc1, rfl, hva, hs1⟩ := ev_s_cons hs
        obtain ⟨vi, sc2, rfl, hvi, hs2⟩ := ev_s_cons hs1
        obtain ⟨vx, sc3, rfl, hvx, hs3⟩ := ev_s_cons hs2
        obtain ⟨ad2, y0, rfl, hws2, hcc⟩ := ev_ref1 hW ha.1 hva hcl
        obtain ⟨ad, cA, n, arr, i0, rfl, rfl, hws, hn, hv, hj, hjl, b4, b5, b6, hwc⟩ := ev_ix_ok (by decide) hix hW hvx hvi
        cases y0 with
        | inl z =>
          obtain ⟨tt, c1, c2, -⟩ := hcc
          omega
        | inr o =>
          obtain ⟨ci, vs⟩ := o
          obtain ⟨c1, -⟩ := hcc
          have c1 : ci = 2 := by dsimp only at c1; omega
          subst c1
          rcases arr with f | f | f | f | f
          · have := b6.1; omega
          · have := b6.1; omega
          · exact b6.elim
          · exact b6.elim
          · refine va_astq hx hb (ev_K1 hK b4 b5) hP hD hS _ 0 _ 2 (r := (RX2, TX2, 4)) hws rfl hws2 rfl hv hd (fun H1 locs1 hP1 hD1 hS1 => hk _ (List.mem_singleton.mpr rfl) g _ H1 locs1 ls _ hle ⟨hP1, hD1, hS1, ev_w_set hW hws ⟨3, by decide, rfl, by rw [List.length_set]; exact hn, b4, b5, rfl, ?_⟩, hB, hL, hs3⟩)
            rw [hj]
            exact ev_set_rel (F := va_rf) (v := some ad2) hjl b6.2 hva
      · cases h2
    · cases h2
  · cases h2
def ev_alen : ev_O := (fun _ _ => some (.arraylength, 1, []), fun P _ S => match S.2.2.1 with
  | x :: st => if x.1 = 5 then (if x.2 = 0 ∧ 1 ≤ P.2.2.2.2.2 then some [ev_adv S 1 ((0, (Int32.ofNat (P.2.2.2.2.2 - 1)).toInt) :: st)] else none) else (match S.2.2.2.1[x.2.toNat]? with
    | some cl => if x.1 = 1 ∧ 100 ≤ cl.1 then some [ev_adv S 1 ((0, (Int32.ofNat cl.2.length).toInt) :: st)] else none
    | none => none)
  | _ => none)
theorem ev_alen_ok : ev_Snd ev_alen := by
  intro p l e R s m args below meth c cc Q D A g0 P t S i n cs Ss X h1 hd hw h2 hk g ws H locs ls sc hle hR
  obtain ⟨hx, hb, hml, hown, hts, hK, hA, hN, hini, hcC, hcS, hf, hlc, hscr⟩ := X
  obtain ⟨pc, L, st, w, K, ce, sl⟩ := S
  have h1 : some ((.arraylength : Instr), (1 : Nat), ([] : List Cond)) = some (i, n, cs) := h1
  cases h1
  unfold ev_alen at h2
  dsimp only at h2
  split at h2
  · rename_i x st'
    obtain ⟨hP, hD, hS, hW, hB, hL, hs⟩ := hR
    obtain ⟨vx, sc1, rfl, hvx, hs1⟩ := ev_s_cons hs
    split at h2
    · rename_i h5
      split at h2
      · rename_i hc
        cases h2
        obtain ⟨xt, xn⟩ := x
        have h5 : xt = 5 := h5
        subst h5
        have hc1 : xn = 0 := hc.1
        subst hc1
        obtain ⟨xs, s1, s2, s3, s4⟩ := hscr (P.2.2.2.2.2 - 1) (by omega)
        have e0 : g.2.1 = g0.2.1 := hle.2.1
        have hvx : vx = .ref (g0.2.1 0) := by rw [← e0]; exact (Option.some.inj hvx).symm
        subst hvx
        exact va_slen hx hb s1 s2 s3 hS hd (hk _ (List.mem_singleton.mpr rfl) g ws H locs ls _ hle ⟨hP, hD, hS, hW, hB, hL, ev_v0 g _, hs1⟩)
      · cases h2
    · split at h2
      · rename_i cl hcl
        split at h2
        · rename_i hc
          cases h2
          obtain ⟨ad, y0, rfl, hws, hcc⟩ := ev_ref1 hW hc.1 hvx hcl
          cases y0 with
          | inr o =>
            obtain ⟨c1, c2, -⟩ := hcc
            omega
          | inl z =>
            obtain ⟨cA, n, arr⟩ := z
            obtain ⟨tt, c1, c2, c3, c4, c5, c6⟩ := hcc
            exact va_alen hx hb (ev_K1 hK c4 c5) hP _ 0 hws rfl rfl hd (hk _ (List.mem_singleton.mpr rfl) g ws H locs ls _ hle ⟨hP, hD, hS, hW, hB, hL, by dsimp only at c3 ⊢; rw [c3]; exact ev_v0 g _, hs1⟩)
        · cases h2
      · cases h2
  · cases h2
/-- the law's own script: its j-th number is the j-th variable -/
def ev_sald : ev_O := (fun _ _ => some (.iaload, 1, []), fun P _ S => match S.2.2.1 with
  | i :: x :: st => if x.1 = 5 ∧ x.2 = 0 ∧ i.1 = 0 ∧ 1 ≤ P.2.2.2.2.2 ∧ 0 ≤ (Int32.ofInt i.2).toInt ∧ (Int32.ofInt i.2).toInt < ((P.2.2.2.2.2 - 1 : Nat) : Int) then some [ev_adv S 1 ((3, ((Int32.ofInt i.2).toNatClampNeg : Int)) :: st)] else none
  | _ => none)
theorem ev_sald_ok : ev_Snd ev_sald := by
  intro p l e R s m args below meth c cc Q D A g0 P t S i n cs Ss X h1 hd hw h2 hk g ws H locs ls sc hle hR
  obtain ⟨hx, hb, hml, hown, hts, hK, hA, hN, hini, hcC, hcS, hf, hlc, hscr⟩ := X
  obtain ⟨pc, L, st, w, K, ce, sl⟩ := S
  have h1 : some ((.iaload : Instr), (1 : Nat), ([] : List Cond)) = some (i, n, cs) := h1
  cases h1
  unfold ev_sald at h2
  dsimp only at h2
  split at h2
  · rename_i i x st'
    split at h2
    · rename_i hc
      cases h2
      obtain ⟨h5, h50, hi0, hL1, hi1, hi2⟩ := hc
      obtain ⟨hP, hD, hS, hW, hB, hL, hs⟩ := hR
      obtain ⟨vi, sc1, rfl, hvi, hs1⟩ := ev_s_cons hs
      obtain ⟨vx, sc2, rfl, hvx, hs2⟩ := ev_s_cons hs1
      obtain ⟨xt, xn⟩ := x
      have h5 : xt = 5 := h5
      subst h5
      have h50 : xn = 0 := h50
      subst h50
      obtain ⟨it, iv⟩ := i
      have hi0 : it = 0 := hi0
      subst hi0
      have hvi : vi = .int (Int32.ofInt iv) := (Option.some.inj hvi).symm
      subst hvi
      obtain ⟨xs, s1, s2, s3, s4⟩ := hscr (P.2.2.2.2.2 - 1) (by omega)
      have e0 : g.2.1 = g0.2.1 := hle.2.1
      have hvx : vx = .ref (g0.2.1 0) := by rw [← e0]; exact (Option.some.inj hvx).symm
      subst hvx
      have hv : vp_in (Int32.ofInt iv) (P.2.2.2.2.2 - 1) := by rw [vp_in_iff]; exact ⟨hi1, hi2⟩
      have hj : (Int32.ofInt iv).toNatClampNeg < P.2.2.2.2.2 - 1 := by
        have h9 := hv
        unfold vp_in at h9
        exact Nat.lt_of_not_le (fun q => h9 (Or.inr q))
      obtain ⟨l3, e3⟩ := hle.2.2
      have he : g.2.2[(Int32.ofInt iv).toNatClampNeg]? = some (.int (xs (Int32.ofInt iv).toNatClampNeg)) := by rw [e3]; exact ev_ap (s4 _ hj)
      exact va_sld hx hb s1 s2 s3 hS hv hd (hk _ (List.mem_singleton.mpr rfl) g ws H locs ls _ hle ⟨hP, hD, hS, hW, hB, hL, ev_v3 he, hs2⟩)
    · cases h2
  · cases h2
/-! calls of the library by one row -/
def ev_oinit : ev_O := (fun P t => some (.invokespecial t.1.toNat, 3, [.methodLink P.2.2.2.1 t.1.toNat objectInit, .instanceMethod objectInit, .code objectInit ⟨#[0xb1]⟩ 1 none]), fun _ _ S => match S.2.2.1 with
  | x :: st => if ev_isR x = true ∧ ev_cs st ≤ 8 then some [ev_adv S 3 st] else none
  | _ => none)
theorem ev_oinit_ok : ev_Snd ev_oinit := by
  intro p l e R s m args below meth c cc Q D A g0 P t S i n cs Ss X h1 hd hw h2 hk g ws H locs ls sc hle hR
  obtain ⟨hx, hb, hml, hown, hts, hK, hA, hN, hini, hcC, hcS, hf, hlc, hscr⟩ := X
  obtain ⟨pc, L, st, w, K, ce, sl⟩ := S
  have h1 : some ((.invokespecial t.1.toNat : Instr), (3 : Nat), ([.methodLink P.2.2.2.1 t.1.toNat objectInit, .instanceMethod objectInit, .code objectInit ⟨#[0xb1]⟩ 1 none] : List Cond)) = some (i, n, cs) := h1
  cases h1
  unfold ev_oinit at h2
  dsimp only at h2
  split at h2
  · rename_i x st'
    split at h2
    · rename_i hc
      cases h2
      obtain ⟨hP, hD, hS, hW, hB, hL, hs⟩ := hR
      obtain ⟨vx, sc1, rfl, hvx, hs1⟩ := ev_s_cons hs
      obtain ⟨ad, rfl⟩ := ev_vR hc.1 hvx
      refine W.objInit hx hb hown (hts _ (hw _ (by simp))) (hts _ (hw _ (by simp))) (hts _ (hw _ (by simp))) (g := F0 m pc ls (.ref ad :: sc1)) rfl (hL.1.trans hml.symm) (a := ad) (rest := sc1) rfl hd hf ?_ (hk _ (List.mem_singleton.mpr rfl) g ws H locs ls _ hle ⟨hP, hD, hS, hW, hB, hL, hs1⟩)
      rw [ev_cs_ok hs1]
      show 2 * 0 + _ + 12 ≤ _
      omega
    · cases h2
  · cases h2

def ev_mmin : ev_O := (fun P t => some (.invokestatic t.1.toNat, 3, [.methodLink P.2.2.2.1 t.1.toNat Lib.Math.min.name, .static Lib.Math.min.name, .initialized "java/lang/Math", .code Lib.Math.min.name Lib.Math.min.code 2 (some .int)]), fun P _ S => match S.2.2.1 with
  | _ :: _ :: st => if ev_cs st ≤ 8 ∧ S.2.2.2.2.2.1 ≤ P.1 ∧ S.2.2.2.2.2.2 ≤ P.2.1 then ev_bin (fun x y => if y < x then y else x) (fun _ => true) 3 S else none
  | _ => none)
theorem ev_mmin_ok : ev_Snd ev_mmin := by
  intro p l e R s m args below meth c cc Q D A g0 P t S i n cs Ss X h1 hd hw h2 hk g ws H locs ls sc hle hR
  obtain ⟨hx, hb, hml, hown, hts, hK, hA, hN, hini, hcC, hcS, hf, hlc, hscr⟩ := X
  obtain ⟨pc, L, st, w, K, ce, sl⟩ := S
  have h1 : some ((.invokestatic t.1.toNat : Instr), (3 : Nat), ([.methodLink P.2.2.2.1 t.1.toNat Lib.Math.min.name, .static Lib.Math.min.name, .initialized "java/lang/Math", .code Lib.Math.min.name Lib.Math.min.code 2 (some .int)] : List Cond)) = some (i, n, cs) := h1
  cases h1
  unfold ev_mmin at h2
  dsimp only at h2
  split at h2
  · rename_i y x st'
    split at h2
    · rename_i hc
      have hs0 := hR.2.2.2.2.2.2
      have hl0 := hR.2.2.2.2.2.1.1
      obtain ⟨x0, y0, rest, S', rfl, hy, rfl, e1, e2, g', l1, hR'⟩ := ev_bin_ok (fun x y => if y < x then y else x) (fun _ => true) (fun _ _ => rfl) h2 hR
      have hsum := ev_cs_ok hs0.2.2
      exact va_mmin hx hb (hml.trans hl0.symm) hown (hts _ (hw _ (by simp))) (hts _ (hw _ (by simp))) (hts _ (hw _ (by simp))) (hts _ (hw _ (by simp))) hf (by omega) (by rw [hcC]; exact hc.2.1) (by rw [hcS]; exact hc.2.2) hd (ev_Go_eq (hk S' (List.mem_singleton.mpr rfl)) e1 e2 (ev_le_tr hle l1) hR')
    · cases h2
  · cases h2

def ev_ldc : ev_O := (fun P t => some (.ldc t.2.1.toNat, 2, [.constant P.2.2.2.1 t.2.1.toNat (Int32.ofInt t.1)]), fun _ t S => some [ev_adv S 2 ((0, (Int32.ofInt t.1).toInt) :: S.2.2.1)])
theorem ev_ldc_ok : ev_Snd ev_ldc := by
  intro p l e R s m args below meth c cc Q D A g0 P t S i n cs Ss X h1 hd hw h2 hk g ws H locs ls sc hle hR
  obtain ⟨hx, hb, hml, hown, hts, hK, hA, hN, hini, hcC, hcS, hf, hlc, hscr⟩ := X
  obtain ⟨pc, L, st, w, K, ce, sl⟩ := S
  have h1 : some ((.ldc t.2.1.toNat : Instr), (2 : Nat), ([.constant P.2.2.2.1 t.2.1.toNat (Int32.ofInt t.1)] : List Cond)) = some (i, n, cs) := h1
  cases h1
  have h2 : some [ev_adv (pc, L, st, w, K, ce, sl) 2 ((0, (Int32.ofInt t.1).toInt) :: st)] = some Ss := h2
  cases h2
  obtain ⟨hP, hD, hS, hW, hB, hL, hs⟩ := hR
  exact W.ldc hx hb hown (hts _ (hw _ (List.mem_singleton.mpr rfl))) (g := F0 m pc ls sc) rfl hd (hk _ (List.mem_singleton.mpr rfl) g ws H locs ls _ hle ⟨hP, hD, hS, hW, hB, hL, ev_v0 g _, hs⟩)

/-! text constants -/
def ev_ldcS : ev_O := (fun P t => match ev_strs[t.1.toNat]? with
  | some r => if r.1 = P.2.2.2.1 then some (.ldc r.2.1, 2, []) else none
  | none => none, fun _ t S => some [ev_adv S 2 ((5, 1 + 2 * (t.1.toNat : Int)) :: S.2.2.1)])
theorem ev_x5 {g : ev_G} {k : Nat} : ev_v g (5, 1 + 2 * (k : Int)) = some (.ref (g.2.1 (1 + 2 * k))) := by
  show some (Value.ref (g.2.1 (1 + 2 * (k : Int)).toNat)) = _
  rw [show (1 + 2 * (k : Int)).toNat = 1 + 2 * k by omega]
theorem ev_ldcS_ok : ev_Snd ev_ldcS := by
  intro p l e R s m args below meth c cc Q D A g0 P t S i n cs Ss X h1 hd hw h2 hk g ws H locs ls sc hle hR
  obtain ⟨hx, hb, hml, hown, hts, hK, hA, hN, hini, hcC, hcS, hf, hlc, hscr⟩ := X
  obtain ⟨pc, L, st, w, K, ce, sl⟩ := S
  unfold ev_ldcS at h1
  dsimp only at h1
  have h2 : some [ev_adv (pc, L, st, w, K, ce, sl) 2 ((5, 1 + 2 * (t.1.toNat : Int)) :: st)] = some Ss := h2
  cases h2
  split at h1
  · rename_i r hr
    split at h1
    · rename_i ho
      cases h1
      obtain ⟨hP, hD, hS, hW, hB, hL, hs⟩ := hR
      have e0 : g.2.1 = g0.2.1 := hle.2.1
      have hz := hN.2.1 _ r hr
      rw [ho] at hz
      exact va_ldcS hx hb hown hz hd (hk _ (List.mem_singleton.mpr rfl) g ws H locs ls _ hle ⟨hP, hD, hS, hW, hB, hL, by rw [← e0]; exact ev_x5, hs⟩)
    · cases h1
  · cases h1
/-- a text, by its value -/
def ev_isS (a : ev_A) : Bool := a.1 == 5 && (decide (a.2.toNat % 2 = 1) && decide (a.2.toNat / 2 < 40))
theorem ev_isS_ok {a : ev_A} {g : ev_G} {v : Value} (h : ev_isS a = true) (hv : ev_v g a = some v) : ∃ r, ev_strs[a.2.toNat / 2]? = some r ∧ a.2.toNat = 1 + 2 * (a.2.toNat / 2) ∧ v = .ref (g.2.1 (1 + 2 * (a.2.toNat / 2))) := by
  simp only [ev_isS, Bool.and_eq_true, beq_iff_eq, decide_eq_true_eq] at h
  obtain ⟨h1, h2, h3⟩ := h
  obtain ⟨t, n⟩ := a
  have h1 : t = 5 := h1
  subst h1
  dsimp only at h2 h3 ⊢
  refine ⟨_, List.getElem?_eq_getElem (show n.toNat / 2 < ev_strs.length from h3), by omega, ?_⟩
  rw [show 1 + 2 * (n.toNat / 2) = n.toNat by omega]
  exact (Option.some.inj hv).symm
def ev_getV : ev_O := (fun P t => some (.getfield t.1.toNat, 3, [.fieldLink P.2.2.2.1 t.1.toNat "java/lang/String" "value" "[B"]), fun _ _ S => match S.2.2.1 with
  | x :: st => if ev_isS x = true then some [ev_adv S 3 ((5, 2 + 2 * ((x.2.toNat / 2 : Nat) : Int)) :: st)] else none
  | _ => none)
theorem ev_x52 {g : ev_G} {k : Nat} : ev_v g (5, 2 + 2 * (k : Int)) = some (.ref (g.2.1 (2 + 2 * k))) := by
  show some (Value.ref (g.2.1 (2 + 2 * (k : Int)).toNat)) = _
  rw [show (2 + 2 * (k : Int)).toNat = 2 + 2 * k by omega]
theorem ev_getV_ok : ev_Snd ev_getV := by
  intro p l e R s m args below meth c cc Q D A g0 P t S i n cs Ss X h1 hd hw h2 hk g ws H locs ls sc hle hR
  obtain ⟨hx, hb, hml, hown, hts, hK, hA, hN, hini, hcC, hcS, hf, hlc, hscr⟩ := X
  obtain ⟨pc, L, st, w, K, ce, sl⟩ := S
  have h1 : some ((.getfield t.1.toNat : Instr), (3 : Nat), ([.fieldLink P.2.2.2.1 t.1.toNat "java/lang/String" "value" "[B"] : List Cond)) = some (i, n, cs) := h1
  cases h1
  unfold ev_getV at h2
  dsimp only at h2
  split at h2
  · rename_i x st'
    split at h2
    · rename_i hc
      cases h2
      obtain ⟨hP, hD, hS, hW, hB, hL, hs⟩ := hR
      obtain ⟨vx, sc1, rfl, hvx, hs1⟩ := ev_s_cons hs
      obtain ⟨r, hr, e1, rfl⟩ := ev_isS_ok hc hvx
      have e0 : g.2.1 = g0.2.1 := hle.2.1
      rw [e0]
      exact vk_getf hx hb (hN.2.2.1 _ r hr).2.2.1 hS hown (hts _ (hw _ (List.mem_singleton.mpr rfl))) (fun _ h => h) hd (hk _ (List.mem_singleton.mpr rfl) g ws H locs ls _ hle ⟨hP, hD, hS, hW, hB, hL, by rw [← e0]; exact ev_x52, hs1⟩)
    · cases h2
  · cases h2
def ev_getC : ev_O := (fun P t => some (.getfield t.1.toNat, 3, [.fieldLink P.2.2.2.1 t.1.toNat "java/lang/String" "coder" "B"]), fun _ _ S => match S.2.2.1 with
  | x :: st => if ev_isS x = true then some [ev_adv S 3 ((0, 0) :: st)] else none
  | _ => none)
theorem ev_getC_ok : ev_Snd ev_getC := by
  intro p l e R s m args below meth c cc Q D A g0 P t S i n cs Ss X h1 hd hw h2 hk g ws H locs ls sc hle hR
  obtain ⟨hx, hb, hml, hown, hts, hK, hA, hN, hini, hcC, hcS, hf, hlc, hscr⟩ := X
  obtain ⟨pc, L, st, w, K, ce, sl⟩ := S
  have h1 : some ((.getfield t.1.toNat : Instr), (3 : Nat), ([.fieldLink P.2.2.2.1 t.1.toNat "java/lang/String" "coder" "B"] : List Cond)) = some (i, n, cs) := h1
  cases h1
  unfold ev_getC at h2
  dsimp only at h2
  split at h2
  · rename_i x st'
    split at h2
    · rename_i hc
      cases h2
      obtain ⟨hP, hD, hS, hW, hB, hL, hs⟩ := hR
      obtain ⟨vx, sc1, rfl, hvx, hs1⟩ := ev_s_cons hs
      obtain ⟨r, hr, e1, rfl⟩ := ev_isS_ok hc hvx
      have e0 : g.2.1 = g0.2.1 := hle.2.1
      rw [e0]
      exact vk_getf hx hb (hN.2.2.1 _ r hr).2.1 hS hown (hts _ (hw _ (List.mem_singleton.mpr rfl))) (fun _ h => h) hd (hk _ (List.mem_singleton.mpr rfl) g ws H locs ls _ hle ⟨hP, hD, hS, hW, hB, hL, rfl, hs1⟩)
    · cases h2
  · cases h2
def ev_gets : ev_O := (fun P t => some (.getstatic t.1.toNat, 3, [.fieldLink P.2.2.2.1 t.1.toNat "java/lang/String" "COMPACT_STRINGS" "Z"]), fun _ _ S => some [ev_adv S 3 ((0, 1) :: S.2.2.1)])
theorem ev_gets_ok : ev_Snd ev_gets := by
  intro p l e R s m args below meth c cc Q D A g0 P t S i n cs Ss X h1 hd hw h2 hk g ws H locs ls sc hle hR
  obtain ⟨hx, hb, hml, hown, hts, hK, hA, hN, hini, hcC, hcS, hf, hlc, hscr⟩ := X
  obtain ⟨pc, L, st, w, K, ce, sl⟩ := S
  have h1 : some ((.getstatic t.1.toNat : Instr), (3 : Nat), ([.fieldLink P.2.2.2.1 t.1.toNat "java/lang/String" "COMPACT_STRINGS" "Z"] : List Cond)) = some (i, n, cs) := h1
  cases h1
  have h2 : some [ev_adv (pc, L, st, w, K, ce, sl) 3 ((0, 1) :: st)] = some Ss := h2
  cases h2
  obtain ⟨hP, hD, hS, hW, hB, hL, hs⟩ := hR
  exact va_gets hx hb hN.2.2.2.1 hS hown (hts _ (hw _ (List.mem_singleton.mpr rfl))) (fun _ h => h) hd (hk _ (List.mem_singleton.mpr rfl) g ws H locs ls _ hle ⟨hP, hD, hS, hW, hB, hL, rfl, hs⟩)
/-- a text's bytes -/
def ev_isY (a : ev_A) : Bool := a.1 == 5 && (decide (a.2.toNat % 2 = 0) && (decide (2 ≤ a.2.toNat) && decide (a.2.toNat / 2 - 1 < 40)))
theorem ev_isY_ok {a : ev_A} {g : ev_G} {v : Value} (h : ev_isY a = true) (hv : ev_v g a = some v) : ∃ r, ev_strs[a.2.toNat / 2 - 1]? = some r ∧ v = .ref (g.2.1 (2 + 2 * (a.2.toNat / 2 - 1))) := by
  simp only [ev_isY, Bool.and_eq_true, beq_iff_eq, decide_eq_true_eq] at h
  obtain ⟨h1, h2, h3, h4⟩ := h
  obtain ⟨t, n⟩ := a
  have h1 : t = 5 := h1
  subst h1
  dsimp only at h2 h3 h4 ⊢
  refine ⟨_, List.getElem?_eq_getElem (show n.toNat / 2 - 1 < ev_strs.length from h4), ?_⟩
  rw [show 2 + 2 * (n.toNat / 2 - 1) = n.toNat by omega]
  exact (Option.some.inj hv).symm
def ev_alenS : ev_O := (fun _ _ => some (.arraylength, 1, []), fun _ _ S => match S.2.2.1 with
  | x :: st => if ev_isY x = true then (match ev_strs[x.2.toNat / 2 - 1]? with
    | some r => some [ev_adv S 1 ((0, (Int32.ofNat r.2.2.2.length).toInt) :: st)]
    | none => none) else none
  | _ => none)
theorem ev_alenS_ok : ev_Snd ev_alenS := by
  intro p l e R s m args below meth c cc Q D A g0 P t S i n cs Ss X h1 hd hw h2 hk g ws H locs ls sc hle hR
  obtain ⟨hx, hb, hml, hown, hts, hK, hA, hN, hini, hcC, hcS, hf, hlc, hscr⟩ := X
  obtain ⟨pc, L, st, w, K, ce, sl⟩ := S
  have h1 : some ((.arraylength : Instr), (1 : Nat), ([] : List Cond)) = some (i, n, cs) := h1
  cases h1
  unfold ev_alenS at h2
  dsimp only at h2
  split at h2
  · rename_i x st'
    split at h2
    · rename_i hc
      split at h2
      · rename_i r hr
        cases h2
        obtain ⟨hP, hD, hS, hW, hB, hL, hs⟩ := hR
        obtain ⟨vx, sc1, rfl, hvx, hs1⟩ := ev_s_cons hs
        obtain ⟨r', hr', rfl⟩ := ev_isY_ok hc hvx
        have e0 : g.2.1 = g0.2.1 := hle.2.1
        rw [e0]
        exact va_tlen hx hb (hN.2.2.1 _ r hr).2.2.2 hS rfl hd (hk _ (List.mem_singleton.mpr rfl) g ws H locs ls _ hle ⟨hP, hD, hS, hW, hB, hL, ev_v0 g _, hs1⟩)
      · cases h2
    · cases h2
  · cases h2
def ev_baloadS : ev_O := (fun _ _ => some (.baload, 1, []), fun _ _ S => match S.2.2.1 with
  | i :: x :: st => if ev_isY x = true then (match ev_strs[x.2.toNat / 2 - 1]? with
    | some r => if i.1 = 0 ∧ 0 ≤ (Int32.ofInt i.2).toInt ∧ (Int32.ofInt i.2).toInt < (r.2.2.2.length : Int) then some [ev_adv S 1 ((0, (r.2.2.2.getD (Int32.ofInt i.2).toNatClampNeg 0).toInt) :: st)] else none
    | none => none) else none
  | _ => none)
theorem ev_baloadS_ok : ev_Snd ev_baloadS := by
  intro p l e R s m args below meth c cc Q D A g0 P t S i n cs Ss X h1 hd hw h2 hk g ws H locs ls sc hle hR
  obtain ⟨hx, hb, hml, hown, hts, hK, hA, hN, hini, hcC, hcS, hf, hlc, hscr⟩ := X
  obtain ⟨pc, L, st, w, K, ce, sl⟩ := S
  have h1 : some ((.baload : Instr), (1 : Nat), ([] : List Cond)) = some (i, n, cs) := h1
  cases h1
  unfold ev_baloadS at h2
  dsimp only at h2
  split at h2
  · rename_i i x st'
    split at h2
    · rename_i hc
      split at h2
      · rename_i r hr
        split at h2
        · rename_i hi
          cases h2
          obtain ⟨hP, hD, hS, hW, hB, hL, hs⟩ := hR
          obtain ⟨vi, sc1, rfl, hvi, hs1⟩ := ev_s_cons hs
          obtain ⟨vx, sc2, rfl, hvx, hs2⟩ := ev_s_cons hs1
          obtain ⟨r', hr', rfl⟩ := ev_isY_ok hc hvx
          obtain ⟨it, iv⟩ := i
          have hi0 : it = 0 := hi.1
          subst hi0
          have hvi : vi = .int (Int32.ofInt iv) := (Option.some.inj hvi).symm
          subst hvi
          have e0 : g.2.1 = g0.2.1 := hle.2.1
          rw [e0]
          exact va_tb hx hb (hN.2.2.1 _ r hr).2.2.2 hS (by rw [vp_in_iff]; exact hi.2) rfl hd (hk _ (List.mem_singleton.mpr rfl) g ws H locs ls _ hle ⟨hP, hD, hS, hW, hB, hL, ev_v0 g _, hs2⟩)
        · cases h2
      · cases h2
    · cases h2
  · cases h2
def ev_i2c : ev_O := (fun _ _ => some (.i2c, 1, []), fun _ _ S => ev_una (fun x => (x.toUInt32 % 65536).toInt32) 1 ev_full S)
theorem ev_i2c_ok : ev_Snd ev_i2c := by
  intro p l e R s m args below meth c cc Q D A g0 P t S i n cs Ss X h1 hd hw h2 hk g ws H locs ls sc hle hR
  obtain ⟨hx, hb, hml, hown, hts, hK, hA, hN, hini, hcC, hcS, hf, hlc, hscr⟩ := X
  obtain ⟨pc, L, st, w, K, ce, sl⟩ := S
  have h1 : some ((.i2c : Instr), (1 : Nat), ([] : List Cond)) = some (i, n, cs) := h1
  cases h1
  obtain ⟨x0, rest, S', rfl, rfl, e1, e2, g', l1, hR'⟩ := ev_una_ok (fun x => (x.toUInt32 % 65536).toInt32) ev_full (fun _ => ev_full_ok _) (show ev_una (fun x => (x.toUInt32 % 65536).toInt32) 1 ev_full (pc, L, st, w, K, ce, sl) = some Ss from h2) hR
  exact lv_i2c hx hb hd rfl (ev_Go_eq (hk S' (List.mem_singleton.mpr rfl)) e1 e2 (ev_le_tr hle l1) hR')

/-! longs -/
def ev_binL (f : Int64 → Int64 → Int64) (nz : Bool) (S : ev_S) : Option (List ev_S) := match S.2.2.1 with
  | y :: x :: st =>
    if ev_isL x = true ∧ ev_isL y = true then
      (if x.1 = 4 ∧ y.1 = 4 then (if nz = false ∨ ¬ Int64.ofInt y.2 = 0 then some [ev_adv S 1 ((4, (f (Int64.ofInt x.2) (Int64.ofInt y.2)).toInt) :: st)] else none)
       else if nz = false then some [ev_advK S 1 ((6, (S.2.2.2.2.1.length : Int)) :: st) ev_full] else none)
    else none
  | _ => none
theorem ev_binL_ok (f : Int64 → Int64 → Int64) (nz : Bool) {pc : Nat} {L : List (Nat × ev_A)} {st : List ev_A} {w : List ev_C} {K : ev_K} {ce sl : Nat} {Ss : List ev_S} (h : ev_binL f nz (pc, L, st, w, K, ce, sl) = some Ss)
    {s : State} {A : Nat → Prop} {D : va_G} {nL : Nat} {g : ev_G} {ws : va_W} {H : Heap} {locs : List Loc} {ls : Array Slot} {sc : List Value} (hR : ev_R s A D nL g (pc, L, st, w, K, ce, sl) ws H locs ls sc) :
    ∃ (x y : Int64) (rest : List Value) (S' : ev_S), sc = .long y :: .long x :: rest ∧ (nz = false ∨ ¬ y = 0) ∧ Ss = [S'] ∧ S'.1 = pc + 1 ∧ S'.2.2.2.2.2 = (ce, sl) ∧ ∃ g', ev_le g g' ∧ ev_R s A D nL g' S' ws H locs ls (.long (f x y) :: rest) := by
  unfold ev_binL at h
  split at h
  · rename_i y x st' e
    dsimp only at e
    subst e
    split at h
    · rename_i hi
      have hR0 := hR
      obtain ⟨hP, hD, hS, hW, hB, hL, hs⟩ := hR0
      obtain ⟨vy, sc1, rfl, hvy, hs1⟩ := ev_s_cons hs
      obtain ⟨vx, sc2, rfl, hvx, hs2⟩ := ev_s_cons hs1
      obtain ⟨y0, rfl⟩ := ev_vL hi.2 hvy
      obtain ⟨x0, rfl⟩ := ev_vL hi.1 hvx
      split at h
      · rename_i hz
        split at h
        · rename_i hy
          cases h
          obtain ⟨xt, xn⟩ := x
          obtain ⟨yt, yn⟩ := y
          obtain ⟨rfl, rfl⟩ := hz
          have ex : Int64.ofInt xn = x0 := Value.long.inj (Option.some.inj hvx)
          have ey : Int64.ofInt yn = y0 := Value.long.inj (Option.some.inj hvy)
          dsimp only at hy ⊢
          rw [ex, ey]
          exact ⟨x0, y0, sc2, _, rfl, by rw [← ey]; exact hy, rfl, rfl, rfl, g, ev_le_rf g, hP, hD, hS, hW, hB, hL, ev_v4 g _, hs2⟩
        · cases h
      · split at h
        · rename_i hz
          cases h
          obtain ⟨g', l1, ⟨hP, hD, hS, hW, hB, hL, hs⟩, e1⟩ := ev_fresh hR (.long (f x0 y0)) ev_full (fun z hz => by cases hz)
          exact ⟨x0, y0, sc2, _, rfl, Or.inl hz, rfl, rfl, rfl, g', l1, hP, hD, hS, hW, hB, hL, ev_v6 e1, hs.2.2⟩
        · cases h
    · cases h
  · cases h

def ev_ladd : ev_O := (fun _ _ => some (.ladd, 1, []), fun _ _ S => ev_binL (fun x y => x + y) false S)
theorem ev_ladd_ok : ev_Snd ev_ladd := by
  intro p l e R s m args below meth c cc Q D A g0 P t S i n cs Ss X h1 hd hw h2 hk g ws H locs ls sc hle hR
  obtain ⟨hx, hb, hml, hown, hts, hK, hA, hN, hini, hcC, hcS, hf, hlc, hscr⟩ := X
  obtain ⟨pc, L, st, w, K, ce, sl⟩ := S
  have h1 : some ((.ladd : Instr), (1 : Nat), ([] : List Cond)) = some (i, n, cs) := h1
  cases h1
  obtain ⟨x0, y0, rest, S', rfl, hy, rfl, e1, e2, g', l1, hR'⟩ := ev_binL_ok (fun x y => x + y) false (show ev_binL (fun x y => x + y) false (pc, L, st, w, K, ce, sl) = some Ss from h2) hR
  exact lv_ladd hx hb hd (ev_Go_eq (hk S' (List.mem_singleton.mpr rfl)) e1 e2 (ev_le_tr hle l1) hR')

def ev_lsub : ev_O := (fun _ _ => some (.lsub, 1, []), fun _ _ S => ev_binL (fun x y => x - y) false S)
theorem ev_lsub_ok : ev_Snd ev_lsub := by
  intro p l e R s m args below meth c cc Q D A g0 P t S i n cs Ss X h1 hd hw h2 hk g ws H locs ls sc hle hR
  obtain ⟨hx, hb, hml, hown, hts, hK, hA, hN, hini, hcC, hcS, hf, hlc, hscr⟩ := X
  obtain ⟨pc, L, st, w, K, ce, sl⟩ := S
  have h1 : some ((.lsub : Instr), (1 : Nat), ([] : List Cond)) = some (i, n, cs) := h1
  cases h1
  obtain ⟨x0, y0, rest, S', rfl, hy, rfl, e1, e2, g', l1, hR'⟩ := ev_binL_ok (fun x y => x - y) false (show ev_binL (fun x y => x - y) false (pc, L, st, w, K, ce, sl) = some Ss from h2) hR
  exact lv_lsub hx hb hd (ev_Go_eq (hk S' (List.mem_singleton.mpr rfl)) e1 e2 (ev_le_tr hle l1) hR')

def ev_lmul : ev_O := (fun _ _ => some (.lmul, 1, []), fun _ _ S => ev_binL (fun x y => x * y) false S)
theorem ev_lmul_ok : ev_Snd ev_lmul := by
  intro p l e R s m args below meth c cc Q D A g0 P t S i n cs Ss X h1 hd hw h2 hk g ws H locs ls sc hle hR
  obtain ⟨hx, hb, hml, hown, hts, hK, hA, hN, hini, hcC, hcS, hf, hlc, hscr⟩ := X
  obtain ⟨pc, L, st, w, K, ce, sl⟩ := S
  have h1 : some ((.lmul : Instr), (1 : Nat), ([] : List Cond)) = some (i, n, cs) := h1
  cases h1
  obtain ⟨x0, y0, rest, S', rfl, hy, rfl, e1, e2, g', l1, hR'⟩ := ev_binL_ok (fun x y => x * y) false (show ev_binL (fun x y => x * y) false (pc, L, st, w, K, ce, sl) = some Ss from h2) hR
  exact lv_lmul hx hb hd (ev_Go_eq (hk S' (List.mem_singleton.mpr rfl)) e1 e2 (ev_le_tr hle l1) hR')

def ev_ldiv : ev_O := (fun _ _ => some (.ldiv, 1, []), fun _ _ S => ev_binL (fun x y => x / y) true S)
theorem ev_ldiv_ok : ev_Snd ev_ldiv := by
  intro p l e R s m args below meth c cc Q D A g0 P t S i n cs Ss X h1 hd hw h2 hk g ws H locs ls sc hle hR
  obtain ⟨hx, hb, hml, hown, hts, hK, hA, hN, hini, hcC, hcS, hf, hlc, hscr⟩ := X
  obtain ⟨pc, L, st, w, K, ce, sl⟩ := S
  have h1 : some ((.ldiv : Instr), (1 : Nat), ([] : List Cond)) = some (i, n, cs) := h1
  cases h1
  obtain ⟨x0, y0, rest, S', rfl, hy, rfl, e1, e2, g', l1, hR'⟩ := ev_binL_ok (fun x y => x / y) true (show ev_binL (fun x y => x / y) true (pc, L, st, w, K, ce, sl) = some Ss from h2) hR
  exact lv_ldiv hx hb hd (by rcases hy with hy | hy; cases hy; exact hy) (ev_Go_eq (hk S' (List.mem_singleton.mpr rfl)) e1 e2 (ev_le_tr hle l1) hR')

def ev_lrem : ev_O := (fun _ _ => some (.lrem, 1, []), fun _ _ S => ev_binL (fun x y => x - x / y * y) true S)
theorem ev_lrem_ok : ev_Snd ev_lrem := by
  intro p l e R s m args below meth c cc Q D A g0 P t S i n cs Ss X h1 hd hw h2 hk g ws H locs ls sc hle hR
  obtain ⟨hx, hb, hml, hown, hts, hK, hA, hN, hini, hcC, hcS, hf, hlc, hscr⟩ := X
  obtain ⟨pc, L, st, w, K, ce, sl⟩ := S
  have h1 : some ((.lrem : Instr), (1 : Nat), ([] : List Cond)) = some (i, n, cs) := h1
  cases h1
  obtain ⟨x0, y0, rest, S', rfl, hy, rfl, e1, e2, g', l1, hR'⟩ := ev_binL_ok (fun x y => x - x / y * y) true (show ev_binL (fun x y => x - x / y * y) true (pc, L, st, w, K, ce, sl) = some Ss from h2) hR
  exact lv_lrem hx hb hd (by rcases hy with hy | hy; cases hy; exact hy) (ev_Go_eq (hk S' (List.mem_singleton.mpr rfl)) e1 e2 (ev_le_tr hle l1) hR')

def ev_ldc2 : ev_O := (fun P t => some (.ldc2_w t.2.1.toNat, 3, [.constantLong P.2.2.2.1 t.2.1.toNat (Int64.ofInt t.1)]), fun _ t S => some [ev_adv S 3 ((4, (Int64.ofInt t.1).toInt) :: S.2.2.1)])
theorem ev_ldc2_ok : ev_Snd ev_ldc2 := by
  intro p l e R s m args below meth c cc Q D A g0 P t S i n cs Ss X h1 hd hw h2 hk g ws H locs ls sc hle hR
  obtain ⟨hx, hb, hml, hown, hts, hK, hA, hN, hini, hcC, hcS, hf, hlc, hscr⟩ := X
  obtain ⟨pc, L, st, w, K, ce, sl⟩ := S
  have h1 : some ((.ldc2_w t.2.1.toNat : Instr), (3 : Nat), ([.constantLong P.2.2.2.1 t.2.1.toNat (Int64.ofInt t.1)] : List Cond)) = some (i, n, cs) := h1
  cases h1
  have h2 : some [ev_adv (pc, L, st, w, K, ce, sl) 3 ((4, (Int64.ofInt t.1).toInt) :: st)] = some Ss := h2
  cases h2
  obtain ⟨hP, hD, hS, hW, hB, hL, hs⟩ := hR
  exact W.ldc2 hx hb hown (hts _ (hw _ (List.mem_singleton.mpr rfl))) (g := F0 m pc ls sc) rfl hd (hk _ (List.mem_singleton.mpr rfl) g ws H locs ls _ hle ⟨hP, hD, hS, hW, hB, hL, ev_v4 g _, hs⟩)

/-- a static of which only this is known: null, or a cell -/
def ev_getsF : ev_O := (fun P t => some (.getstatic t.1.toNat, 3, [.fieldLink P.2.2.2.1 t.1.toNat "jdk/internal/util/Preconditions" "SIOOBE_FORMATTER" "Ljava/util/function/BiFunction;"]), fun _ _ S => some [ev_advK S 3 ((7, (S.2.2.2.2.1.length : Int)) :: S.2.2.1) ev_full])
theorem ev_getsF_ok : ev_Snd ev_getsF := by
  intro p l e R s m args below meth c cc Q D A g0 P t S i n cs Ss X h1 hd hw h2 hk g ws H locs ls sc hle hR
  obtain ⟨hx, hb, hml, hown, hts, hK, hA, hN, hini, hcC, hcS, hf, hlc, hscr⟩ := X
  obtain ⟨pc, L, st, w, K, ce, sl⟩ := S
  have h1 : some ((.getstatic t.1.toNat : Instr), (3 : Nat), ([.fieldLink P.2.2.2.1 t.1.toNat "jdk/internal/util/Preconditions" "SIOOBE_FORMATTER" "Ljava/util/function/BiFunction;"] : List Cond)) = some (i, n, cs) := h1
  cases h1
  have h2 : some [ev_advK (pc, L, st, w, K, ce, sl) 3 ((7, (K.length : Int)) :: st) ev_full] = some Ss := h2
  cases h2
  rcases hN.2.2.2.2 with hz | ⟨q, hz⟩
  · obtain ⟨g', l1, ⟨hP, hD, hS, hW, hB, hL, hs⟩, e1⟩ := ev_fresh hR .null ev_full (fun z hz => by cases hz)
    exact va_gets hx hb hz hS hown (hts _ (hw _ (List.mem_singleton.mpr rfl))) (fun _ h => h) hd (hk _ (List.mem_singleton.mpr rfl) g' ws H locs ls _ (ev_le_tr hle l1) ⟨hP, hD, hS, hW, hB, hL, by simp [ev_v, e1], hs⟩)
  · obtain ⟨g', l1, ⟨hP, hD, hS, hW, hB, hL, hs⟩, e1⟩ := ev_fresh hR (.ref q) ev_full (fun z hz => by cases hz)
    exact va_gets hx hb hz hS hown (hts _ (hw _ (List.mem_singleton.mpr rfl))) (fun _ h => h) hd (hk _ (List.mem_singleton.mpr rfl) g' ws H locs ls _ (ev_le_tr hle l1) ⟨hP, hD, hS, hW, hB, hL, by simp [ev_v, e1], hs⟩)

def ev_ldcw : ev_O := (fun P t => some (.ldc_w t.2.1.toNat, 3, [.constant P.2.2.2.1 t.2.1.toNat (Int32.ofInt t.1)]), fun _ t S => some [ev_adv S 3 ((0, (Int32.ofInt t.1).toInt) :: S.2.2.1)])
theorem ev_ldcw_ok : ev_Snd ev_ldcw := by
  intro p l e R s m args below meth c cc Q D A g0 P t S i n cs Ss X h1 hd hw h2 hk g ws H locs ls sc hle hR
  obtain ⟨hx, hb, hml, hown, hts, hK, hA, hN, hini, hcC, hcS, hf, hlc, hscr⟩ := X
  obtain ⟨pc, L, st, w, K, ce, sl⟩ := S
  have h1 : some ((.ldc_w t.2.1.toNat : Instr), (3 : Nat), ([.constant P.2.2.2.1 t.2.1.toNat (Int32.ofInt t.1)] : List Cond)) = some (i, n, cs) := h1
  cases h1
  have h2 : some [ev_adv (pc, L, st, w, K, ce, sl) 3 ((0, (Int32.ofInt t.1).toInt) :: st)] = some Ss := h2
  cases h2
  obtain ⟨hP, hD, hS, hW, hB, hL, hs⟩ := hR
  exact lv_ldcw hx hb hown (hts _ (hw _ (List.mem_singleton.mpr rfl))) hd (hk _ (List.mem_singleton.mpr rfl) g ws H locs ls _ hle ⟨hP, hD, hS, hW, hB, hL, ev_v0 g _, hs⟩)

