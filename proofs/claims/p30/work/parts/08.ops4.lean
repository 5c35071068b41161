/-! cells -/
theorem ev_ref1 {s : State} {g : ev_G} {w : List ev_C} {ws : va_W} {a : ev_A} {v : Value} {cl : ev_C} (hW : ev_w s g w ws) (ht : a.1 = 1) (hv : ev_v g a = some v) (hc : w[a.2.toNat]? = some cl) : ∃ ad x, v = .ref ad ∧ ws[a.2.toNat]? = some (ad, x) ∧ ev_c s g cl x := by
  obtain ⟨t, n⟩ := a
  have ht : t = 1 := ht
  subst ht
  simp only [ev_v] at hv
  cases hq : g.1[n.toNat]? with
  | none => simp [hq] at hv
  | some ad =>
    simp only [hq, Option.map_some] at hv
    cases hv
    rw [hW.1, List.getElem?_map] at hq
    cases hz : ws[n.toNat]? with
    | none => simp [hz] at hq
    | some z =>
      simp only [hz, Option.map_some] at hq
      cases hq
      exact ⟨z.1, z.2, rfl, rfl, hW.2.2 _ cl z hc hz⟩
theorem ev_w_set {s : State} {g : ev_G} {w : List ev_C} {ws : va_W} {q ad : Nat} {x0 x : va_E} {cl : ev_C} (hW : ev_w s g w ws) (hq : ws[q]? = some (ad, x0)) (hc : ev_c s g cl x) : ev_w s g (w.set q cl) (ws.set q (ad, x)) := by
  have hl := (List.getElem?_eq_some_iff.mp hq).1
  refine ⟨?_, by rw [List.length_set, List.length_set]; exact hW.2.1, fun k c z h1 h2 => ?_⟩
  · rw [hW.1]
    apply List.ext_getElem?
    intro j
    rw [List.getElem?_map, List.getElem?_map]
    by_cases hj : j = q
    · subst hj
      rw [List.getElem?_set_self hl, hq]
      rfl
    · rw [List.getElem?_set_ne (Ne.symm hj)]
  · by_cases hk : k = q
    · subst hk
      have hl2 : k < w.length := by rw [hW.2.1]; exact hl
      rw [List.getElem?_set_self hl2] at h1
      rw [List.getElem?_set_self hl] at h2
      cases h1
      cases h2
      exact hc
    · rw [List.getElem?_set_ne (Ne.symm hk)] at h1 h2
      exact hW.2.2 k c z h1 h2
theorem ev_w_push {s : State} {g : ev_G} {w : List ev_C} {ws : va_W} {ad : Nat} {x : va_E} {cl : ev_C} (hW : ev_w s g w ws) (hc : ev_c s (g.1 ++ [ad], g.2.1, g.2.2) cl x) : ev_le g (g.1 ++ [ad], g.2.1, g.2.2) ∧ ev_w s (g.1 ++ [ad], g.2.1, g.2.2) (w ++ [cl]) (ws ++ [(ad, x)]) ∧ ev_v (g.1 ++ [ad], g.2.1, g.2.2) (1, (w.length : Int)) = some (.ref ad) := by
  have hle : ev_le g (g.1 ++ [ad], g.2.1, g.2.2) := ⟨⟨[ad], rfl⟩, rfl, ⟨[], by simp⟩⟩
  have hlg : g.1.length = w.length := by rw [hW.1, List.length_map, hW.2.1]
  refine ⟨hle, ⟨by rw [List.map_append]; dsimp only; rw [hW.1]; rfl, by rw [List.length_append, List.length_append, hW.2.1]; rfl, fun k c z h1 h2 => ?_⟩, ?_⟩
  · by_cases hk : k < w.length
    · rw [List.getElem?_append_left hk] at h1
      rw [List.getElem?_append_left (by rw [← hW.2.1]; exact hk)] at h2
      exact ev_c_le hle (hW.2.2 k c z h1 h2)
    · rw [List.getElem?_append_right (by omega)] at h1
      rw [List.getElem?_append_right (by have := hW.2.1; omega)] at h2
      have hz : k - w.length < 1 := (List.getElem?_eq_some_iff.mp h1).1
      have h3 : k - w.length = 0 := by omega
      have h4 : k - ws.length = 0 := by have := hW.2.1; omega
      rw [h3] at h1
      rw [h4] at h2
      cases h1
      cases h2
      exact hc
  · simp [ev_v, ← hlg]
/-! fields -/
def ev_fc (own : String) (idx : Nat) (ci k : Nat) : Option (List Cond) := match vwCl[ci]? with
  | some r => some [.fieldLink own idx (r.2.1 k).1 (r.2.1 k).2.1 (r.2.1 k).2.2.1]
  | none => none
def ev_get : ev_O := (fun P t => match vwCl[t.1.toNat]? with
  | some r => some (.getfield t.2.2.1.toNat, 3, [.fieldLink P.2.2.2.1 t.2.2.1.toNat (r.2.1 t.2.1.toNat).1 (r.2.1 t.2.1.toNat).2.1 (r.2.1 t.2.1.toNat).2.2.1])
  | none => none, fun _ t S => match S.2.2.1 with
  | x :: st => (match S.2.2.2.1[x.2.toNat]?, vwCl[t.1.toNat]? with
    | some cl, some r => if x.1 = 1 ∧ cl.1 = t.1.toNat ∧ t.2.1.toNat < r.2.2 then (match cl.2[t.2.1.toNat]? with
      | some a => some [ev_adv S 3 (a :: st)]
      | none => none) else none
    | _, _ => none)
  | [] => none)
theorem ev_get_ok : ev_Snd ev_get := by
  intro p l e R s m args below meth c cc Q D A g0 P t S i n cs Ss X h1 hd hw h2 hk g ws H locs ls sc hle hR
  obtain ⟨hx, hb, hml, hown, hts, hK, hA, hN, hini, hcC, hcS, hf, hlc, hscr⟩ := X
  obtain ⟨pc, L, st, w, K, ce, sl⟩ := S
  obtain ⟨t1, t2, t3, t4⟩ := t
  unfold ev_get at h1 h2
  dsimp only at h1 h2
  cases hr : vwCl[t1.toNat]? with
  | none => simp [hr] at h1
  | some r =>
    rw [hr] at h1 h2
    dsimp only at h1
    cases h1
    cases st with
    | nil => cases h2
    | cons x st' =>
      dsimp only at h2
      split at h2
      · rename_i cl r' hcl hr'
        cases hr'
        split at h2
        · rename_i hc
          obtain ⟨hc1, hc2, hc3⟩ := hc
          split at h2
          · rename_i a ha
            cases h2
            obtain ⟨hP, hD, hS, hW, hB, hL, hs⟩ := hR
            obtain ⟨vx, sc2, rfl, hvx, hs2⟩ := ev_s_cons hs
            obtain ⟨ad, x0, rfl, hws, hcc⟩ := ev_ref1 hW hc1 hvx hcl
            cases x0 with
            | inl z =>
              obtain ⟨tt, b1, b2, -⟩ := hcc
              have : t1.toNat < 10 := (List.getElem?_eq_some_iff.mp hr).1
              omega
            | inr o =>
              obtain ⟨ci, fs⟩ := o
              obtain ⟨b1, b2, b3, b4⟩ := hcc
              dsimp only at b1 b3 b4
              obtain ⟨v, d1, d2⟩ := b4 _ a ha
              have hci : vwCl[ci]? = some r := by rw [← b1, hc2]; exact hr
              obtain ⟨ty, hty⟩ : ∃ ty, ev_tyl[ci]? = some ty := ⟨_, List.getElem?_eq_getElem (show ci < ev_tyl.length from (List.getElem?_eq_some_iff.mp hci).1)⟩
              exact va_get hx hb hts (ev_cls ci r ty hci hty).1 hown hK hP _ hws hci t2.toNat hc3 (hts _ (hw _ (List.mem_singleton.mpr rfl))) (fun _ h => h) d2 hd (hk _ (List.mem_singleton.mpr rfl) g ws H locs ls _ hle ⟨hP, hD, hS, hW, hB, hL, d1, hs2⟩)
          · cases h2
        · cases h2
      · cases h2
/-- a value that a field of this type may hold -/
def ev_fit (ty : FieldType) (a : ev_A) : Bool := match ty with
  | .int => ev_isI a
  | .long => ev_isL a
  | .boolean => a.1 == 0 && (a.2 == 0 || a.2 == 1)
  | .char => a.1 == 0 && (decide (0 ≤ a.2) && decide (a.2.toNat < 65536))
  | .byte => a.1 == 0 && a.2 == 0
  | .object _ => a.1 == 1 || a.1 == 2 || a.1 == 5
  | .array _ => a.1 == 1 || a.1 == 2 || a.1 == 5
  | _ => false
theorem ev_vN {g : ev_G} {a : ev_A} {v : Value} (h : (a.1 == 1 || a.1 == 2 || a.1 == 5) = true) (hv : ev_v g a = some v) : v = .null ∨ ∃ x : Nat, v = .ref x := by
  by_cases h2 : a.1 = 2
  · obtain ⟨t, n⟩ := a
    have h2 : t = 2 := h2
    subst h2
    exact Or.inl (Option.some.inj hv).symm
  · refine Or.inr (ev_vR ?_ hv)
    simp only [Bool.or_eq_true, beq_iff_eq] at h
    simp only [ev_isR, Bool.or_eq_true, beq_iff_eq]
    rcases h with (h | h) | h
    · exact Or.inl h
    · exact absurd h h2
    · exact Or.inr h
theorem ev_fit_ok {ty : FieldType} {a : ev_A} {g : ev_G} {v : Value} (h : ev_fit ty a = true) (hv : ev_v g a = some v) : narrow ty v = v ∧ fits ty v = true := by
  unfold ev_fit at h
  split at h
  · obtain ⟨x, rfl⟩ := ev_vI h hv
    exact ⟨rfl, rfl⟩
  · obtain ⟨x, rfl⟩ := ev_vL h hv
    exact ⟨rfl, rfl⟩
  · obtain ⟨t, n⟩ := a
    simp only [Bool.and_eq_true, Bool.or_eq_true, beq_iff_eq] at h
    obtain ⟨rfl, h⟩ := h
    have hv := Option.some.inj hv
    rcases h with rfl | rfl
    · subst hv
      exact ⟨by decide, by decide⟩
    · subst hv
      exact ⟨by decide, by decide⟩
  · obtain ⟨t, n⟩ := a
    simp only [Bool.and_eq_true, beq_iff_eq, decide_eq_true_eq] at h
    obtain ⟨rfl, h0, h1⟩ := h
    have hv := Option.some.inj hv
    subst hv
    dsimp only at h0 h1 ⊢
    have e : Int32.ofInt n = nI n.toNat := by
      have : n = ((n.toNat : Nat) : Int) := by omega
      rw [this]
      rfl
    rw [e]
    exact pk_charN h1
  · obtain ⟨t, n⟩ := a
    simp only [Bool.and_eq_true, beq_iff_eq] at h
    obtain ⟨rfl, rfl⟩ := h
    have hv := Option.some.inj hv
    subst hv
    exact ⟨by decide, by decide⟩
  · rcases ev_vN h hv with rfl | ⟨x, rfl⟩ <;> exact ⟨rfl, rfl⟩
  · rcases ev_vN h hv with rfl | ⟨x, rfl⟩ <;> exact ⟨rfl, rfl⟩
  · cases h

def ev_put : ev_O := (fun P t => match vwCl[t.1.toNat]? with
  | some r => some (.putfield t.2.2.1.toNat, 3, [.fieldLink P.2.2.2.1 t.2.2.1.toNat (r.2.1 t.2.1.toNat).1 (r.2.1 t.2.1.toNat).2.1 (r.2.1 t.2.1.toNat).2.2.1])
  | none => none, fun P t S => match S.2.2.1 with
  | a :: x :: st => (match S.2.2.2.1[x.2.toNat]?, vwCl[t.1.toNat]?, ev_tyl[t.1.toNat]? with
    | some cl, some r, some ty => if x.1 = 1 ∧ cl.1 = t.1.toNat ∧ t.2.1.toNat < r.2.2 ∧ t.2.1.toNat < cl.2.length ∧ ev_fit (ty t.2.1.toNat) a = true ∧ ((r.2.1 t.2.1.toNat).2.2.2 = false) then some [(S.1 + 3, S.2.1, st, S.2.2.2.1.set x.2.toNat (cl.1, cl.2.set t.2.1.toNat a), S.2.2.2.2)] else none
    | _, _, _ => none)
  | _ => none)
theorem ev_put_ok : ev_Snd ev_put := by
  intro p l e R s m args below meth c cc Q D A g0 P t S i n cs Ss X h1 hd hw h2 hk g ws H locs ls sc hle hR
  obtain ⟨hx, hb, hml, hown, hts, hK, hA, hN, hini, hcC, hcS, hf, hlc, hscr⟩ := X
  obtain ⟨pc, L, st, w, K, ce, sl⟩ := S
  obtain ⟨t1, t2, t3, t4⟩ := t
  unfold ev_put at h1 h2
  dsimp only at h1 h2
  cases hr : vwCl[t1.toNat]? with
  | none => simp [hr] at h1
  | some r =>
    rw [hr] at h1 h2
    dsimp only at h1
    cases h1
    split at h2
    · rename_i a x st'
      split at h2
      · rename_i cl r' ty hcl hr' hty
        cases hr'
        split at h2
        · rename_i hc
          obtain ⟨hc1, hc2, hc3, hlen, hft, hfin⟩ := hc
          cases h2
          obtain ⟨hP, hD, hS, hW, hB, hL, hs⟩ := hR
          obtain ⟨va, sc1, rfl, hva, hs1⟩ := ev_s_cons hs
          obtain ⟨vx, sc2, rfl, hvx, hs2⟩ := ev_s_cons hs1
          obtain ⟨ad, x0, rfl, hws, hcc⟩ := ev_ref1 hW hc1 hvx hcl
          cases x0 with
          | inl z =>
            obtain ⟨tt, b1, b2, -⟩ := hcc
            have : t1.toNat < 10 := (List.getElem?_eq_some_iff.mp hr).1
            omega
          | inr o =>
            obtain ⟨ci, fs⟩ := o
            obtain ⟨b1, b2, b3, b4⟩ := hcc
            dsimp only at b1 b3 b4
            have hci : vwCl[ci]? = some r := by rw [← b1, hc2]; exact hr
            have hty : ev_tyl[ci]? = some ty := by rw [← b1, hc2]; exact hty
            obtain ⟨k1, k2, k3, -⟩ := ev_cls ci r ty hci hty
            obtain ⟨hn, hfit⟩ := ev_fit_ok hft hva
            refine va_put hx hb hts k1 ty k2 k3 hown hK hP hD hS _ hws hci t2.toNat hc3 (hts _ (hw _ (List.mem_singleton.mpr rfl))) (fun _ h => h) hfin (k2 _ hc3) hn hfit (by rw [b3]; exact hlen) hd (fun H1 locs1 hP1 hD1 hS1 => hk _ (List.mem_singleton.mpr rfl) g _ H1 locs1 ls _ hle ⟨hP1, hD1, hS1, ev_w_set hW hws ⟨b1, b2, by rw [List.length_set, List.length_set]; exact b3, fun j a' hj => ?_⟩, hB, hL, hs2⟩)
            dsimp only at hj ⊢
            by_cases hjk : j = t2.toNat
            · subst hjk
              rw [List.getElem?_set_self hlen] at hj
              cases hj
              exact ⟨va, hva, List.getElem?_set_self (by rw [b3]; exact hlen)⟩
            · rw [List.getElem?_set_ne (Ne.symm hjk)] at hj
              obtain ⟨v, d1, d2⟩ := b4 j a' hj
              exact ⟨v, d1, by rw [List.getElem?_set_ne (Ne.symm hjk)]; exact d2⟩
        · cases h2
      · cases h2
    · cases h2

def ev_putF : ev_O := (fun P t => match vwCl[t.1.toNat]? with
  | some r => some (.putfield t.2.2.1.toNat, 3, [.fieldLink P.2.2.2.1 t.2.2.1.toNat (r.2.1 t.2.1.toNat).1 (r.2.1 t.2.1.toNat).2.1 (r.2.1 t.2.1.toNat).2.2.1])
  | none => none, fun P t S => match S.2.2.1 with
  | a :: x :: st => (match S.2.2.2.1[x.2.toNat]?, vwCl[t.1.toNat]?, ev_tyl[t.1.toNat]? with
    | some cl, some r, some ty => if x.1 = 1 ∧ cl.1 = t.1.toNat ∧ t.2.1.toNat < r.2.2 ∧ t.2.1.toNat < cl.2.length ∧ ev_fit (ty t.2.1.toNat) a = true ∧ ((r.2.1 t.2.1.toNat).2.2.2 = true ∧ P.2.2.1 = true ∧ (r.2.1 t.2.1.toNat).1 = P.2.2.2.1) then some [(S.1 + 3, S.2.1, st, S.2.2.2.1.set x.2.toNat (cl.1, cl.2.set t.2.1.toNat a), S.2.2.2.2)] else none
    | _, _, _ => none)
  | _ => none)
theorem ev_putF_ok : ev_Snd ev_putF := by
  intro p l e R s m args below meth c cc Q D A g0 P t S i n cs Ss X h1 hd hw h2 hk g ws H locs ls sc hle hR
  obtain ⟨hx, hb, hml, hown, hts, hK, hA, hN, hini, hcC, hcS, hf, hlc, hscr⟩ := X
  obtain ⟨pc, L, st, w, K, ce, sl⟩ := S
  obtain ⟨t1, t2, t3, t4⟩ := t
  unfold ev_putF at h1 h2
  dsimp only at h1 h2
  cases hr : vwCl[t1.toNat]? with
  | none => simp [hr] at h1
  | some r =>
    rw [hr] at h1 h2
    dsimp only at h1
    cases h1
    split at h2
    · rename_i a x st'
      split at h2
      · rename_i cl r' ty hcl hr' hty
        cases hr'
        split at h2
        · rename_i hc
          obtain ⟨hc1, hc2, hc3, hlen, hft, hfin⟩ := hc
          cases h2
          obtain ⟨hP, hD, hS, hW, hB, hL, hs⟩ := hR
          obtain ⟨va, sc1, rfl, hva, hs1⟩ := ev_s_cons hs
          obtain ⟨vx, sc2, rfl, hvx, hs2⟩ := ev_s_cons hs1
          obtain ⟨ad, x0, rfl, hws, hcc⟩ := ev_ref1 hW hc1 hvx hcl
          cases x0 with
          | inl z =>
            obtain ⟨tt, b1, b2, -⟩ := hcc
            have : t1.toNat < 10 := (List.getElem?_eq_some_iff.mp hr).1
            omega
          | inr o =>
            obtain ⟨ci, fs⟩ := o
            obtain ⟨b1, b2, b3, b4⟩ := hcc
            dsimp only at b1 b3 b4
            have hci : vwCl[ci]? = some r := by rw [← b1, hc2]; exact hr
            have hty : ev_tyl[ci]? = some ty := by rw [← b1, hc2]; exact hty
            obtain ⟨k1, k2, k3, -⟩ := ev_cls ci r ty hci hty
            obtain ⟨hn, hfit⟩ := ev_fit_ok hft hva
            refine va_putF hx hb hts k1 ty k2 k3 hown hK hP hD hS _ hws hci t2.toNat hc3 (hts _ (hw _ (List.mem_singleton.mpr rfl))) (fun _ h => h) hfin.1 (hini hfin.2.1) hfin.2.2 (k2 _ hc3) hn hfit (by rw [b3]; exact hlen) hd (fun H1 locs1 hP1 hD1 hS1 => hk _ (List.mem_singleton.mpr rfl) g _ H1 locs1 ls _ hle ⟨hP1, hD1, hS1, ev_w_set hW hws ⟨b1, b2, by rw [List.length_set, List.length_set]; exact b3, fun j a' hj => ?_⟩, hB, hL, hs2⟩)
            dsimp only at hj ⊢
            by_cases hjk : j = t2.toNat
            · subst hjk
              rw [List.getElem?_set_self hlen] at hj
              cases hj
              exact ⟨va, hva, List.getElem?_set_self (by rw [b3]; exact hlen)⟩
            · rw [List.getElem?_set_ne (Ne.symm hjk)] at hj
              obtain ⟨v, d1, d2⟩ := b4 j a' hj
              exact ⟨v, d1, by rw [List.getElem?_set_ne (Ne.symm hjk)]; exact d2⟩
        · cases h2
      · cases h2
    · cases h2

/-! arrays -/
/-- an array's cell, at a number within it -/
def ev_ix (t : Nat) (x i : ev_A) (w : List ev_C) : Option (List ev_A × Nat) := match w[x.2.toNat]? with
  | some cl => if x.1 = 1 ∧ cl.1 = 100 + t ∧ i.1 = 0 ∧ 0 ≤ (Int32.ofInt i.2).toInt ∧ (Int32.ofInt i.2).toInt < (cl.2.length : Int) then some (cl.2, (Int32.ofInt i.2).toNatClampNeg) else none
  | none => none
theorem ev_ix_ok {t : Nat} (ht : t < 4) {x i : ev_A} {w : List ev_C} {cs : List ev_A} {j : Nat} (h : ev_ix t x i w = some (cs, j)) {s : State} {g : ev_G} {ws : va_W} (hW : ev_w s g w ws) {vx vi : Value} (hx : ev_v g x = some vx) (hi : ev_v g i = some vi) :
    ∃ (ad : Nat) (cA : ClassId) (n : Nat) (arr : (Nat → Int32) ⊕ (Nat → Int64) ⊕ (Nat → UInt32) ⊕ (Nat → UInt64) ⊕ (Nat → Option Nat)) (i0 : Int32), vx = .ref ad ∧ vi = .int i0 ∧ ws[x.2.toNat]? = some (ad, .inl (cA, n, arr)) ∧ n = cs.length ∧ vp_in i0 n ∧ i0.toNatClampNeg = j ∧ j < cs.length ∧ ArrOfT s cA (ev_ty t) ∧ va_RA s cA (ev_ty t) ∧ ev_ar g t cs arr ∧ w[x.2.toNat]? = some (100 + t, cs) := by
  unfold ev_ix at h
  split at h
  · rename_i cl hcl
    split at h
    · rename_i hc
      obtain ⟨h1, h2, h3, h4, h5⟩ := hc
      cases h
      obtain ⟨ad, x0, rfl, hws, hcc⟩ := ev_ref1 hW h1 hx hcl
      obtain ⟨it, iv⟩ := i
      have h3 : it = 0 := h3
      subst h3
      have hi : vi = .int (Int32.ofInt iv) := (Option.some.inj hi).symm
      subst hi
      cases x0 with
      | inr o =>
        obtain ⟨b1, b2, -⟩ := hcc
        omega
      | inl z =>
        obtain ⟨cA, n, arr⟩ := z
        obtain ⟨tt, b1, b2, b3, b4, b5, b6⟩ := hcc
        have : tt = t := by omega
        subst this
        dsimp only at b3 b4 b5 b6 h4 h5
        have hv : vp_in (Int32.ofInt iv) n := by rw [vp_in_iff, b3]; exact ⟨h4, h5⟩
        have hj : (Int32.ofInt iv).toNatClampNeg < cl.2.length := by
          have h9 := hv
          unfold vp_in at h9
          rw [b3] at h9
          exact Nat.lt_of_not_le (fun q => h9 (Or.inr q))
        exact ⟨ad, cA, n, arr, _, rfl, rfl, hws, b3, hv, rfl, hj, b4, b5, b6, by rw [hcl, ← h2]⟩
    · cases h
  · cases h
theorem ev_K1 {D : va_G} {s : State} {cA : ClassId} {ty : FieldType} (hK : va_K D vwCl [] s) (h1 : ArrOfT s cA ty) (h2 : va_RA s cA ty) : va_K D vwCl [(cA, ty)] s := ⟨hK.1, fun k q hk => by
  have hz : k < 1 := (List.getElem?_eq_some_iff.mp hk).1
  rw [show k = 0 by omega] at hk
  cases hk
  exact ⟨h1, h2⟩⟩

def ev_iaload : ev_O := (fun _ _ => some (.iaload, 1, []), fun _ _ S => match S.2.2.1 with
  | i :: x :: st => (match ev_ix 0 x i S.2.2.2.1 with
    | some (cs, j) => (match cs[j]? with
      | some a => some [ev_adv S 1 (a :: st)]
      | none => none)
    | none => none)
  | _ => none)
theorem ev_iaload_ok : ev_Snd ev_iaload := by
  intro p l e R s m args below meth c cc Q D A g0 P t S i n cs Ss X h1 hd hw h2 hk g ws H locs ls sc hle hR
  obtain ⟨hx, hb, hml, hown, hts, hK, hA, hN, hini, hcC, hcS, hf, hlc, hscr⟩ := X
  obtain ⟨pc, L, st, w, K, ce, sl⟩ := S
  have h1 : some ((.iaload : Instr), (1 : Nat), ([] : List Cond)) = some (i, n, cs) := h1
  cases h1
  unfold ev_iaload at h2
  dsimp only at h2
  split at h2
  · rename_i i x st'
    split at h2
    · rename_i cs j hix
      split at h2
      · rename_i a ha
        cases h2
        obtain ⟨hP, hD, hS, hW, hB, hL, hs⟩ := hR
        obtain ⟨vi, sc2, rfl, hvi, hs2⟩ := ev_s_cons hs
        obtain ⟨vx, sc3, rfl, hvx, hs3⟩ := ev_s_cons hs2
        obtain ⟨ad, cA, n, arr, i0, rfl, rfl, hws, hn, hv, hj, hjl, b4, b5, b6, hwc⟩ := ev_ix_ok (by decide) hix hW hvx hvi
        cases arr with
        | inl f =>
          exact va_iald hx hb (ev_K1 hK b4 b5) hP _ 0 hws rfl hv hd (hk _ (List.mem_singleton.mpr rfl) g ws H locs ls _ hle ⟨hP, hD, hS, hW, hB, hL, by rw [hj]; exact b6.2 j a ha, hs3⟩)
        | inr z => rcases z with z | z | z | z <;> first | exact b6.elim | (have := b6.1; omega)
      · cases h2
    · cases h2
  · cases h2

def ev_baload : ev_O := (fun _ _ => some (.baload, 1, []), fun _ _ S => match S.2.2.1 with
  | i :: x :: st => (match ev_ix 1 x i S.2.2.2.1 with
    | some (cs, j) => (match cs[j]? with
      | some a => some [ev_adv S 1 (a :: st)]
      | none => none)
    | none => none)
  | _ => none)
theorem ev_baload_ok : ev_Snd ev_baload := by
  intro p l e R s m args below meth c cc Q D A g0 P t S i n cs Ss X h1 hd hw h2 hk g ws H locs ls sc hle hR
  obtain ⟨hx, hb, hml, hown, hts, hK, hA, hN, hini, hcC, hcS, hf, hlc, hscr⟩ := X
  obtain ⟨pc, L, st, w, K, ce, sl⟩ := S
  have h1 : some ((.baload : Instr), (1 : Nat), ([] : List Cond)) = some (i, n, cs) := h1
  cases h1
  unfold ev_baload at h2
  dsimp only at h2
  split at h2
  · rename_i i x st'
    split at h2
    · rename_i cs j hix
      split at h2
      · rename_i a ha
        cases h2
        obtain ⟨hP, hD, hS, hW, hB, hL, hs⟩ := hR
        obtain ⟨vi, sc2, rfl, hvi, hs2⟩ := ev_s_cons hs
        obtain ⟨vx, sc3, rfl, hvx, hs3⟩ := ev_s_cons hs2
        obtain ⟨ad, cA, n, arr, i0, rfl, rfl, hws, hn, hv, hj, hjl, b4, b5, b6, hwc⟩ := ev_ix_ok (by decide) hix hW hvx hvi
        cases arr with
        | inl f =>
          exact va_bald hx hb (ev_K1 hK b4 b5) hP _ 0 hws rfl hv hd (hk _ (List.mem_singleton.mpr rfl) g ws H locs ls _ hle ⟨hP, hD, hS, hW, hB, hL, by rw [hj]; exact b6.2 j a ha, hs3⟩)
        | inr z => rcases z with z | z | z | z <;> first | exact b6.elim | (have := b6.1; omega)
      · cases h2
    · cases h2
  · cases h2

def ev_laload : ev_O := (fun _ _ => some (.laload, 1, []), fun _ _ S => match S.2.2.1 with
  | i :: x :: st => (match ev_ix 2 x i S.2.2.2.1 with
    | some (cs, j) => (match cs[j]? with
      | some a => some [ev_adv S 1 (a :: st)]
      | none => none)
    | none => none)
  | _ => none)
theorem ev_laload_ok : ev_Snd ev_laload := by
  intro p l e R s m args below meth c cc Q D A g0 P t S i n cs Ss X h1 hd hw h2 hk g ws H locs ls sc hle hR
  obtain ⟨hx, hb, hml, hown, hts, hK, hA, hN, hini, hcC, hcS, hf, hlc, hscr⟩ := X
  obtain ⟨pc, L, st, w, K, ce, sl⟩ := S
  have h1 : some ((.laload : Instr), (1 : Nat), ([] : List Cond)) = some (i, n, cs) := h1
  cases h1
  unfold ev_laload at h2
  dsimp only at h2
  split at h2
  · rename_i i x st'
    split at h2
    · rename_i cs j hix
      split at h2
      · rename_i a ha
        cases h2
        obtain ⟨hP, hD, hS, hW, hB, hL, hs⟩ := hR
        obtain ⟨vi, sc2, rfl, hvi, hs2⟩ := ev_s_cons hs
        obtain ⟨vx, sc3, rfl, hvx, hs3⟩ := ev_s_cons hs2
        obtain ⟨ad, cA, n, arr, i0, rfl, rfl, hws, hn, hv, hj, hjl, b4, b5, b6, hwc⟩ := ev_ix_ok (by decide) hix hW hvx hvi
        rcases arr with f | f | f | f | f
        · have := b6.1; omega
        · exact va_lald hx hb (ev_K1 hK b4 b5) hP _ 0 hws rfl hv hd (hk _ (List.mem_singleton.mpr rfl) g ws H locs ls _ hle ⟨hP, hD, hS, hW, hB, hL, by rw [hj]; exact b6.2 j a ha, hs3⟩)
        · exact b6.elim
        · exact b6.elim
        · have := b6.1; omega
      · cases h2
    · cases h2
  · cases h2

def ev_aaload : ev_O := (fun _ _ => some (.aaload, 1, []), fun _ _ S => match S.2.2.1 with
  | i :: x :: st => (match ev_ix 3 x i S.2.2.2.1 with
    | some (cs, j) => (match cs[j]? with
      | some a => some [ev_adv S 1 (a :: st)]
      | none => none)
    | none => none)
  | _ => none)
theorem ev_aaload_ok : ev_Snd ev_aaload := by
  intro p l e R s m args below meth c cc Q D A g0 P t S i n cs Ss X h1 hd hw h2 hk g ws H locs ls sc hle hR
  obtain ⟨hx, hb, hml, hown, hts, hK, hA, hN, hini, hcC, hcS, hf, hlc, hscr⟩ := X
  obtain ⟨pc, L, st, w, K, ce, sl⟩ := S
  have h1 : some ((.aaload : Instr), (1 : Nat), ([] : List Cond)) = some (i, n, cs) := h1
  cases h1
  unfold ev_aaload at h2
  dsimp only at h2
  split at h2
  · rename_i i x st'
    split at h2
    · rename_i cs j hix
      split at h2
      · rename_i a ha
        cases h2
        obtain ⟨hP, hD, hS, hW, hB, hL, hs⟩ := hR
        obtain ⟨vi, sc2, rfl, hvi, hs2⟩ := ev_s_cons hs
        obtain ⟨vx, sc3, rfl, hvx, hs3⟩ := ev_s_cons hs2
        obtain ⟨ad, cA, n, arr, i0, rfl, rfl, hws, hn, hv, hj, hjl, b4, b5, b6, hwc⟩ := ev_ix_ok (by decide) hix hW hvx hvi
        rcases arr with f | f | f | f | f
        · have := b6.1; omega
        · have := b6.1; omega
        · exact b6.elim
        · exact b6.elim
        · exact va_aldq hx hb (ev_K1 hK b4 b5) hP _ 0 hws rfl hv hd (hk _ (List.mem_singleton.mpr rfl) g ws H locs ls _ hle ⟨hP, hD, hS, hW, hB, hL, by rw [hj]; exact b6.2 j a ha, hs3⟩)
      · cases h2
    · cases h2
  · cases h2

theorem ev_set_rel {α : Type} {cs : List ev_A} {j : Nat} {a : ev_A} {g : ev_G} {F : α → Value} {f : Nat → α} {v : α} (hj : j < cs.length) (h : ∀ (k : Nat) (x : ev_A), cs[k]? = some x → ev_v g x = some (F (f k))) (ha : ev_v g a = some (F v)) : ∀ (k : Nat) (x : ev_A), (cs.set j a)[k]? = some x → ev_v g x = some (F (if k = j then v else f k)) := by
  intro k x hk
  by_cases hkj : k = j
  · subst hkj
    rw [List.getElem?_set_self hj] at hk
    cases hk
    rw [if_pos rfl]
    exact ha
  · rw [List.getElem?_set_ne (Ne.symm hkj)] at hk
    rw [if_neg hkj]
    exact h k x hk
def ev_iastore : ev_O := (fun _ _ => some (.iastore, 1, []), fun _ _ S => match S.2.2.1 with
  | a :: i :: x :: st => (match ev_ix 0 x i S.2.2.2.1 with
    | some (cs, j) => if ev_isI a = true then some [(S.1 + 1, S.2.1, st, S.2.2.2.1.set x.2.toNat (100, cs.set j a), S.2.2.2.2)] else none
    | none => none)
  | _ => none)
theorem ev_iastore_ok : ev_Snd ev_iastore := by
  intro p l e R s m args below meth c cc Q D A g0 P t S i n cs Ss X h1 hd hw h2 hk g ws H locs ls sc hle hR
  obtain ⟨hx, hb, hml, hown, hts, hK, hA, hN, hini, hcC, hcS, hf, hlc, hscr⟩ := X
  obtain ⟨pc, L, st, w, K, ce, sl⟩ := S
  have h1 : some ((.iastore : Instr), (1 : Nat), ([] : List Cond)) = some (i, n, cs) := h1
  cases h1
  unfold ev_iastore at h2
  dsimp only at h2
  split at h2
  · rename_i a i x st'
    split at h2
    · rename_i cs j hix
      split at h2
      · rename_i ha
        cases h2
        obtain ⟨hP, hD, hS, hW, hB, hL, hs⟩ := hR
        obtain ⟨va, sc1, rfl, hva, hs1⟩ := ev_s_cons hs
        obtain ⟨vi, sc2, rfl, hvi, hs2⟩ := ev_s_cons hs1
        obtain ⟨vx, sc3, rfl, hvx, hs3⟩ := ev_s_cons hs2
        obtain ⟨a0, rfl⟩ := ev_vI ha hva
        obtain ⟨ad, cA, n, arr, i0, rfl, rfl, hws, hn, hv, hj, hjl, b4, b5, b6, hwc⟩ := ev_ix_ok (by decide) hix hW hvx hvi
        cases arr with
        | inl f =>
          refine va_iast hx hb (ev_K1 hK b4 b5) hP hD hS _ 0 hws rfl hv hd (fun H1 locs1 hP1 hD1 hS1 => hk _ (List.mem_singleton.mpr rfl) g _ H1 locs1 ls _ hle ⟨hP1, hD1, hS1, ev_w_set hW hws ⟨0, by decide, rfl, by rw [List.length_set]; exact hn, b4, b5, by decide, ?_⟩, hB, hL, hs3⟩)
          rw [hj]
          exact ev_set_rel (F := Value.int) hjl b6.2 hva
        | inr z => rcases z with z | z | z | z <;> first | exact b6.elim | (have := b6.1; omega)
      · cases h2
    · cases h2
  · cases h2
/-- a byte into an array of bytes: a number is cut, a variable gets a new name -/
def ev_bastore : ev_O := (fun _ _ => some (.bastore, 1, []), fun _ _ S => match S.2.2.1 with
  | a :: i :: x :: st => (match ev_ix 1 x i S.2.2.2.1 with
    | some (cs, j) => if ev_isI a = true then (if a.1 = 0 then some [(S.1 + 1, S.2.1, st, S.2.2.2.1.set x.2.toNat (101, cs.set j (0, (vp_nar .byte (Int32.ofInt a.2)).toInt)), S.2.2.2.2)] else some [(S.1 + 1, S.2.1, st, S.2.2.2.1.set x.2.toNat (101, cs.set j (3, (S.2.2.2.2.1.length : Int))), S.2.2.2.2.1 ++ [ev_full], S.2.2.2.2.2)]) else none
    | none => none)
  | _ => none)
theorem ev_bastore_ok : ev_Snd ev_bastore := by
  intro p l e R s m args below meth c cc Q D A g0 P t S i n cs Ss X h1 hd hw h2 hk g ws H locs ls sc hle hR
  obtain ⟨hx, hb, hml, hown, hts, hK, hA, hN, hini, hcC, hcS, hf, hlc, hscr⟩ := X
  obtain ⟨pc, L, st, w, K, ce, sl⟩ := S
  have h1 : some ((.bastore : Instr), (1 : Nat), ([] : List Cond)) = some (i, n, cs) := h1
  cases h1
  unfold ev_bastore at h2
  dsimp only at h2
  split at h2
  · rename_i a i x st'
    split at h2
    · rename_i cs j hix
      split at h2
      · rename_i ha
        have hR0 := hR
        obtain ⟨hP, hD, hS, hW, hB, hL, hs⟩ := hR0
        obtain ⟨va, sc1, rfl, hva, hs1⟩ := ev_s_cons hs
        obtain ⟨vi, sc2, rfl, hvi, hs2⟩ := ev_s_cons hs1
        obtain ⟨vx, sc3, rfl, hvx, hs3⟩ := ev_s_cons hs2
        obtain ⟨a0, rfl⟩ := ev_vI ha hva
        obtain ⟨ad, cA, n, arr, i0, rfl, rfl, hws, hn, hv, hj, hjl, b4, b5, b6, hwc⟩ := ev_ix_ok (by decide) hix hW hvx hvi
        cases arr with
        | inl f =>
          split at h2
          · rename_i hz
            cases h2
            obtain ⟨at_, an⟩ := a
            have hz : at_ = 0 := hz
            subst hz
            have ea : Int32.ofInt an = a0 := Value.int.inj (Option.some.inj hva)
            refine va_bast hx hb (ev_K1 hK b4 b5) hP hD hS _ 0 hws rfl hv hd (fun H1 locs1 hP1 hD1 hS1 => hk _ (List.mem_singleton.mpr rfl) g _ H1 locs1 ls _ hle ⟨hP1, hD1, hS1, ev_w_set hW hws ⟨1, by decide, rfl, by rw [List.length_set]; exact hn, b4, b5, by decide, ?_⟩, hB, hL, hs3⟩)
            rw [hj]
            dsimp only
            rw [ea]
            exact ev_set_rel (F := Value.int) hjl b6.2 (ev_v0 g _)
          · cases h2
            obtain ⟨g', l1, ⟨hP, hD, hS, hW, hB, hL, hs⟩, e1⟩ := ev_fresh hR (.int (vp_nar .byte a0)) ev_full (fun z hz => ev_full_ok _)
            refine va_bast hx hb (ev_K1 hK b4 b5) hP hD hS _ 0 hws rfl hv hd (fun H1 locs1 hP1 hD1 hS1 => hk _ (List.mem_singleton.mpr rfl) g' _ H1 locs1 ls _ (ev_le_tr hle l1) ⟨hP1, hD1, hS1, ev_w_set hW hws ⟨1, by decide, rfl, by rw [List.length_set]; exact hn, b4, b5, by decide, ?_⟩, hB, hL, hs.2.2.2⟩)
            rw [hj]
            exact ev_set_rel (F := Value.int) hjl (fun k x hk => ev_v_le l1 (b6.2 k x hk)) (ev_v3 e1)
        | inr z => rcases z with z | z | z | z <;> first | exact b6.elim | (have := b6.1; omega)
      · cases h2
    · cases h2
  · cases h2

