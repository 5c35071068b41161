/-! arithmetic -/
/-- the bounds of an int value -/
def ev_ob (K : ev_K) (a : ev_A) : Int × Int := if a.1 = 0 then ((Int32.ofInt a.2).toInt, (Int32.ofInt a.2).toInt) else match K.1[a.2.toNat]? with
  | some r => (r.1, r.2.1)
  | none => (-2147483648, 2147483647)
theorem ev_isI_or {a : ev_A} (h : ev_isI a = true) : a.1 = 0 ∨ a.1 = 3 := by simpa [ev_isI] using h
theorem ev_cst {g : ev_G} {a : ev_A} {x : Int32} (h : a.1 = 0) (hv : ev_v g a = some (.int x)) : Int32.ofInt a.2 = x := by
  obtain ⟨t, n⟩ := a
  have h : t = 0 := h
  subst h
  exact Value.int.inj (Option.some.inj hv)
theorem ev_var {g : ev_G} {a : ev_A} {x : Int32} (h : a.1 = 3) (hv : ev_v g a = some (.int x)) : g.2.2[a.2.toNat]? = some (.int x) := by
  obtain ⟨t, n⟩ := a
  have h : t = 3 := h
  subst h
  simp only [ev_v] at hv
  split at hv
  · rename_i z hz
    cases hv
    exact hz
  · cases hv
theorem ev_ob_in {K : ev_K} {g : ev_G} {a : ev_A} {x : Int32} (hB : ev_b K g) (hi : ev_isI a = true) (hv : ev_v g a = some (.int x)) : ev_inb (ev_ob K a) x := by
  unfold ev_ob
  rcases ev_isI_or hi with h | h
  · rw [if_pos h, ev_cst h hv]
    exact ⟨Int.le_refl _, Int.le_refl _⟩
  · rw [if_neg (by omega)]
    have hE := ev_var h hv
    split
    · rename_i r hr
      exact (hB.2.1 _ r _ hr hE).1 x rfl
    · exact ⟨ev_lo x, ev_hi x⟩
/-- a variable that is this operation on these values already -/
def ev_vn : List ev_Ke → Nat → Nat → ev_A → ev_A → Option Nat
  | [], _, _, _, _ => none
  | r :: l, k, op, x, y => if (r.2.2.1 == op && (decide (r.2.2.2.1 = x) && decide (r.2.2.2.2 = y))) = true then some k else ev_vn l (k + 1) op x y
theorem ev_vn_ok : ∀ {l : List ev_Ke} {k op : Nat} {x y : ev_A} {j : Nat}, ev_vn l k op x y = some j → k ≤ j ∧ ∃ r, l[j - k]? = some r ∧ r.2.2.1 = op ∧ r.2.2.2.1 = x ∧ r.2.2.2.2 = y
  | [], k, op, x, y, j, h => by cases h
  | r :: l, k, op, x, y, j, h => by
    unfold ev_vn at h
    split at h
    · rename_i hc
      cases h
      simp only [Bool.and_eq_true, beq_iff_eq, decide_eq_true_eq] at hc
      exact ⟨Nat.le_refl _, r, by simp, hc.1, hc.2.1, hc.2.2⟩
    · obtain ⟨h1, q, h2, h3⟩ := ev_vn_ok h
      refine ⟨by omega, q, ?_, h3⟩
      rw [show j - k = (j - (k + 1)) + 1 by omega, List.getElem?_cons_succ]
      exact h2
/-- an operation on two ints: a number if both are numbers, else a variable, an old one if there is one -/
def ev_bin (op : Nat) (nz : Bool) (n : Nat) (S : ev_S) : Option (List ev_S) := match S.2.2.1 with
  | y :: x :: st =>
    if ev_isI x = true ∧ ev_isI y = true ∧ (nz = false ∨ 1 ≤ (ev_ob S.2.2.2.2.1 y).1) then
      (if x.1 = 0 ∧ y.1 = 0 then some [ev_adv S n ((0, (ev_f op (Int32.ofInt x.2) (Int32.ofInt y.2)).toInt) :: st)]
       else match ev_vn S.2.2.2.2.1.1 0 op x y with
        | some k => some [ev_adv S n ((3, (k : Int)) :: st)]
        | none => some [ev_advK S n ((3, (S.2.2.2.2.1.1.length : Int)) :: st) ((ev_bd op (ev_ob S.2.2.2.2.1 x) (ev_ob S.2.2.2.2.1 y)).1, (ev_bd op (ev_ob S.2.2.2.2.1 x) (ev_ob S.2.2.2.2.1 y)).2, op, x, y)])
    else none
  | _ => none
theorem ev_bin_ok (op : Nat) (hop : op ≠ 0) (nz : Bool) {n pc : Nat} {L : List (Nat × ev_A)} {st : List ev_A} {w : List ev_C} {K : ev_K} {ce sl : Nat} {Ss : List ev_S} (h : ev_bin op nz n (pc, L, st, w, K, ce, sl) = some Ss)
    {s : State} {A : Nat → Prop} {D : va_G} {nL : Nat} {g : ev_G} {ws : va_W} {H : Heap} {locs : List Loc} {ls : Array Slot} {sc : List Value} (hR : ev_R s A D nL g (pc, L, st, w, K, ce, sl) ws H locs ls sc) :
    ∃ (x y : Int32) (rest : List Value) (S' : ev_S), sc = .int y :: .int x :: rest ∧ (nz = false ∨ ¬ y = 0) ∧ Ss = [S'] ∧ S'.1 = pc + n ∧ S'.2.2.2.2.2 = (ce, sl) ∧ ∃ g', ev_le g g' ∧ ev_R s A D nL g' S' ws H locs ls (.int (ev_f op x y) :: rest) := by
  unfold ev_bin at h
  split at h
  · rename_i y x st' e
    dsimp only at e
    subst e
    split at h
    · rename_i hi
      dsimp only at hi
      have hR0 := hR
      obtain ⟨hP, hD, hS, hW, hB, hL, hs⟩ := hR0
      obtain ⟨vy, sc1, rfl, hvy, hs1⟩ := ev_s_cons hs
      obtain ⟨vx, sc2, rfl, hvx, hs2⟩ := ev_s_cons hs1
      obtain ⟨y0, rfl⟩ := ev_vI hi.2.1 hvy
      obtain ⟨x0, rfl⟩ := ev_vI hi.1 hvx
      have hby := ev_ob_in hB hi.2.1 hvy
      have hbx := ev_ob_in hB hi.1 hvx
      have hnz : nz = false ∨ ¬ y0 = 0 := by
        rcases hi.2.2 with q | q
        · exact Or.inl q
        · refine Or.inr (fun z => ?_)
          subst z
          have h9 := hby.2
          have h8 := hby.1
          have e0 : (0 : Int32).toInt = 0 := rfl
          rw [e0] at h8
          dsimp only at q h8
          omega
      split at h
      · rename_i hz
        cases h
        have ex := ev_cst hz.1 hvx
        have ey := ev_cst hz.2 hvy
        rw [ex, ey]
        exact ⟨x0, y0, sc2, _, rfl, hnz, rfl, rfl, rfl, g, ev_le_rf g, hP, hD, hS, hW, hB, hL, ev_v0 g _, hs2⟩
      · split at h
        · rename_i k hk
          cases h
          obtain ⟨-, r, h1, h2, h3, h4⟩ := ev_vn_ok hk
          rw [Nat.sub_zero] at h1
          dsimp only at h1
          have hkl : k < K.1.length := (List.getElem?_eq_some_iff.mp h1).1
          have hkE : k < g.2.2.length := by rw [← hB.1]; exact hkl
          have he := (hB.2.1 k r g.2.2[k] h1 (List.getElem?_eq_getElem hkE)).2
          rw [h2, h3, h4] at he
          have hv : g.2.2[k]? = some (.int (ev_f op x0 y0)) := by
            rcases he with he | ⟨x', y', e1, e2, e3⟩
            · exact absurd he hop
            · rw [hvx] at e1
              rw [hvy] at e2
              cases e1
              cases e2
              rw [List.getElem?_eq_getElem hkE, e3]
          exact ⟨x0, y0, sc2, _, rfl, hnz, rfl, rfl, rfl, g, ev_le_rf g, hP, hD, hS, hW, hB, hL, ev_v3 hv, hs2⟩
        · cases h
          obtain ⟨g', l1, ⟨hP, hD, hS, hW, hB, hL, hs⟩, e1⟩ := ev_freshE hR (.int (ev_f op x0 y0)) ((ev_bd op (ev_ob K x) (ev_ob K y)).1, (ev_bd op (ev_ob K x) (ev_ob K y)).2, op, x, y) ⟨(fun z hz => by cases hz; exact ev_bd_in hbx hby), Or.inr ⟨x0, y0, hvx, hvy, rfl⟩⟩
          exact ⟨x0, y0, sc2, _, rfl, hnz, rfl, rfl, rfl, g', l1, hP, hD, hS, hW, hB, hL, ev_v3 e1, hs.2.2⟩
    · cases h
  · cases h
theorem ev_Go_eq {p : Program} {l : Launch} {e : Env} {R : Room} {s : State} {m : MethodId} {args : Array Value} {below : List Frame} {meth : Method} {c : Code} {Q : State → Prop} {nL : Nat} {D : va_G} {A : Nat → Prop} {g0 : ev_G} {S : ev_S} {pc ce sl : Nat} (h : ev_Go p l e R s m args below meth c Q nL D A g0 S) (h1 : S.1 = pc) (h2 : S.2.2.2.2.2 = (ce, sl))
    {g : ev_G} {ws : va_W} {H : Heap} {locs : List Loc} {ls : Array Slot} {sc : List Value} (hle : ev_le g0 g) (hR : ev_R s A D nL g S ws H locs ls sc) : W p l e R s m args below meth c H locs ce sl Q (F0 m pc ls sc) := by
  have := h g ws H locs ls sc hle hR
  rw [h1, h2] at this
  exact this

def ev_iadd : ev_O := (fun _ _ => some (.iadd, 1, []), fun _ _ S => ev_bin 1 false 1 S)
theorem ev_iadd_ok : ev_Snd ev_iadd := by
  intro p l e R s m args below meth c cc Q D A g0 P t S i n cs Ss X h1 hd hw h2 hk g ws H locs ls sc hle hR
  obtain ⟨hx, hb, hml, hown, hts, hK, hA, hN, hini, hcC, hcS, hf, hlc, hscr⟩ := X
  obtain ⟨pc, L, st, w, K, ce, sl⟩ := S
  have h1 : some ((.iadd : Instr), (1 : Nat), ([] : List Cond)) = some (i, n, cs) := h1
  cases h1
  · obtain ⟨x0, y0, rest, S', rfl, hy, rfl, e1, e2, g', l1, hR'⟩ := ev_bin_ok 1 (by decide) false (show ev_bin 1 false 1 (pc, L, st, w, K, ce, sl) = some Ss from h2) hR
    exact lv_iadd hx hb hd (ev_Go_eq (hk S' (List.mem_singleton.mpr rfl)) e1 e2 (ev_le_tr hle l1) hR')

def ev_isub : ev_O := (fun _ _ => some (.isub, 1, []), fun _ _ S => ev_bin 2 false 1 S)
theorem ev_isub_ok : ev_Snd ev_isub := by
  intro p l e R s m args below meth c cc Q D A g0 P t S i n cs Ss X h1 hd hw h2 hk g ws H locs ls sc hle hR
  obtain ⟨hx, hb, hml, hown, hts, hK, hA, hN, hini, hcC, hcS, hf, hlc, hscr⟩ := X
  obtain ⟨pc, L, st, w, K, ce, sl⟩ := S
  have h1 : some ((.isub : Instr), (1 : Nat), ([] : List Cond)) = some (i, n, cs) := h1
  cases h1
  · obtain ⟨x0, y0, rest, S', rfl, hy, rfl, e1, e2, g', l1, hR'⟩ := ev_bin_ok 2 (by decide) false (show ev_bin 2 false 1 (pc, L, st, w, K, ce, sl) = some Ss from h2) hR
    exact lv_isub hx hb hd (ev_Go_eq (hk S' (List.mem_singleton.mpr rfl)) e1 e2 (ev_le_tr hle l1) hR')

def ev_imul : ev_O := (fun _ _ => some (.imul, 1, []), fun _ _ S => ev_bin 3 false 1 S)
theorem ev_imul_ok : ev_Snd ev_imul := by
  intro p l e R s m args below meth c cc Q D A g0 P t S i n cs Ss X h1 hd hw h2 hk g ws H locs ls sc hle hR
  obtain ⟨hx, hb, hml, hown, hts, hK, hA, hN, hini, hcC, hcS, hf, hlc, hscr⟩ := X
  obtain ⟨pc, L, st, w, K, ce, sl⟩ := S
  have h1 : some ((.imul : Instr), (1 : Nat), ([] : List Cond)) = some (i, n, cs) := h1
  cases h1
  · obtain ⟨x0, y0, rest, S', rfl, hy, rfl, e1, e2, g', l1, hR'⟩ := ev_bin_ok 3 (by decide) false (show ev_bin 3 false 1 (pc, L, st, w, K, ce, sl) = some Ss from h2) hR
    exact lv_imul hx hb hd (ev_Go_eq (hk S' (List.mem_singleton.mpr rfl)) e1 e2 (ev_le_tr hle l1) hR')

def ev_iand : ev_O := (fun _ _ => some (.iand, 1, []), fun _ _ S => ev_bin 4 false 1 S)
theorem ev_iand_ok : ev_Snd ev_iand := by
  intro p l e R s m args below meth c cc Q D A g0 P t S i n cs Ss X h1 hd hw h2 hk g ws H locs ls sc hle hR
  obtain ⟨hx, hb, hml, hown, hts, hK, hA, hN, hini, hcC, hcS, hf, hlc, hscr⟩ := X
  obtain ⟨pc, L, st, w, K, ce, sl⟩ := S
  have h1 : some ((.iand : Instr), (1 : Nat), ([] : List Cond)) = some (i, n, cs) := h1
  cases h1
  · obtain ⟨x0, y0, rest, S', rfl, hy, rfl, e1, e2, g', l1, hR'⟩ := ev_bin_ok 4 (by decide) false (show ev_bin 4 false 1 (pc, L, st, w, K, ce, sl) = some Ss from h2) hR
    exact lv_iand hx hb hd (ev_Go_eq (hk S' (List.mem_singleton.mpr rfl)) e1 e2 (ev_le_tr hle l1) hR')

def ev_ior : ev_O := (fun _ _ => some (.ior, 1, []), fun _ _ S => ev_bin 5 false 1 S)
theorem ev_ior_ok : ev_Snd ev_ior := by
  intro p l e R s m args below meth c cc Q D A g0 P t S i n cs Ss X h1 hd hw h2 hk g ws H locs ls sc hle hR
  obtain ⟨hx, hb, hml, hown, hts, hK, hA, hN, hini, hcC, hcS, hf, hlc, hscr⟩ := X
  obtain ⟨pc, L, st, w, K, ce, sl⟩ := S
  have h1 : some ((.ior : Instr), (1 : Nat), ([] : List Cond)) = some (i, n, cs) := h1
  cases h1
  · obtain ⟨x0, y0, rest, S', rfl, hy, rfl, e1, e2, g', l1, hR'⟩ := ev_bin_ok 5 (by decide) false (show ev_bin 5 false 1 (pc, L, st, w, K, ce, sl) = some Ss from h2) hR
    exact lv_ior hx hb hd (ev_Go_eq (hk S' (List.mem_singleton.mpr rfl)) e1 e2 (ev_le_tr hle l1) hR')

def ev_ixor : ev_O := (fun _ _ => some (.ixor, 1, []), fun _ _ S => ev_bin 6 false 1 S)
theorem ev_ixor_ok : ev_Snd ev_ixor := by
  intro p l e R s m args below meth c cc Q D A g0 P t S i n cs Ss X h1 hd hw h2 hk g ws H locs ls sc hle hR
  obtain ⟨hx, hb, hml, hown, hts, hK, hA, hN, hini, hcC, hcS, hf, hlc, hscr⟩ := X
  obtain ⟨pc, L, st, w, K, ce, sl⟩ := S
  have h1 : some ((.ixor : Instr), (1 : Nat), ([] : List Cond)) = some (i, n, cs) := h1
  cases h1
  · obtain ⟨x0, y0, rest, S', rfl, hy, rfl, e1, e2, g', l1, hR'⟩ := ev_bin_ok 6 (by decide) false (show ev_bin 6 false 1 (pc, L, st, w, K, ce, sl) = some Ss from h2) hR
    exact lv_ixor hx hb hd (ev_Go_eq (hk S' (List.mem_singleton.mpr rfl)) e1 e2 (ev_le_tr hle l1) hR')

def ev_ishl : ev_O := (fun _ _ => some (.ishl, 1, []), fun _ _ S => ev_bin 7 false 1 S)
theorem ev_ishl_ok : ev_Snd ev_ishl := by
  intro p l e R s m args below meth c cc Q D A g0 P t S i n cs Ss X h1 hd hw h2 hk g ws H locs ls sc hle hR
  obtain ⟨hx, hb, hml, hown, hts, hK, hA, hN, hini, hcC, hcS, hf, hlc, hscr⟩ := X
  obtain ⟨pc, L, st, w, K, ce, sl⟩ := S
  have h1 : some ((.ishl : Instr), (1 : Nat), ([] : List Cond)) = some (i, n, cs) := h1
  cases h1
  · obtain ⟨x0, y0, rest, S', rfl, hy, rfl, e1, e2, g', l1, hR'⟩ := ev_bin_ok 7 (by decide) false (show ev_bin 7 false 1 (pc, L, st, w, K, ce, sl) = some Ss from h2) hR
    exact lv_ishl hx hb hd (ev_Go_eq (hk S' (List.mem_singleton.mpr rfl)) e1 e2 (ev_le_tr hle l1) hR')

def ev_ishr : ev_O := (fun _ _ => some (.ishr, 1, []), fun _ _ S => ev_bin 8 false 1 S)
theorem ev_ishr_ok : ev_Snd ev_ishr := by
  intro p l e R s m args below meth c cc Q D A g0 P t S i n cs Ss X h1 hd hw h2 hk g ws H locs ls sc hle hR
  obtain ⟨hx, hb, hml, hown, hts, hK, hA, hN, hini, hcC, hcS, hf, hlc, hscr⟩ := X
  obtain ⟨pc, L, st, w, K, ce, sl⟩ := S
  have h1 : some ((.ishr : Instr), (1 : Nat), ([] : List Cond)) = some (i, n, cs) := h1
  cases h1
  · obtain ⟨x0, y0, rest, S', rfl, hy, rfl, e1, e2, g', l1, hR'⟩ := ev_bin_ok 8 (by decide) false (show ev_bin 8 false 1 (pc, L, st, w, K, ce, sl) = some Ss from h2) hR
    exact lv_ishr hx hb hd (ev_Go_eq (hk S' (List.mem_singleton.mpr rfl)) e1 e2 (ev_le_tr hle l1) hR')

def ev_iushr : ev_O := (fun _ _ => some (.iushr, 1, []), fun _ _ S => ev_bin 9 false 1 S)
theorem ev_iushr_ok : ev_Snd ev_iushr := by
  intro p l e R s m args below meth c cc Q D A g0 P t S i n cs Ss X h1 hd hw h2 hk g ws H locs ls sc hle hR
  obtain ⟨hx, hb, hml, hown, hts, hK, hA, hN, hini, hcC, hcS, hf, hlc, hscr⟩ := X
  obtain ⟨pc, L, st, w, K, ce, sl⟩ := S
  have h1 : some ((.iushr : Instr), (1 : Nat), ([] : List Cond)) = some (i, n, cs) := h1
  cases h1
  · obtain ⟨x0, y0, rest, S', rfl, hy, rfl, e1, e2, g', l1, hR'⟩ := ev_bin_ok 9 (by decide) false (show ev_bin 9 false 1 (pc, L, st, w, K, ce, sl) = some Ss from h2) hR
    exact lv_iushr hx hb hd rfl (ev_Go_eq (hk S' (List.mem_singleton.mpr rfl)) e1 e2 (ev_le_tr hle l1) hR')

def ev_idiv : ev_O := (fun _ _ => some (.idiv, 1, []), fun _ _ S => ev_bin 10 true 1 S)
theorem ev_idiv_ok : ev_Snd ev_idiv := by
  intro p l e R s m args below meth c cc Q D A g0 P t S i n cs Ss X h1 hd hw h2 hk g ws H locs ls sc hle hR
  obtain ⟨hx, hb, hml, hown, hts, hK, hA, hN, hini, hcC, hcS, hf, hlc, hscr⟩ := X
  obtain ⟨pc, L, st, w, K, ce, sl⟩ := S
  have h1 : some ((.idiv : Instr), (1 : Nat), ([] : List Cond)) = some (i, n, cs) := h1
  cases h1
  · obtain ⟨x0, y0, rest, S', rfl, hy, rfl, e1, e2, g', l1, hR'⟩ := ev_bin_ok 10 (by decide) true (show ev_bin 10 true 1 (pc, L, st, w, K, ce, sl) = some Ss from h2) hR
    have hne : ¬ y0 = 0 := by rcases hy with q | q; cases q; exact q
    exact lv_idiv hx hb hd hne (ev_Go_eq (hk S' (List.mem_singleton.mpr rfl)) e1 e2 (ev_le_tr hle l1) hR')

def ev_irem : ev_O := (fun _ _ => some (.irem, 1, []), fun _ _ S => ev_bin 11 true 1 S)
theorem ev_irem_ok : ev_Snd ev_irem := by
  intro p l e R s m args below meth c cc Q D A g0 P t S i n cs Ss X h1 hd hw h2 hk g ws H locs ls sc hle hR
  obtain ⟨hx, hb, hml, hown, hts, hK, hA, hN, hini, hcC, hcS, hf, hlc, hscr⟩ := X
  obtain ⟨pc, L, st, w, K, ce, sl⟩ := S
  have h1 : some ((.irem : Instr), (1 : Nat), ([] : List Cond)) = some (i, n, cs) := h1
  cases h1
  · obtain ⟨x0, y0, rest, S', rfl, hy, rfl, e1, e2, g', l1, hR'⟩ := ev_bin_ok 11 (by decide) true (show ev_bin 11 true 1 (pc, L, st, w, K, ce, sl) = some Ss from h2) hR
    have hne : ¬ y0 = 0 := by rcases hy with q | q; cases q; exact q
    exact lv_irem hx hb hd hne (ev_Go_eq (hk S' (List.mem_singleton.mpr rfl)) e1 e2 (ev_le_tr hle l1) hR')

def ev_una (f : Int32 → Int32) (n : Nat) (r : ev_Ke) (S : ev_S) : Option (List ev_S) := match S.2.2.1 with
  | x :: st =>
    if ev_isI x = true then
      (if x.1 = 0 then some [ev_adv S n ((0, (f (Int32.ofInt x.2)).toInt) :: st)]
       else some [ev_advK S n ((3, (S.2.2.2.2.1.1.length : Int)) :: st) r])
    else none
  | _ => none
theorem ev_una_ok (f : Int32 → Int32) (r : ev_Ke) (h0 : r.2.2.1 = 0) (hr : ∀ x, r.1 ≤ (f x).toInt ∧ (f x).toInt ≤ r.2.1) {n pc : Nat} {L : List (Nat × ev_A)} {st : List ev_A} {w : List ev_C} {K : ev_K} {ce sl : Nat} {Ss : List ev_S} (h : ev_una f n r (pc, L, st, w, K, ce, sl) = some Ss)
    {s : State} {A : Nat → Prop} {D : va_G} {nL : Nat} {g : ev_G} {ws : va_W} {H : Heap} {locs : List Loc} {ls : Array Slot} {sc : List Value} (hR : ev_R s A D nL g (pc, L, st, w, K, ce, sl) ws H locs ls sc) :
    ∃ (x : Int32) (rest : List Value) (S' : ev_S), sc = .int x :: rest ∧ Ss = [S'] ∧ S'.1 = pc + n ∧ S'.2.2.2.2.2 = (ce, sl) ∧ ∃ g', ev_le g g' ∧ ev_R s A D nL g' S' ws H locs ls (.int (f x) :: rest) := by
  unfold ev_una at h
  split at h
  · rename_i x st' e
    dsimp only at e
    subst e
    split at h
    · rename_i hi
      have hR0 := hR
      obtain ⟨hP, hD, hS, hW, hB, hL, hs⟩ := hR0
      obtain ⟨vx, sc2, rfl, hvx, hs2⟩ := ev_s_cons hs
      obtain ⟨x0, rfl⟩ := ev_vI hi hvx
      split at h
      · rename_i hz
        cases h
        obtain ⟨xt, xn⟩ := x
        have hz : xt = 0 := hz
        subst hz
        have ex : Int32.ofInt xn = x0 := Value.int.inj (Option.some.inj hvx)
        dsimp only
        rw [ex]
        exact ⟨x0, sc2, _, rfl, rfl, rfl, rfl, g, ev_le_rf g, hP, hD, hS, hW, hB, hL, ev_v0 g _, hs2⟩
      · cases h
        obtain ⟨g', l1, ⟨hP, hD, hS, hW, hB, hL, hs⟩, e1⟩ := ev_fresh hR (.int (f x0)) r h0 (fun z hz => by cases hz; exact hr _)
        exact ⟨x0, sc2, _, rfl, rfl, rfl, rfl, g', l1, hP, hD, hS, hW, hB, hL, ev_v3 e1, hs.2⟩
    · cases h
  · cases h

def ev_ineg : ev_O := (fun _ _ => some (.ineg, 1, []), fun _ _ S => ev_una (fun x => -x) 1 ev_full S)
theorem ev_ineg_ok : ev_Snd ev_ineg := by
  intro p l e R s m args below meth c cc Q D A g0 P t S i n cs Ss X h1 hd hw h2 hk g ws H locs ls sc hle hR
  obtain ⟨hx, hb, hml, hown, hts, hK, hA, hN, hini, hcC, hcS, hf, hlc, hscr⟩ := X
  obtain ⟨pc, L, st, w, K, ce, sl⟩ := S
  have h1 : some ((.ineg : Instr), (1 : Nat), ([] : List Cond)) = some (i, n, cs) := h1
  cases h1
  · obtain ⟨x0, rest, S', rfl, rfl, e1, e2, g', l1, hR'⟩ := ev_una_ok (fun x => -x) ev_full rfl (fun _ => ev_full_ok _) (show ev_una (fun x => -x) 1 ev_full (pc, L, st, w, K, ce, sl) = some Ss from h2) hR
    exact lv_ineg hx hb hd (ev_Go_eq (hk S' (List.mem_singleton.mpr rfl)) e1 e2 (ev_le_tr hle l1) hR')

def ev_i2b : ev_O := (fun _ _ => some (.i2b, 1, []), fun _ _ S => ev_una (fun x => x.toInt8.toInt32) 1 ev_full S)
theorem ev_i2b_ok : ev_Snd ev_i2b := by
  intro p l e R s m args below meth c cc Q D A g0 P t S i n cs Ss X h1 hd hw h2 hk g ws H locs ls sc hle hR
  obtain ⟨hx, hb, hml, hown, hts, hK, hA, hN, hini, hcC, hcS, hf, hlc, hscr⟩ := X
  obtain ⟨pc, L, st, w, K, ce, sl⟩ := S
  have h1 : some ((.i2b : Instr), (1 : Nat), ([] : List Cond)) = some (i, n, cs) := h1
  cases h1
  · obtain ⟨x0, rest, S', rfl, rfl, e1, e2, g', l1, hR'⟩ := ev_una_ok (fun x => x.toInt8.toInt32) ev_full rfl (fun _ => ev_full_ok _) (show ev_una (fun x => x.toInt8.toInt32) 1 ev_full (pc, L, st, w, K, ce, sl) = some Ss from h2) hR
    exact lv_i2b hx hb hd rfl (ev_Go_eq (hk S' (List.mem_singleton.mpr rfl)) e1 e2 (ev_le_tr hle l1) hR')

def ev_i2l : ev_O := (fun _ _ => some (.i2l, 1, []), fun _ _ S => match S.2.2.1 with
  | x :: st => if ev_isI x = true then (if x.1 = 0 then some [ev_adv S 1 ((4, ((Int32.ofInt x.2).toInt64).toInt) :: st)] else some [ev_advK S 1 ((6, (S.2.2.2.2.1.1.length : Int)) :: st) ev_full]) else none
  | _ => none)
theorem ev_i2l_ok : ev_Snd ev_i2l := by
  intro p l e R s m args below meth c cc Q D A g0 P t S i n cs Ss X h1 hd hw h2 hk g ws H locs ls sc hle hR
  obtain ⟨hx, hb, hml, hown, hts, hK, hA, hN, hini, hcC, hcS, hf, hlc, hscr⟩ := X
  obtain ⟨pc, L, st, w, K, ce, sl⟩ := S
  have h1 : some ((.i2l : Instr), (1 : Nat), ([] : List Cond)) = some (i, n, cs) := h1
  cases h1
  unfold ev_i2l at h2
  dsimp only at h2
  split at h2
  · rename_i x st'
    split at h2
    · rename_i hi
      have hR0 := hR
      obtain ⟨hP, hD, hS, hW, hB, hL, hs⟩ := hR0
      obtain ⟨vx, sc2, rfl, hvx, hs2⟩ := ev_s_cons hs
      obtain ⟨x0, rfl⟩ := ev_vI hi hvx
      split at h2
      · rename_i hz
        cases h2
        obtain ⟨xt, xn⟩ := x
        have hz : xt = 0 := hz
        subst hz
        have ex : Int32.ofInt xn = x0 := Value.int.inj (Option.some.inj hvx)
        exact lv_i2l hx hb hd rfl (hk _ (List.mem_singleton.mpr rfl) g ws H locs ls _ hle ⟨hP, hD, hS, hW, hB, hL, by dsimp only; rw [ex]; exact ev_v4 g _, hs2⟩)
      · cases h2
        obtain ⟨g', l1, ⟨hP, hD, hS, hW, hB, hL, hs⟩, e1⟩ := ev_fresh hR (.long x0.toInt64) ev_full rfl (fun z hz => by cases hz)
        exact lv_i2l hx hb hd rfl (hk _ (List.mem_singleton.mpr rfl) g' ws H locs ls _ (ev_le_tr hle l1) ⟨hP, hD, hS, hW, hB, hL, ev_v6 e1, hs.2⟩)
    · cases h2
  · cases h2
def ev_lcmp : ev_O := (fun _ _ => some (.lcmp, 1, []), fun _ _ S => match S.2.2.1 with
  | y :: x :: st => if ev_isL x = true ∧ ev_isL y = true then (if x.1 = 4 ∧ y.1 = 4 then some [ev_adv S 1 ((0, (lg_cmp (Int64.ofInt x.2) (Int64.ofInt y.2)).toInt) :: st)] else some [ev_advK S 1 ((3, (S.2.2.2.2.1.1.length : Int)) :: st) ev_full]) else none
  | _ => none)
theorem ev_lcmp_ok : ev_Snd ev_lcmp := by
  intro p l e R s m args below meth c cc Q D A g0 P t S i n cs Ss X h1 hd hw h2 hk g ws H locs ls sc hle hR
  obtain ⟨hx, hb, hml, hown, hts, hK, hA, hN, hini, hcC, hcS, hf, hlc, hscr⟩ := X
  obtain ⟨pc, L, st, w, K, ce, sl⟩ := S
  have h1 : some ((.lcmp : Instr), (1 : Nat), ([] : List Cond)) = some (i, n, cs) := h1
  cases h1
  unfold ev_lcmp at h2
  dsimp only at h2
  split at h2
  · rename_i y x st'
    split at h2
    · rename_i hi
      have hR0 := hR
      obtain ⟨hP, hD, hS, hW, hB, hL, hs⟩ := hR0
      obtain ⟨vy, sc1, rfl, hvy, hs1⟩ := ev_s_cons hs
      obtain ⟨vx, sc2, rfl, hvx, hs2⟩ := ev_s_cons hs1
      obtain ⟨y0, rfl⟩ := ev_vL hi.2 hvy
      obtain ⟨x0, rfl⟩ := ev_vL hi.1 hvx
      split at h2
      · rename_i hz
        cases h2
        obtain ⟨xt, xn⟩ := x
        obtain ⟨yt, yn⟩ := y
        obtain ⟨rfl, rfl⟩ := hz
        have ex : Int64.ofInt xn = x0 := Value.long.inj (Option.some.inj hvx)
        have ey : Int64.ofInt yn = y0 := Value.long.inj (Option.some.inj hvy)
        exact W.lcmp hx hb hd (hk _ (List.mem_singleton.mpr rfl) g ws H locs ls _ hle ⟨hP, hD, hS, hW, hB, hL, by dsimp only; rw [ex, ey]; exact ev_v0 g _, hs2⟩)
      · cases h2
        obtain ⟨g', l1, ⟨hP, hD, hS, hW, hB, hL, hs⟩, e1⟩ := ev_fresh hR (.int (lg_cmp x0 y0)) ev_full rfl (fun z hz => ev_full_ok _)
        exact W.lcmp hx hb hd (hk _ (List.mem_singleton.mpr rfl) g' ws H locs ls _ (ev_le_tr hle l1) ⟨hP, hD, hS, hW, hB, hL, ev_v3 e1, hs.2.2⟩)
    · cases h2
  · cases h2
/-! the stack -/
def ev_dup : ev_O := (fun _ _ => some (.dup, 1, []), fun _ _ S => match S.2.2.1 with
  | x :: st => if ev_isL x = false then some [ev_adv S 1 (x :: x :: st)] else none
  | _ => none)
theorem ev_cat1 {g : ev_G} {a : ev_A} {v : Value} (hv : ev_v g a = some v) (h : ev_isL a = false) : v.category = 1 := by
  rcases ev_cat hv with ⟨h1, h2⟩ | ⟨h1, h2⟩
  · rw [h] at h1; cases h1
  · exact h2
theorem ev_cat2 {g : ev_G} {a : ev_A} {v : Value} (hv : ev_v g a = some v) (h : ev_isL a = true) : v.category = 2 := by
  rcases ev_cat hv with ⟨h1, h2⟩ | ⟨h1, h2⟩
  · exact h2
  · rw [h] at h1; cases h1
theorem ev_dup_ok : ev_Snd ev_dup := by
  intro p l e R s m args below meth c cc Q D A g0 P t S i n cs Ss X h1 hd hw h2 hk g ws H locs ls sc hle hR
  obtain ⟨hx, hb, hml, hown, hts, hK, hA, hN, hini, hcC, hcS, hf, hlc, hscr⟩ := X
  obtain ⟨pc, L, st, w, K, ce, sl⟩ := S
  have h1 : some ((.dup : Instr), (1 : Nat), ([] : List Cond)) = some (i, n, cs) := h1
  cases h1
  unfold ev_dup at h2
  dsimp only at h2
  split at h2
  · rename_i x st'
    split at h2
    · rename_i hi
      cases h2
      obtain ⟨hP, hD, hS, hW, hB, hL, hs⟩ := hR
      obtain ⟨vx, sc2, rfl, hvx, hs2⟩ := ev_s_cons hs
      exact lv_dup hx hb hd (ev_cat1 hvx hi) (hk _ (List.mem_singleton.mpr rfl) g ws H locs ls _ hle ⟨hP, hD, hS, hW, hB, hL, hvx, hvx, hs2⟩)
    · cases h2
  · cases h2
def ev_pop : ev_O := (fun _ _ => some (.pop, 1, []), fun _ _ S => match S.2.2.1 with
  | x :: st => if ev_isL x = false then some [ev_adv S 1 st] else none
  | _ => none)
theorem ev_pop_ok : ev_Snd ev_pop := by
  intro p l e R s m args below meth c cc Q D A g0 P t S i n cs Ss X h1 hd hw h2 hk g ws H locs ls sc hle hR
  obtain ⟨hx, hb, hml, hown, hts, hK, hA, hN, hini, hcC, hcS, hf, hlc, hscr⟩ := X
  obtain ⟨pc, L, st, w, K, ce, sl⟩ := S
  have h1 : some ((.pop : Instr), (1 : Nat), ([] : List Cond)) = some (i, n, cs) := h1
  cases h1
  unfold ev_pop at h2
  dsimp only at h2
  split at h2
  · rename_i x st'
    split at h2
    · rename_i hi
      cases h2
      obtain ⟨hP, hD, hS, hW, hB, hL, hs⟩ := hR
      obtain ⟨vx, sc2, rfl, hvx, hs2⟩ := ev_s_cons hs
      exact lv_pop hx hb hd (ev_cat1 hvx hi) (hk _ (List.mem_singleton.mpr rfl) g ws H locs ls _ hle ⟨hP, hD, hS, hW, hB, hL, hs2⟩)
    · cases h2
  · cases h2
def ev_dup2 : ev_O := (fun _ _ => some (.dup2, 1, []), fun _ _ S => match S.2.2.1 with
  | x :: y :: st => if ev_isL x = false ∧ ev_isL y = false then some [ev_adv S 1 (x :: y :: x :: y :: st)] else none
  | _ => none)
theorem ev_dup2_ok : ev_Snd ev_dup2 := by
  intro p l e R s m args below meth c cc Q D A g0 P t S i n cs Ss X h1 hd hw h2 hk g ws H locs ls sc hle hR
  obtain ⟨hx, hb, hml, hown, hts, hK, hA, hN, hini, hcC, hcS, hf, hlc, hscr⟩ := X
  obtain ⟨pc, L, st, w, K, ce, sl⟩ := S
  have h1 : some ((.dup2 : Instr), (1 : Nat), ([] : List Cond)) = some (i, n, cs) := h1
  cases h1
  unfold ev_dup2 at h2
  dsimp only at h2
  split at h2
  · rename_i x y st'
    split at h2
    · rename_i hi
      cases h2
      obtain ⟨hP, hD, hS, hW, hB, hL, hs⟩ := hR
      obtain ⟨vx, sc1, rfl, hvx, hs1⟩ := ev_s_cons hs
      obtain ⟨vy, sc2, rfl, hvy, hs2⟩ := ev_s_cons hs1
      exact lv_dup2_11 hx hb hd (ev_cat1 hvx hi.1) (ev_cat1 hvy hi.2) (hk _ (List.mem_singleton.mpr rfl) g ws H locs ls _ hle ⟨hP, hD, hS, hW, hB, hL, hvx, hvy, hvx, hvy, hs2⟩)
    · cases h2
  · cases h2
/-! iinc -/
def ev_iinc : ev_O := (fun _ t => some (.iinc t.1.toNat t.2.1, 3, []), fun P t S => match ev_look S.2.1 t.1.toNat with
  | some x => if ev_isI x = true ∧ t.1.toNat < P.2.2.2.2.1 then (if x.1 = 0 then some [(S.1 + 3, ev_st1 S.2.1 t.1.toNat (0, (Int32.ofInt x.2 + Int32.ofInt t.2.1).toInt), S.2.2)] else some [(S.1 + 3, ev_st1 S.2.1 t.1.toNat (3, (S.2.2.2.2.1.1.length : Int)), S.2.2.1, S.2.2.2.1, (S.2.2.2.2.1.1 ++ [((ev_bd 1 (ev_ob S.2.2.2.2.1 x) (ev_ob S.2.2.2.2.1 (0, t.2.1))).1, (ev_bd 1 (ev_ob S.2.2.2.2.1 x) (ev_ob S.2.2.2.2.1 (0, t.2.1))).2, 1, x, (0, t.2.1))], S.2.2.2.2.1.2), S.2.2.2.2.2)]) else none
  | none => none)
theorem ev_iinc_ok : ev_Snd ev_iinc := by
  intro p l e R s m args below meth c cc Q D A g0 P t S i n cs Ss X h1 hd hw h2 hk g ws H locs ls sc hle hR
  obtain ⟨hx, hb, hml, hown, hts, hK, hA, hN, hini, hcC, hcS, hf, hlc, hscr⟩ := X
  obtain ⟨pc, L, st, w, K, ce, sl⟩ := S
  have h1 : some ((.iinc t.1.toNat t.2.1 : Instr), (3 : Nat), ([] : List Cond)) = some (i, n, cs) := h1
  cases h1
  unfold ev_iinc at h2
  dsimp only at h2
  split at h2
  · rename_i x ha
    split at h2
    · rename_i hi
      have hR0 := hR
      obtain ⟨hP, hD, hS, hW, hB, hL, hs⟩ := hR0
      obtain ⟨v, hv, hl⟩ := hL.2.2 _ (ev_look_mem ha)
      dsimp only at hv hl
      obtain ⟨x0, rfl⟩ := ev_vI hi.1 hv
      split at h2
      · rename_i hz
        cases h2
        obtain ⟨xt, xn⟩ := x
        have hz : xt = 0 := hz
        subst hz
        have ex : Int32.ofInt xn = x0 := Value.int.inj (Option.some.inj hv)
        obtain ⟨k, hk1⟩ := List.getElem?_of_mem (ev_conc_mem (ev_look_mem ha) hv)
        refine lv_iinc hx hb hd (ev_conc_has hL) hk1 rfl hi.2 rfl (fun ls' hl' => hk _ (List.mem_singleton.mpr rfl) g ws H locs ls' _ hle ⟨hP, hD, hS, hW, hB, ev_st1_ok hL ?_ hl', hs⟩)
        dsimp only
        rw [ex]
        exact ev_v0 g _
      · cases h2
        obtain ⟨g', l1, ⟨hP, hD, hS, hW, hB, hL, hs⟩, e1⟩ := ev_freshE hR (.int (x0 + Int32.ofInt t.2.1)) ((ev_bd 1 (ev_ob K x) (ev_ob K (0, t.2.1))).1, (ev_bd 1 (ev_ob K x) (ev_ob K (0, t.2.1))).2, 1, x, (0, t.2.1)) ⟨(fun z hz => by cases hz; exact ev_bd_in (op := 1) (ev_ob_in hB hi.1 hv) (ev_ob_in hB (a := (0, t.2.1)) rfl (x := Int32.ofInt t.2.1) rfl)), Or.inr ⟨x0, Int32.ofInt t.2.1, hv, rfl, rfl⟩⟩
        have hv := ev_v_le l1 hv
        obtain ⟨k, hk1⟩ := List.getElem?_of_mem (ev_conc_mem (ev_look_mem ha) hv)
        exact lv_iinc hx hb hd (ev_conc_has hL) hk1 rfl hi.2 rfl (fun ls' hl' => hk _ (List.mem_singleton.mpr rfl) g' ws H locs ls' _ (ev_le_tr hle l1) ⟨hP, hD, hS, hW, hB, ev_st1_ok hL (ev_v3 e1) hl', hs⟩)
    · cases h2
  · cases h2
/-! branches -/
def ev_neg (r : Nat) : Nat := match r with
  | 0 => 1
  | 1 => 0
  | 2 => 3
  | 3 => 2
  | 4 => 5
  | _ => 4
theorem ev_neg_ok (r : Nat) (x y : Int32) : ev_cmp (ev_neg r) x y = !ev_cmp r x y := by
  match r with
  | 0 => simp [ev_neg, ev_cmp]
  | 1 => simp [ev_neg, ev_cmp]
  | 2 => show decide (y ≤ x) = !decide (x < y); rw [← decide_not]; exact decide_eq_decide.mpr Int32.not_lt.symm
  | 3 => show decide (x < y) = !decide (y ≤ x); rw [← decide_not]; exact decide_eq_decide.mpr Int32.not_le.symm
  | 4 => show decide (x ≤ y) = !decide (y < x); rw [← decide_not]; exact decide_eq_decide.mpr Int32.not_lt.symm
  | n + 5 => show decide (y < x) = !decide (x ≤ y); rw [← decide_not]; exact decide_eq_decide.mpr Int32.not_le.symm
def ev_swp (r : Nat) : Nat := match r with
  | 0 => 0
  | 1 => 1
  | 2 => 4
  | 3 => 5
  | 4 => 2
  | _ => 3
theorem ev_swp_ok (r : Nat) (x y : Int32) : ev_cmp (ev_swp r) y x = ev_cmp r x y := by
  match r with
  | 0 => simp [ev_swp, ev_cmp, eq_comm]
  | 1 => simp [ev_swp, ev_cmp, eq_comm]
  | 2 => rfl
  | 3 => rfl
  | 4 => rfl
  | n + 5 => rfl
/-- the bounds of x under 'x r y', x within b, y within c -/
def ev_ref (r : Nat) (b c : Int × Int) : Int × Int := match r with
  | 0 => (max b.1 c.1, min b.2 c.2)
  | 1 => if c.1 = c.2 then (if b.1 = c.1 then c.1 + 1 else b.1, if b.2 = c.1 then c.1 - 1 else b.2) else b
  | 2 => (b.1, min b.2 (c.2 - 1))
  | 3 => (max b.1 c.1, b.2)
  | 4 => (max b.1 (c.1 + 1), b.2)
  | _ => (b.1, min b.2 c.2)
theorem ev_ref_ok {r : Nat} {b c : Int × Int} {x y : Int32} (hb : ev_inb b x) (hc : ev_inb c y) (h : ev_cmp r x y = true) : ev_inb (ev_ref r b c) x := by
  obtain ⟨b1, b2⟩ := hb
  obtain ⟨c1, c2⟩ := hc
  match r, h with
  | 0, h =>
    have h : x = y := by simpa [ev_cmp] using h
    subst h
    simp only [ev_ref, ev_inb]
    omega
  | 1, h =>
    have h : ¬ x = y := by simpa [ev_cmp] using h
    have h : ¬ x.toInt = y.toInt := fun q => h (Int32.toInt_inj.mp q)
    simp only [ev_ref, ev_inb]
    split
    · constructor <;> dsimp only <;> split <;> omega
    · exact ⟨b1, b2⟩
  | 2, h =>
    have h : x < y := by simpa [ev_cmp] using h
    rw [Int32.lt_iff_toInt_lt] at h
    simp only [ev_ref, ev_inb]
    omega
  | 3, h =>
    have h : y ≤ x := by simpa [ev_cmp] using h
    rw [Int32.le_iff_toInt_le] at h
    simp only [ev_ref, ev_inb]
    omega
  | 4, h =>
    have h : y < x := by simpa [ev_cmp] using h
    rw [Int32.lt_iff_toInt_lt] at h
    simp only [ev_ref, ev_inb]
    omega
  | n + 5, h =>
    have h : x ≤ y := by simpa [ev_cmp] using h
    rw [Int32.le_iff_toInt_le] at h
    simp only [ev_ref, ev_inb]
    omega
/-- other bounds for a value, if it is a variable -/
def ev_set1 (K : ev_K) (a : ev_A) (b : Int × Int) : ev_K := if a.1 = 3 then (match K.1[a.2.toNat]? with
  | some r => (K.1.set a.2.toNat (b.1, b.2, r.2.2), K.2)
  | none => K) else K
theorem ev_set1_ok {K : ev_K} {g : ev_G} {a : ev_A} {b : Int × Int} {x : Int32} (hB : ev_b K g) (hv : ev_v g a = some (.int x)) (hb : ev_inb b x) : ev_b (ev_set1 K a b) g := by
  unfold ev_set1
  split
  · rename_i h3
    have hE := ev_var h3 hv
    split
    · rename_i r hr
      have hl := (List.getElem?_eq_some_iff.mp hr).1
      refine ⟨by dsimp only; rw [List.length_set]; exact hB.1, fun j q z h1 h2 => ?_, hB.2.2⟩
      dsimp only at h1
      by_cases hj : j = a.2.toNat
      · subst hj
        rw [List.getElem?_set_self hl] at h1
        cases h1
        rw [hE] at h2
        cases h2
        exact ⟨fun z hz => by cases hz; exact hb, (hB.2.1 _ r _ hr hE).2⟩
      · rw [List.getElem?_set_ne (Ne.symm hj)] at h1
        exact hB.2.1 j q z h1 h2
    · exact hB
  · exact hB
/-- a sum of a variable and a number: what its bounds say of the variable -/
def ev_back (K : ev_K) (a : ev_A) : ev_K := if a.1 = 3 then (match K.1[a.2.toNat]? with
  | some r => if r.2.2.1 = 1 ∧ r.2.2.2.1.1 = 3 ∧ r.2.2.2.2.1 = 0 ∧ -2147483648 ≤ (ev_ob K r.2.2.2.1).1 + (Int32.ofInt r.2.2.2.2.2).toInt ∧ (ev_ob K r.2.2.2.1).2 + (Int32.ofInt r.2.2.2.2.2).toInt ≤ 2147483647 then
      ev_set1 K r.2.2.2.1 (max (ev_ob K r.2.2.2.1).1 (r.1 - (Int32.ofInt r.2.2.2.2.2).toInt), min (ev_ob K r.2.2.2.1).2 (r.2.1 - (Int32.ofInt r.2.2.2.2.2).toInt)) else K
  | none => K) else K
theorem ev_back_ok {K : ev_K} {g : ev_G} {a : ev_A} {z : Int32} (hB : ev_b K g) (hv : ev_v g a = some (.int z)) : ev_b (ev_back K a) g := by
  unfold ev_back
  split
  · rename_i h3
    have hE := ev_var h3 hv
    split
    · rename_i r hr
      split
      · rename_i hc
        obtain ⟨c1, c2, c3, c4, c5⟩ := hc
        obtain ⟨e1, e2⟩ := hB.2.1 _ r _ hr hE
        have e1 := e1 z rfl
        rcases e2 with e2 | ⟨x, y, hx, hy, e2⟩
        · rw [c1] at e2; cases e2
        · rw [c1] at e2
          have hy0 := ev_cst c3 hy
          have hbx := ev_ob_in hB (a := r.2.2.2.1) (by simp [ev_isI, c2]) hx
          have hz : z = x + y := Value.int.inj e2
          have hzt : z.toInt = x.toInt + y.toInt := by
            rw [hz, Int32.toInt_add, ← hy0]
            obtain ⟨q1, q2⟩ := hbx
            exact ev_bm (by omega) (by omega)
          refine ev_set1_ok hB hx ?_
          obtain ⟨q1, q2⟩ := hbx
          rw [hy0]
          exact ⟨by dsimp only; omega, by dsimp only; omega⟩
      · exact hB
    · exact hB
  · exact hB
/-- the variables under which 'x r y' holds: none if it can't -/
def ev_br (r : Nat) (x y : ev_A) (K : ev_K) : List ev_K :=
  if x.1 = 0 ∧ y.1 = 0 then (if ev_cmp r (Int32.ofInt x.2) (Int32.ofInt y.2) = true then [K] else [])
  else if (ev_neg r, x, y) ∈ K.2 then []
  else if (ev_ref r (ev_ob K x) (ev_ob K y)).1 ≤ (ev_ref r (ev_ob K x) (ev_ob K y)).2 ∧ (ev_ref (ev_swp r) (ev_ob K y) (ev_ob K x)).1 ≤ (ev_ref (ev_swp r) (ev_ob K y) (ev_ob K x)).2 then
    (if x.1 = 3 ∧ y.1 = 3 then [((ev_back (ev_set1 (ev_set1 K x (ev_ref r (ev_ob K x) (ev_ob K y))) y (ev_ref (ev_swp r) (ev_ob K y) (ev_ob K x))) x).1, (r, x, y) :: (ev_back (ev_set1 (ev_set1 K x (ev_ref r (ev_ob K x) (ev_ob K y))) y (ev_ref (ev_swp r) (ev_ob K y) (ev_ob K x))) x).2)]
     else [ev_back (ev_set1 (ev_set1 K x (ev_ref r (ev_ob K x) (ev_ob K y))) y (ev_ref (ev_swp r) (ev_ob K y) (ev_ob K x))) x])
  else []
theorem ev_br_ok {r : Nat} {a b : ev_A} {K : ev_K} {g : ev_G} {x y : Int32} (hB : ev_b K g) (hia : ev_isI a = true) (hib : ev_isI b = true) (ha : ev_v g a = some (.int x)) (hb : ev_v g b = some (.int y)) (h : ev_cmp r x y = true) : ∃ K' ∈ ev_br r a b K, ev_b K' g := by
  have ba := ev_ob_in hB hia ha
  have bb := ev_ob_in hB hib hb
  have ra := ev_ref_ok ba bb h
  have rb := ev_ref_ok (r := ev_swp r) bb ba (by rw [ev_swp_ok]; exact h)
  have hB2 : ev_b (ev_back (ev_set1 (ev_set1 K a (ev_ref r (ev_ob K a) (ev_ob K b))) b (ev_ref (ev_swp r) (ev_ob K b) (ev_ob K a))) a) g := ev_back_ok (ev_set1_ok (ev_set1_ok hB ha ra) hb rb) ha
  unfold ev_br
  split
  · rename_i hz
    rw [ev_cst hz.1 ha, ev_cst hz.2 hb, if_pos h]
    exact ⟨_, List.mem_singleton.mpr rfl, hB⟩
  · split
    · rename_i hn
      obtain ⟨x', y', e1, e2, e3⟩ := hB.2.2 _ hn
      dsimp only at e1 e2 e3
      rw [ha] at e1
      rw [hb] at e2
      cases e1
      cases e2
      rw [ev_neg_ok, h] at e3
      cases e3
    · rw [if_pos ⟨Int.le_trans ra.1 ra.2, Int.le_trans rb.1 rb.2⟩]
      split
      · refine ⟨_, List.mem_singleton.mpr rfl, hB2.1, hB2.2.1, fun f hf => ?_⟩
        rcases List.mem_cons.mp hf with rfl | hf
        · exact ⟨x, y, ha, hb, h⟩
        · exact hB2.2.2 f hf
      · exact ⟨_, List.mem_singleton.mpr rfl, hB2⟩
def ev_setK (S : ev_S) (pc : Nat) (st : List ev_A) (K : ev_K) : ev_S := (pc, S.2.1, st, S.2.2.2.1, K, S.2.2.2.2.2)
def ev_fork (r : Nat) (x y : ev_A) (off : Int) (st : List ev_A) (S : ev_S) : Option (List ev_S) :=
  if 0 ≤ (S.1 : Int) + off then some ((ev_br r x y S.2.2.2.2.1).map (ev_setK S ((S.1 : Int) + off).toNat st) ++ (ev_br (ev_neg r) x y S.2.2.2.2.1).map (ev_setK S (S.1 + 3) st)) else none
def ev_cnd (r : Nat) : ClassFile.Cond := match r with
  | 0 => .eq
  | 1 => .ne
  | 2 => .lt
  | 3 => .ge
  | 4 => .gt
  | _ => .le

