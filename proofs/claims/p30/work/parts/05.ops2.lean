/-! arithmetic -/
/-- two ints: a number if both are numbers, else a new variable -/
def ev_bin (f : Int32 → Int32 → Int32) (ok : Int32 → Bool) (n : Nat) (S : ev_S) : Option (List ev_S) := match S.2.2.1 with
  | y :: x :: st =>
    if ev_isI x = true ∧ ev_isI y = true then
      (if x.1 = 0 ∧ y.1 = 0 then (if ok (Int32.ofInt y.2) = true then some [ev_adv S n ((0, (f (Int32.ofInt x.2) (Int32.ofInt y.2)).toInt) :: st)] else none)
       else if y.1 = 0 then (if ok (Int32.ofInt y.2) = true then some [ev_advK S n ((3, (S.2.2.2.2.1.length : Int)) :: st) ev_full] else none)
       else if ok 0 = true then some [ev_advK S n ((3, (S.2.2.2.2.1.length : Int)) :: st) ev_full] else none)
    else none
  | _ => none
theorem ev_bin_ok (f : Int32 → Int32 → Int32) (ok : Int32 → Bool) (hok0 : ok 0 = true → ∀ y, ok y = true) {n pc : Nat} {L : List (Nat × ev_A)} {st : List ev_A} {w : List ev_C} {K : ev_K} {ce sl : Nat} {Ss : List ev_S} (h : ev_bin f ok n (pc, L, st, w, K, ce, sl) = some Ss)
    {s : State} {A : Nat → Prop} {D : va_G} {nL : Nat} {g : ev_G} {ws : va_W} {H : Heap} {locs : List Loc} {ls : Array Slot} {sc : List Value} (hR : ev_R s A D nL g (pc, L, st, w, K, ce, sl) ws H locs ls sc) :
    ∃ (x y : Int32) (rest : List Value) (S' : ev_S), sc = .int y :: .int x :: rest ∧ ok y = true ∧ Ss = [S'] ∧ S'.1 = pc + n ∧ S'.2.2.2.2.2 = (ce, sl) ∧ ∃ g', ev_le g g' ∧ ev_R s A D nL g' S' ws H locs ls (.int (f x y) :: rest) := by
  unfold ev_bin at h
  split at h
  · rename_i y x st' e
    dsimp only at e
    subst e
    split at h
    · rename_i hi
      have hR0 := hR
      obtain ⟨hP, hD, hS, hW, hB, hL, hs⟩ := hR0
      obtain ⟨vy, sc1, rfl, hvy, hs1⟩ := ev_s_cons hs
      obtain ⟨vx, sc2, rfl, hvx, hs2⟩ := ev_s_cons hs1
      obtain ⟨y0, rfl⟩ := ev_vI hi.2 hvy
      obtain ⟨x0, rfl⟩ := ev_vI hi.1 hvx
      have fr : ∃ g', ev_le g g' ∧ ev_R s A D nL g' (ev_advK (pc, L, y :: x :: st', w, K, ce, sl) n ((3, (K.length : Int)) :: st') ev_full) ws H locs ls (.int (f x0 y0) :: sc2) := by
        obtain ⟨g', l1, ⟨hP, hD, hS, hW, hB, hL, hs⟩, e1⟩ := ev_fresh hR (.int (f x0 y0)) ev_full (fun z hz => by cases hz; exact ev_full_ok _)
        exact ⟨g', l1, hP, hD, hS, hW, hB, hL, ev_v3 e1, hs.2.2⟩
      split at h
      · rename_i hz
        split at h
        · rename_i hy
          cases h
          obtain ⟨xt, xn⟩ := x
          obtain ⟨yt, yn⟩ := y
          obtain ⟨rfl, rfl⟩ := hz
          have ex : Int32.ofInt xn = x0 := Value.int.inj (Option.some.inj hvx)
          have ey : Int32.ofInt yn = y0 := Value.int.inj (Option.some.inj hvy)
          dsimp only at hy ⊢
          rw [ex, ey]
          exact ⟨x0, y0, sc2, _, rfl, by rw [← ey]; exact hy, rfl, rfl, rfl, g, ev_le_rf g, hP, hD, hS, hW, hB, hL, ev_v0 g _, hs2⟩
        · cases h
      · split at h
        · rename_i hz
          split at h
          · rename_i hy
            cases h
            obtain ⟨yt, yn⟩ := y
            have hz : yt = 0 := hz
            subst hz
            have ey : Int32.ofInt yn = y0 := Value.int.inj (Option.some.inj hvy)
            exact ⟨x0, y0, sc2, _, rfl, by rw [← ey]; exact hy, rfl, rfl, rfl, fr⟩
          · cases h
        · split at h
          · rename_i hy
            cases h
            exact ⟨x0, y0, sc2, _, rfl, hok0 hy _, rfl, rfl, rfl, fr⟩
          · cases h
    · cases h
  · cases h
theorem ev_Go_eq {p : Program} {l : Launch} {e : Env} {R : Room} {s : State} {m : MethodId} {args : Array Value} {below : List Frame} {meth : Method} {c : Code} {Q : State → Prop} {nL : Nat} {D : va_G} {A : Nat → Prop} {g0 : ev_G} {S : ev_S} {pc ce sl : Nat} (h : ev_Go p l e R s m args below meth c Q nL D A g0 S) (h1 : S.1 = pc) (h2 : S.2.2.2.2.2 = (ce, sl))
    {g : ev_G} {ws : va_W} {H : Heap} {locs : List Loc} {ls : Array Slot} {sc : List Value} (hle : ev_le g0 g) (hR : ev_R s A D nL g S ws H locs ls sc) : W p l e R s m args below meth c H locs ce sl Q (F0 m pc ls sc) := by
  have := h g ws H locs ls sc hle hR
  rw [h1, h2] at this
  exact this

def ev_iadd : ev_O := (fun _ _ => some (.iadd, 1, []), fun _ _ S => ev_bin (fun x y => x + y) (fun _ => true) 1 S)
theorem ev_iadd_ok : ev_Snd ev_iadd := by
  intro p l e R s m args below meth c cc Q D A g0 P t S i n cs Ss X h1 hd hw h2 hk g ws H locs ls sc hle hR
  obtain ⟨hx, hb, hml, hown, hts, hK, hA, hN, hini, hcC, hcS, hf, hlc, hscr⟩ := X
  obtain ⟨pc, L, st, w, K, ce, sl⟩ := S
  have h1 : some ((.iadd : Instr), (1 : Nat), ([] : List Cond)) = some (i, n, cs) := h1
  cases h1
  · obtain ⟨x0, y0, rest, S', rfl, hy, rfl, e1, e2, g', l1, hR'⟩ := ev_bin_ok (fun x y => x + y) (fun _ => true) (fun _ _ => rfl) (show ev_bin (fun x y => x + y) (fun _ => true) 1 (pc, L, st, w, K, ce, sl) = some Ss from h2) hR
    exact lv_iadd hx hb hd (ev_Go_eq (hk S' (List.mem_singleton.mpr rfl)) e1 e2 (ev_le_tr hle l1) hR')

def ev_isub : ev_O := (fun _ _ => some (.isub, 1, []), fun _ _ S => ev_bin (fun x y => x - y) (fun _ => true) 1 S)
theorem ev_isub_ok : ev_Snd ev_isub := by
  intro p l e R s m args below meth c cc Q D A g0 P t S i n cs Ss X h1 hd hw h2 hk g ws H locs ls sc hle hR
  obtain ⟨hx, hb, hml, hown, hts, hK, hA, hN, hini, hcC, hcS, hf, hlc, hscr⟩ := X
  obtain ⟨pc, L, st, w, K, ce, sl⟩ := S
  have h1 : some ((.isub : Instr), (1 : Nat), ([] : List Cond)) = some (i, n, cs) := h1
  cases h1
  · obtain ⟨x0, y0, rest, S', rfl, hy, rfl, e1, e2, g', l1, hR'⟩ := ev_bin_ok (fun x y => x - y) (fun _ => true) (fun _ _ => rfl) (show ev_bin (fun x y => x - y) (fun _ => true) 1 (pc, L, st, w, K, ce, sl) = some Ss from h2) hR
    exact lv_isub hx hb hd (ev_Go_eq (hk S' (List.mem_singleton.mpr rfl)) e1 e2 (ev_le_tr hle l1) hR')

def ev_imul : ev_O := (fun _ _ => some (.imul, 1, []), fun _ _ S => ev_bin (fun x y => x * y) (fun _ => true) 1 S)
theorem ev_imul_ok : ev_Snd ev_imul := by
  intro p l e R s m args below meth c cc Q D A g0 P t S i n cs Ss X h1 hd hw h2 hk g ws H locs ls sc hle hR
  obtain ⟨hx, hb, hml, hown, hts, hK, hA, hN, hini, hcC, hcS, hf, hlc, hscr⟩ := X
  obtain ⟨pc, L, st, w, K, ce, sl⟩ := S
  have h1 : some ((.imul : Instr), (1 : Nat), ([] : List Cond)) = some (i, n, cs) := h1
  cases h1
  · obtain ⟨x0, y0, rest, S', rfl, hy, rfl, e1, e2, g', l1, hR'⟩ := ev_bin_ok (fun x y => x * y) (fun _ => true) (fun _ _ => rfl) (show ev_bin (fun x y => x * y) (fun _ => true) 1 (pc, L, st, w, K, ce, sl) = some Ss from h2) hR
    exact lv_imul hx hb hd (ev_Go_eq (hk S' (List.mem_singleton.mpr rfl)) e1 e2 (ev_le_tr hle l1) hR')

def ev_iand : ev_O := (fun _ _ => some (.iand, 1, []), fun _ _ S => ev_bin (fun x y => x &&& y) (fun _ => true) 1 S)
theorem ev_iand_ok : ev_Snd ev_iand := by
  intro p l e R s m args below meth c cc Q D A g0 P t S i n cs Ss X h1 hd hw h2 hk g ws H locs ls sc hle hR
  obtain ⟨hx, hb, hml, hown, hts, hK, hA, hN, hini, hcC, hcS, hf, hlc, hscr⟩ := X
  obtain ⟨pc, L, st, w, K, ce, sl⟩ := S
  have h1 : some ((.iand : Instr), (1 : Nat), ([] : List Cond)) = some (i, n, cs) := h1
  cases h1
  · obtain ⟨x0, y0, rest, S', rfl, hy, rfl, e1, e2, g', l1, hR'⟩ := ev_bin_ok (fun x y => x &&& y) (fun _ => true) (fun _ _ => rfl) (show ev_bin (fun x y => x &&& y) (fun _ => true) 1 (pc, L, st, w, K, ce, sl) = some Ss from h2) hR
    exact lv_iand hx hb hd (ev_Go_eq (hk S' (List.mem_singleton.mpr rfl)) e1 e2 (ev_le_tr hle l1) hR')

def ev_ior : ev_O := (fun _ _ => some (.ior, 1, []), fun _ _ S => ev_bin (fun x y => x ||| y) (fun _ => true) 1 S)
theorem ev_ior_ok : ev_Snd ev_ior := by
  intro p l e R s m args below meth c cc Q D A g0 P t S i n cs Ss X h1 hd hw h2 hk g ws H locs ls sc hle hR
  obtain ⟨hx, hb, hml, hown, hts, hK, hA, hN, hini, hcC, hcS, hf, hlc, hscr⟩ := X
  obtain ⟨pc, L, st, w, K, ce, sl⟩ := S
  have h1 : some ((.ior : Instr), (1 : Nat), ([] : List Cond)) = some (i, n, cs) := h1
  cases h1
  · obtain ⟨x0, y0, rest, S', rfl, hy, rfl, e1, e2, g', l1, hR'⟩ := ev_bin_ok (fun x y => x ||| y) (fun _ => true) (fun _ _ => rfl) (show ev_bin (fun x y => x ||| y) (fun _ => true) 1 (pc, L, st, w, K, ce, sl) = some Ss from h2) hR
    exact lv_ior hx hb hd (ev_Go_eq (hk S' (List.mem_singleton.mpr rfl)) e1 e2 (ev_le_tr hle l1) hR')

def ev_ixor : ev_O := (fun _ _ => some (.ixor, 1, []), fun _ _ S => ev_bin (fun x y => x ^^^ y) (fun _ => true) 1 S)
theorem ev_ixor_ok : ev_Snd ev_ixor := by
  intro p l e R s m args below meth c cc Q D A g0 P t S i n cs Ss X h1 hd hw h2 hk g ws H locs ls sc hle hR
  obtain ⟨hx, hb, hml, hown, hts, hK, hA, hN, hini, hcC, hcS, hf, hlc, hscr⟩ := X
  obtain ⟨pc, L, st, w, K, ce, sl⟩ := S
  have h1 : some ((.ixor : Instr), (1 : Nat), ([] : List Cond)) = some (i, n, cs) := h1
  cases h1
  · obtain ⟨x0, y0, rest, S', rfl, hy, rfl, e1, e2, g', l1, hR'⟩ := ev_bin_ok (fun x y => x ^^^ y) (fun _ => true) (fun _ _ => rfl) (show ev_bin (fun x y => x ^^^ y) (fun _ => true) 1 (pc, L, st, w, K, ce, sl) = some Ss from h2) hR
    exact lv_ixor hx hb hd (ev_Go_eq (hk S' (List.mem_singleton.mpr rfl)) e1 e2 (ev_le_tr hle l1) hR')

def ev_ishl : ev_O := (fun _ _ => some (.ishl, 1, []), fun _ _ S => ev_bin (fun x y => x <<< (y &&& 31)) (fun _ => true) 1 S)
theorem ev_ishl_ok : ev_Snd ev_ishl := by
  intro p l e R s m args below meth c cc Q D A g0 P t S i n cs Ss X h1 hd hw h2 hk g ws H locs ls sc hle hR
  obtain ⟨hx, hb, hml, hown, hts, hK, hA, hN, hini, hcC, hcS, hf, hlc, hscr⟩ := X
  obtain ⟨pc, L, st, w, K, ce, sl⟩ := S
  have h1 : some ((.ishl : Instr), (1 : Nat), ([] : List Cond)) = some (i, n, cs) := h1
  cases h1
  · obtain ⟨x0, y0, rest, S', rfl, hy, rfl, e1, e2, g', l1, hR'⟩ := ev_bin_ok (fun x y => x <<< (y &&& 31)) (fun _ => true) (fun _ _ => rfl) (show ev_bin (fun x y => x <<< (y &&& 31)) (fun _ => true) 1 (pc, L, st, w, K, ce, sl) = some Ss from h2) hR
    exact lv_ishl hx hb hd (ev_Go_eq (hk S' (List.mem_singleton.mpr rfl)) e1 e2 (ev_le_tr hle l1) hR')

def ev_ishr : ev_O := (fun _ _ => some (.ishr, 1, []), fun _ _ S => ev_bin (fun x y => x >>> (y &&& 31)) (fun _ => true) 1 S)
theorem ev_ishr_ok : ev_Snd ev_ishr := by
  intro p l e R s m args below meth c cc Q D A g0 P t S i n cs Ss X h1 hd hw h2 hk g ws H locs ls sc hle hR
  obtain ⟨hx, hb, hml, hown, hts, hK, hA, hN, hini, hcC, hcS, hf, hlc, hscr⟩ := X
  obtain ⟨pc, L, st, w, K, ce, sl⟩ := S
  have h1 : some ((.ishr : Instr), (1 : Nat), ([] : List Cond)) = some (i, n, cs) := h1
  cases h1
  · obtain ⟨x0, y0, rest, S', rfl, hy, rfl, e1, e2, g', l1, hR'⟩ := ev_bin_ok (fun x y => x >>> (y &&& 31)) (fun _ => true) (fun _ _ => rfl) (show ev_bin (fun x y => x >>> (y &&& 31)) (fun _ => true) 1 (pc, L, st, w, K, ce, sl) = some Ss from h2) hR
    exact lv_ishr hx hb hd (ev_Go_eq (hk S' (List.mem_singleton.mpr rfl)) e1 e2 (ev_le_tr hle l1) hR')

def ev_iushr : ev_O := (fun _ _ => some (.iushr, 1, []), fun _ _ S => ev_bin (fun x y => (x.toUInt32 >>> (y.toUInt32 &&& Int32.toUInt32 31)).toInt32) (fun _ => true) 1 S)
theorem ev_iushr_ok : ev_Snd ev_iushr := by
  intro p l e R s m args below meth c cc Q D A g0 P t S i n cs Ss X h1 hd hw h2 hk g ws H locs ls sc hle hR
  obtain ⟨hx, hb, hml, hown, hts, hK, hA, hN, hini, hcC, hcS, hf, hlc, hscr⟩ := X
  obtain ⟨pc, L, st, w, K, ce, sl⟩ := S
  have h1 : some ((.iushr : Instr), (1 : Nat), ([] : List Cond)) = some (i, n, cs) := h1
  cases h1
  · obtain ⟨x0, y0, rest, S', rfl, hy, rfl, e1, e2, g', l1, hR'⟩ := ev_bin_ok (fun x y => (x.toUInt32 >>> (y.toUInt32 &&& Int32.toUInt32 31)).toInt32) (fun _ => true) (fun _ _ => rfl) (show ev_bin (fun x y => (x.toUInt32 >>> (y.toUInt32 &&& Int32.toUInt32 31)).toInt32) (fun _ => true) 1 (pc, L, st, w, K, ce, sl) = some Ss from h2) hR
    exact lv_iushr hx hb hd rfl (ev_Go_eq (hk S' (List.mem_singleton.mpr rfl)) e1 e2 (ev_le_tr hle l1) hR')

def ev_idiv : ev_O := (fun _ _ => some (.idiv, 1, []), fun _ _ S => ev_bin (fun x y => x / y) (fun y => !(y == 0)) 1 S)
theorem ev_idiv_ok : ev_Snd ev_idiv := by
  intro p l e R s m args below meth c cc Q D A g0 P t S i n cs Ss X h1 hd hw h2 hk g ws H locs ls sc hle hR
  obtain ⟨hx, hb, hml, hown, hts, hK, hA, hN, hini, hcC, hcS, hf, hlc, hscr⟩ := X
  obtain ⟨pc, L, st, w, K, ce, sl⟩ := S
  have h1 : some ((.idiv : Instr), (1 : Nat), ([] : List Cond)) = some (i, n, cs) := h1
  cases h1
  · obtain ⟨x0, y0, rest, S', rfl, hy, rfl, e1, e2, g', l1, hR'⟩ := ev_bin_ok (fun x y => x / y) (fun y => !(y == 0)) (fun h => by simp at h) (show ev_bin (fun x y => x / y) (fun y => !(y == 0)) 1 (pc, L, st, w, K, ce, sl) = some Ss from h2) hR
    have hne : ¬ y0 = 0 := by simpa using hy
    exact lv_idiv hx hb hd hne (ev_Go_eq (hk S' (List.mem_singleton.mpr rfl)) e1 e2 (ev_le_tr hle l1) hR')

def ev_irem : ev_O := (fun _ _ => some (.irem, 1, []), fun _ _ S => ev_bin (fun x y => x - x / y * y) (fun y => !(y == 0)) 1 S)
theorem ev_irem_ok : ev_Snd ev_irem := by
  intro p l e R s m args below meth c cc Q D A g0 P t S i n cs Ss X h1 hd hw h2 hk g ws H locs ls sc hle hR
  obtain ⟨hx, hb, hml, hown, hts, hK, hA, hN, hini, hcC, hcS, hf, hlc, hscr⟩ := X
  obtain ⟨pc, L, st, w, K, ce, sl⟩ := S
  have h1 : some ((.irem : Instr), (1 : Nat), ([] : List Cond)) = some (i, n, cs) := h1
  cases h1
  · obtain ⟨x0, y0, rest, S', rfl, hy, rfl, e1, e2, g', l1, hR'⟩ := ev_bin_ok (fun x y => x - x / y * y) (fun y => !(y == 0)) (fun h => by simp at h) (show ev_bin (fun x y => x - x / y * y) (fun y => !(y == 0)) 1 (pc, L, st, w, K, ce, sl) = some Ss from h2) hR
    have hne : ¬ y0 = 0 := by simpa using hy
    exact lv_irem hx hb hd hne (ev_Go_eq (hk S' (List.mem_singleton.mpr rfl)) e1 e2 (ev_le_tr hle l1) hR')

def ev_una (f : Int32 → Int32) (n : Nat) (r : Int × Int) (S : ev_S) : Option (List ev_S) := match S.2.2.1 with
  | x :: st =>
    if ev_isI x = true then
      (if x.1 = 0 then some [ev_adv S n ((0, (f (Int32.ofInt x.2)).toInt) :: st)]
       else some [ev_advK S n ((3, (S.2.2.2.2.1.length : Int)) :: st) r])
    else none
  | _ => none
theorem ev_una_ok (f : Int32 → Int32) (r : Int × Int) (hr : ∀ x, r.1 ≤ (f x).toInt ∧ (f x).toInt ≤ r.2) {n pc : Nat} {L : List (Nat × ev_A)} {st : List ev_A} {w : List ev_C} {K : ev_K} {ce sl : Nat} {Ss : List ev_S} (h : ev_una f n r (pc, L, st, w, K, ce, sl) = some Ss)
    {s : State} {A : Nat → Prop} {D : va_G} {nL : Nat} {g : ev_G} {ws : va_W} {H : Heap} {locs : List Loc} {ls : Array Slot} {sc : List Value} (hR : ev_R s A D nL g (pc, L, st, w, K, ce, sl) ws H locs ls sc) :
    ∃ (x : Int32) (rest : List Value) (S' : ev_S), sc = .int x :: rest ∧ Ss = [S'] ∧ S'.1 = pc + n ∧ S'.2.2.2.2.2 = (ce, sl) ∧ ∃ g', ev_le g g' ∧ ev_R s A D nL g' S' ws H locs ls (.int (f x) :: rest) := by
  unfold ev_una at h
  split at h
  · rename_i x st' e
    dsimp only at e
    subst e
    split at h
    · rename_i hi
      have hR0 := hR
      obtain ⟨hP, hD, hS, hW, hB, hL, hs⟩ := hR0
      obtain ⟨vx, sc2, rfl, hvx, hs2⟩ := ev_s_cons hs
      obtain ⟨x0, rfl⟩ := ev_vI hi hvx
      split at h
      · rename_i hz
        cases h
        obtain ⟨xt, xn⟩ := x
        have hz : xt = 0 := hz
        subst hz
        have ex : Int32.ofInt xn = x0 := Value.int.inj (Option.some.inj hvx)
        dsimp only
        rw [ex]
        exact ⟨x0, sc2, _, rfl, rfl, rfl, rfl, g, ev_le_rf g, hP, hD, hS, hW, hB, hL, ev_v0 g _, hs2⟩
      · cases h
        obtain ⟨g', l1, ⟨hP, hD, hS, hW, hB, hL, hs⟩, e1⟩ := ev_fresh hR (.int (f x0)) r (fun z hz => by cases hz; exact hr _)
        exact ⟨x0, sc2, _, rfl, rfl, rfl, rfl, g', l1, hP, hD, hS, hW, hB, hL, ev_v3 e1, hs.2⟩
    · cases h
  · cases h

def ev_ineg : ev_O := (fun _ _ => some (.ineg, 1, []), fun _ _ S => ev_una (fun x => -x) 1 ev_full S)
theorem ev_ineg_ok : ev_Snd ev_ineg := by
  intro p l e R s m args below meth c cc Q D A g0 P t S i n cs Ss X h1 hd hw h2 hk g ws H locs ls sc hle hR
  obtain ⟨hx, hb, hml, hown, hts, hK, hA, hN, hini, hcC, hcS, hf, hlc, hscr⟩ := X
  obtain ⟨pc, L, st, w, K, ce, sl⟩ := S
  have h1 : some ((.ineg : Instr), (1 : Nat), ([] : List Cond)) = some (i, n, cs) := h1
  cases h1
  · obtain ⟨x0, rest, S', rfl, rfl, e1, e2, g', l1, hR'⟩ := ev_una_ok (fun x => -x) ev_full (fun _ => ev_full_ok _) (show ev_una (fun x => -x) 1 ev_full (pc, L, st, w, K, ce, sl) = some Ss from h2) hR
    exact lv_ineg hx hb hd (ev_Go_eq (hk S' (List.mem_singleton.mpr rfl)) e1 e2 (ev_le_tr hle l1) hR')

def ev_i2b : ev_O := (fun _ _ => some (.i2b, 1, []), fun _ _ S => ev_una (fun x => x.toInt8.toInt32) 1 ev_full S)
theorem ev_i2b_ok : ev_Snd ev_i2b := by
  intro p l e R s m args below meth c cc Q D A g0 P t S i n cs Ss X h1 hd hw h2 hk g ws H locs ls sc hle hR
  obtain ⟨hx, hb, hml, hown, hts, hK, hA, hN, hini, hcC, hcS, hf, hlc, hscr⟩ := X
  obtain ⟨pc, L, st, w, K, ce, sl⟩ := S
  have h1 : some ((.i2b : Instr), (1 : Nat), ([] : List Cond)) = some (i, n, cs) := h1
  cases h1
  · obtain ⟨x0, rest, S', rfl, rfl, e1, e2, g', l1, hR'⟩ := ev_una_ok (fun x => x.toInt8.toInt32) ev_full (fun _ => ev_full_ok _) (show ev_una (fun x => x.toInt8.toInt32) 1 ev_full (pc, L, st, w, K, ce, sl) = some Ss from h2) hR
    exact lv_i2b hx hb hd rfl (ev_Go_eq (hk S' (List.mem_singleton.mpr rfl)) e1 e2 (ev_le_tr hle l1) hR')

def ev_i2l : ev_O := (fun _ _ => some (.i2l, 1, []), fun _ _ S => match S.2.2.1 with
  | x :: st => if ev_isI x = true then (if x.1 = 0 then some [ev_adv S 1 ((4, ((Int32.ofInt x.2).toInt64).toInt) :: st)] else some [ev_advK S 1 ((6, (S.2.2.2.2.1.length : Int)) :: st) ev_full]) else none
  | _ => none)
theorem ev_i2l_ok : ev_Snd ev_i2l := by
  intro p l e R s m args below meth c cc Q D A g0 P t S i n cs Ss X h1 hd hw h2 hk g ws H locs ls sc hle hR
  obtain ⟨hx, hb, hml, hown, hts, hK, hA, hN, hini, hcC, hcS, hf, hlc, hscr⟩ := X
  obtain ⟨pc, L, st, w, K, ce, sl⟩ := S
  have h1 : some ((.i2l : Instr), (1 : Nat), ([] : List Cond)) = some (i, n, cs) := h1
  cases h1
  unfold ev_i2l at h2
  dsimp only at h2
  split at h2
  · rename_i x st'
    split at h2
    · rename_i hi
      have hR0 := hR
      obtain ⟨hP, hD, hS, hW, hB, hL, hs⟩ := hR0
      obtain ⟨vx, sc2, rfl, hvx, hs2⟩ := ev_s_cons hs
      obtain ⟨x0, rfl⟩ := ev_vI hi hvx
      split at h2
      · rename_i hz
        cases h2
        obtain ⟨xt, xn⟩ := x
        have hz : xt = 0 := hz
        subst hz
        have ex : Int32.ofInt xn = x0 := Value.int.inj (Option.some.inj hvx)
        exact lv_i2l hx hb hd rfl (hk _ (List.mem_singleton.mpr rfl) g ws H locs ls _ hle ⟨hP, hD, hS, hW, hB, hL, by dsimp only; rw [ex]; exact ev_v4 g _, hs2⟩)
      · cases h2
        obtain ⟨g', l1, ⟨hP, hD, hS, hW, hB, hL, hs⟩, e1⟩ := ev_fresh hR (.long x0.toInt64) ev_full (fun z hz => by cases hz)
        exact lv_i2l hx hb hd rfl (hk _ (List.mem_singleton.mpr rfl) g' ws H locs ls _ (ev_le_tr hle l1) ⟨hP, hD, hS, hW, hB, hL, ev_v6 e1, hs.2⟩)
    · cases h2
  · cases h2
def ev_lcmp : ev_O := (fun _ _ => some (.lcmp, 1, []), fun _ _ S => match S.2.2.1 with
  | y :: x :: st => if ev_isL x = true ∧ ev_isL y = true then (if x.1 = 4 ∧ y.1 = 4 then some [ev_adv S 1 ((0, (lg_cmp (Int64.ofInt x.2) (Int64.ofInt y.2)).toInt) :: st)] else some [ev_advK S 1 ((3, (S.2.2.2.2.1.length : Int)) :: st) ev_full]) else none
  | _ => none)
theorem ev_lcmp_ok : ev_Snd ev_lcmp := by
  intro p l e R s m args below meth c cc Q D A g0 P t S i n cs Ss X h1 hd hw h2 hk g ws H locs ls sc hle hR
  obtain ⟨hx, hb, hml, hown, hts, hK, hA, hN, hini, hcC, hcS, hf, hlc, hscr⟩ := X
  obtain ⟨pc, L, st, w, K, ce, sl⟩ := S
  have h1 : some ((.lcmp : Instr), (1 : Nat), ([] : List Cond)) = some (i, n, cs) := h1
  cases h1
  unfold ev_lcmp at h2
  dsimp only at h2
  split at h2
  · rename_i y x st'
    split at h2
    · rename_i hi
      have hR0 := hR
      obtain ⟨hP, hD, hS, hW, hB, hL, hs⟩ := hR0
      obtain ⟨vy, sc1, rfl, hvy, hs1⟩ := ev_s_cons hs
      obtain ⟨vx, sc2, rfl, hvx, hs2⟩ := ev_s_cons hs1
      obtain ⟨y0, rfl⟩ := ev_vL hi.2 hvy
      obtain ⟨x0, rfl⟩ := ev_vL hi.1 hvx
      split at h2
      · rename_i hz
        cases h2
        obtain ⟨xt, xn⟩ := x
        obtain ⟨yt, yn⟩ := y
        obtain ⟨rfl, rfl⟩ := hz
        have ex : Int64.ofInt xn = x0 := Value.long.inj (Option.some.inj hvx)
        have ey : Int64.ofInt yn = y0 := Value.long.inj (Option.some.inj hvy)
        exact W.lcmp hx hb hd (hk _ (List.mem_singleton.mpr rfl) g ws H locs ls _ hle ⟨hP, hD, hS, hW, hB, hL, by dsimp only; rw [ex, ey]; exact ev_v0 g _, hs2⟩)
      · cases h2
        obtain ⟨g', l1, ⟨hP, hD, hS, hW, hB, hL, hs⟩, e1⟩ := ev_fresh hR (.int (lg_cmp x0 y0)) ev_full (fun z hz => ev_full_ok _)
        exact W.lcmp hx hb hd (hk _ (List.mem_singleton.mpr rfl) g' ws H locs ls _ (ev_le_tr hle l1) ⟨hP, hD, hS, hW, hB, hL, ev_v3 e1, hs.2.2⟩)
    · cases h2
  · cases h2
/-! the stack -/
def ev_dup : ev_O := (fun _ _ => some (.dup, 1, []), fun _ _ S => match S.2.2.1 with
  | x :: st => if ev_isL x = false then some [ev_adv S 1 (x :: x :: st)] else none
  | _ => none)
theorem ev_cat1 {g : ev_G} {a : ev_A} {v : Value} (hv : ev_v g a = some v) (h : ev_isL a = false) : v.category = 1 := by
  rcases ev_cat hv with ⟨h1, h2⟩ | ⟨h1, h2⟩
  · rw [h] at h1; cases h1
  · exact h2
theorem ev_cat2 {g : ev_G} {a : ev_A} {v : Value} (hv : ev_v g a = some v) (h : ev_isL a = true) : v.category = 2 := by
  rcases ev_cat hv with ⟨h1, h2⟩ | ⟨h1, h2⟩
  · exact h2
  · rw [h] at h1; cases h1
theorem ev_dup_ok : ev_Snd ev_dup := by
  intro p l e R s m args below meth c cc Q D A g0 P t S i n cs Ss X h1 hd hw h2 hk g ws H locs ls sc hle hR
  obtain ⟨hx, hb, hml, hown, hts, hK, hA, hN, hini, hcC, hcS, hf, hlc, hscr⟩ := X
  obtain ⟨pc, L, st, w, K, ce, sl⟩ := S
  have h1 : some ((.dup : Instr), (1 : Nat), ([] : List Cond)) = some (i, n, cs) := h1
  cases h1
  unfold ev_dup at h2
  dsimp only at h2
  split at h2
  · rename_i x st'
    split at h2
    · rename_i hi
      cases h2
      obtain ⟨hP, hD, hS, hW, hB, hL, hs⟩ := hR
      obtain ⟨vx, sc2, rfl, hvx, hs2⟩ := ev_s_cons hs
      exact lv_dup hx hb hd (ev_cat1 hvx hi) (hk _ (List.mem_singleton.mpr rfl) g ws H locs ls _ hle ⟨hP, hD, hS, hW, hB, hL, hvx, hvx, hs2⟩)
    · cases h2
  · cases h2
def ev_pop : ev_O := (fun _ _ => some (.pop, 1, []), fun _ _ S => match S.2.2.1 with
  | x :: st => if ev_isL x = false then some [ev_adv S 1 st] else none
  | _ => none)
theorem ev_pop_ok : ev_Snd ev_pop := by
  intro p l e R s m args below meth c cc Q D A g0 P t S i n cs Ss X h1 hd hw h2 hk g ws H locs ls sc hle hR
  obtain ⟨hx, hb, hml, hown, hts, hK, hA, hN, hini, hcC, hcS, hf, hlc, hscr⟩ := X
  obtain ⟨pc, L, st, w, K, ce, sl⟩ := S
  have h1 : some ((.pop : Instr), (1 : Nat), ([] : List Cond)) = some (i, n, cs) := h1
  cases h1
  unfold ev_pop at h2
  dsimp only at h2
  split at h2
  · rename_i x st'
    split at h2
    · rename_i hi
      cases h2
      obtain ⟨hP, hD, hS, hW, hB, hL, hs⟩ := hR
      obtain ⟨vx, sc2, rfl, hvx, hs2⟩ := ev_s_cons hs
      exact lv_pop hx hb hd (ev_cat1 hvx hi) (hk _ (List.mem_singleton.mpr rfl) g ws H locs ls _ hle ⟨hP, hD, hS, hW, hB, hL, hs2⟩)
    · cases h2
  · cases h2
def ev_dup2 : ev_O := (fun _ _ => some (.dup2, 1, []), fun _ _ S => match S.2.2.1 with
  | x :: y :: st => if ev_isL x = false ∧ ev_isL y = false then some [ev_adv S 1 (x :: y :: x :: y :: st)] else none
  | _ => none)
theorem ev_dup2_ok : ev_Snd ev_dup2 := by
  intro p l e R s m args below meth c cc Q D A g0 P t S i n cs Ss X h1 hd hw h2 hk g ws H locs ls sc hle hR
  obtain ⟨hx, hb, hml, hown, hts, hK, hA, hN, hini, hcC, hcS, hf, hlc, hscr⟩ := X
  obtain ⟨pc, L, st, w, K, ce, sl⟩ := S
  have h1 : some ((.dup2 : Instr), (1 : Nat), ([] : List Cond)) = some (i, n, cs) := h1
  cases h1
  unfold ev_dup2 at h2
  dsimp only at h2
  split at h2
  · rename_i x y st'
    split at h2
    · rename_i hi
      cases h2
      obtain ⟨hP, hD, hS, hW, hB, hL, hs⟩ := hR
      obtain ⟨vx, sc1, rfl, hvx, hs1⟩ := ev_s_cons hs
      obtain ⟨vy, sc2, rfl, hvy, hs2⟩ := ev_s_cons hs1
      exact lv_dup2_11 hx hb hd (ev_cat1 hvx hi.1) (ev_cat1 hvy hi.2) (hk _ (List.mem_singleton.mpr rfl) g ws H locs ls _ hle ⟨hP, hD, hS, hW, hB, hL, hvx, hvy, hvx, hvy, hs2⟩)
    · cases h2
  · cases h2
/-! iinc -/
def ev_iinc : ev_O := (fun _ t => some (.iinc t.1.toNat t.2.1, 3, []), fun P t S => match ev_look S.2.1 t.1.toNat with
  | some x => if ev_isI x = true ∧ t.1.toNat < P.2.2.2.2.1 then (if x.1 = 0 then some [(S.1 + 3, ev_st1 S.2.1 t.1.toNat (0, (Int32.ofInt x.2 + Int32.ofInt t.2.1).toInt), S.2.2)] else some [(S.1 + 3, ev_st1 S.2.1 t.1.toNat (3, (S.2.2.2.2.1.length : Int)), S.2.2.1, S.2.2.2.1, S.2.2.2.2.1 ++ [ev_full], S.2.2.2.2.2)]) else none
  | none => none)
theorem ev_iinc_ok : ev_Snd ev_iinc := by
  intro p l e R s m args below meth c cc Q D A g0 P t S i n cs Ss X h1 hd hw h2 hk g ws H locs ls sc hle hR
  obtain ⟨hx, hb, hml, hown, hts, hK, hA, hN, hini, hcC, hcS, hf, hlc, hscr⟩ := X
  obtain ⟨pc, L, st, w, K, ce, sl⟩ := S
  have h1 : some ((.iinc t.1.toNat t.2.1 : Instr), (3 : Nat), ([] : List Cond)) = some (i, n, cs) := h1
  cases h1
  unfold ev_iinc at h2
  dsimp only at h2
  split at h2
  · rename_i x ha
    split at h2
    · rename_i hi
      have hR0 := hR
      obtain ⟨hP, hD, hS, hW, hB, hL, hs⟩ := hR0
      obtain ⟨v, hv, hl⟩ := hL.2.2 _ (ev_look_mem ha)
      dsimp only at hv hl
      obtain ⟨x0, rfl⟩ := ev_vI hi.1 hv
      split at h2
      · rename_i hz
        cases h2
        obtain ⟨xt, xn⟩ := x
        have hz : xt = 0 := hz
        subst hz
        have ex : Int32.ofInt xn = x0 := Value.int.inj (Option.some.inj hv)
        obtain ⟨k, hk1⟩ := List.getElem?_of_mem (ev_conc_mem (ev_look_mem ha) hv)
        refine lv_iinc hx hb hd (ev_conc_has hL) hk1 rfl hi.2 rfl (fun ls' hl' => hk _ (List.mem_singleton.mpr rfl) g ws H locs ls' _ hle ⟨hP, hD, hS, hW, hB, ev_st1_ok hL ?_ hl', hs⟩)
        dsimp only
        rw [ex]
        exact ev_v0 g _
      · cases h2
        obtain ⟨g', l1, ⟨hP, hD, hS, hW, hB, hL, hs⟩, e1⟩ := ev_fresh hR (.int (x0 + Int32.ofInt t.2.1)) ev_full (fun z hz => ev_full_ok _)
        have hv := ev_v_le l1 hv
        obtain ⟨k, hk1⟩ := List.getElem?_of_mem (ev_conc_mem (ev_look_mem ha) hv)
        exact lv_iinc hx hb hd (ev_conc_has hL) hk1 rfl hi.2 rfl (fun ls' hl' => hk _ (List.mem_singleton.mpr rfl) g' ws H locs ls' _ (ev_le_tr hle l1) ⟨hP, hD, hS, hW, hB, ev_st1_ok hL (ev_v3 e1) hl', hs⟩)
    · cases h2
  · cases h2
/-! branches: 0 eq, 1 ne, 2 lt, 3 ge, 4 gt, 5 le -/
def ev_cmp (r : Nat) (x y : Int32) : Bool := match r with
  | 0 => decide (x = y)
  | 1 => !decide (x = y)
  | 2 => decide (x < y)
  | 3 => decide (y ≤ x)
  | 4 => decide (y < x)
  | _ => decide (x ≤ y)
def ev_neg (r : Nat) : Nat := match r with
  | 0 => 1
  | 1 => 0
  | 2 => 3
  | 3 => 2
  | 4 => 5
  | _ => 4
theorem ev_neg_ok (r : Nat) (x y : Int32) : ev_cmp (ev_neg r) x y = !ev_cmp r x y := by
  match r with
  | 0 => simp [ev_neg, ev_cmp]
  | 1 => simp [ev_neg, ev_cmp]
  | 2 => show decide (y ≤ x) = !decide (x < y); rw [← decide_not]; exact decide_eq_decide.mpr Int32.not_lt.symm
  | 3 => show decide (x < y) = !decide (y ≤ x); rw [← decide_not]; exact decide_eq_decide.mpr Int32.not_le.symm
  | 4 => show decide (x ≤ y) = !decide (y < x); rw [← decide_not]; exact decide_eq_decide.mpr Int32.not_lt.symm
  | n + 5 => show decide (y < x) = !decide (x ≤ y); rw [← decide_not]; exact decide_eq_decide.mpr Int32.not_le.symm
def ev_swp (r : Nat) : Nat := match r with
  | 0 => 0
  | 1 => 1
  | 2 => 4
  | 3 => 5
  | 4 => 2
  | _ => 3
theorem ev_swp_ok (r : Nat) (x y : Int32) : ev_cmp (ev_swp r) y x = ev_cmp r x y := by
  match r with
  | 0 => simp [ev_swp, ev_cmp, eq_comm]
  | 1 => simp [ev_swp, ev_cmp, eq_comm]
  | 2 => rfl
  | 3 => rfl
  | 4 => rfl
  | n + 5 => rfl
def ev_ref (r : Nat) (b : Int × Int) (c : Int) : Int × Int := match r with
  | 0 => (max b.1 c, min b.2 c)
  | 1 => (if b.1 = c then c + 1 else b.1, if b.2 = c then c - 1 else b.2)
  | 2 => (b.1, min b.2 (c - 1))
  | 3 => (max b.1 c, b.2)
  | 4 => (max b.1 (c + 1), b.2)
  | _ => (b.1, min b.2 c)
theorem ev_ref_ok {r : Nat} {b : Int × Int} {x y : Int32} (hb : b.1 ≤ x.toInt ∧ x.toInt ≤ b.2) (h : ev_cmp r x y = true) : (ev_ref r b y.toInt).1 ≤ x.toInt ∧ x.toInt ≤ (ev_ref r b y.toInt).2 := by
  match r, h with
  | 0, h =>
    have h : x = y := by simpa [ev_cmp] using h
    subst h
    simp only [ev_ref]
    omega
  | 1, h =>
    have h : ¬ x = y := by simpa [ev_cmp] using h
    have h : ¬ x.toInt = y.toInt := fun q => h (Int32.toInt_inj.mp q)
    simp only [ev_ref]
    constructor <;> split <;> omega
  | 2, h =>
    have h : x < y := by simpa [ev_cmp] using h
    rw [Int32.lt_iff_toInt_lt] at h
    simp only [ev_ref]
    omega
  | 3, h =>
    have h : y ≤ x := by simpa [ev_cmp] using h
    rw [Int32.le_iff_toInt_le] at h
    simp only [ev_ref]
    omega
  | 4, h =>
    have h : y < x := by simpa [ev_cmp] using h
    rw [Int32.lt_iff_toInt_lt] at h
    simp only [ev_ref]
    omega
  | n + 5, h =>
    have h : x ≤ y := by simpa [ev_cmp] using h
    rw [Int32.le_iff_toInt_le] at h
    simp only [ev_ref]
    omega
/-- the bounds under which 'x r y' holds: none if it can't -/
def ev_nar (r : Nat) (a : ev_A) (c : Int32) (K : ev_K) : List ev_K := match K[a.2.toNat]? with
  | some b => if (ev_ref r b c.toInt).1 ≤ (ev_ref r b c.toInt).2 then [K.set a.2.toNat (ev_ref r b c.toInt)] else []
  | none => [K]
def ev_br (r : Nat) (x y : ev_A) (K : ev_K) : List ev_K :=
  if x.1 = 0 ∧ y.1 = 0 then (if ev_cmp r (Int32.ofInt x.2) (Int32.ofInt y.2) = true then [K] else [])
  else if x.1 = 3 ∧ y.1 = 0 then ev_nar r x (Int32.ofInt y.2) K
  else if x.1 = 0 ∧ y.1 = 3 then ev_nar (ev_swp r) y (Int32.ofInt x.2) K
  else [K]
theorem ev_b_set {K : ev_K} {E : List Value} {k : Nat} {b : Int × Int} {x : Int32} (h : ev_b K E) (hx : E[k]? = some (.int x)) (hb : b.1 ≤ x.toInt ∧ x.toInt ≤ b.2) : ev_b (K.set k b) E := by
  refine ⟨by rw [List.length_set]; exact h.1, fun j q z h1 h2 => ?_⟩
  by_cases hj : j = k
  · subst hj
    have hl : j < (K.set j b).length := (List.getElem?_eq_some_iff.mp h1).1
    rw [List.length_set] at hl
    rw [List.getElem?_set_self hl] at h1
    cases h1
    rw [hx] at h2
    cases h2
    exact hb
  · rw [List.getElem?_set_ne (Ne.symm hj)] at h1
    exact h.2 j q z h1 h2
theorem ev_var {g : ev_G} {a : ev_A} {x : Int32} (h : a.1 = 3) (hv : ev_v g a = some (.int x)) : g.2.2[a.2.toNat]? = some (.int x) := by
  obtain ⟨t, n⟩ := a
  have h : t = 3 := h
  subst h
  simp only [ev_v] at hv
  split at hv
  · rename_i z hz
    cases hv
    exact hz
  · cases hv
theorem ev_nar_ok {r : Nat} {a : ev_A} {K : ev_K} {g : ev_G} {x y : Int32} (hB : ev_b K g.2.2) (ht : a.1 = 3) (hv : ev_v g a = some (.int x)) (h : ev_cmp r x y = true) : ∃ K' ∈ ev_nar r a y K, ev_b K' g.2.2 := by
  have hE := ev_var ht hv
  unfold ev_nar
  split
  · rename_i b hb
    have h1 := hB.2 _ b x hb hE
    have h2 := ev_ref_ok h1 h
    rw [if_pos (Int.le_trans h2.1 h2.2)]
    exact ⟨_, List.mem_singleton.mpr rfl, ev_b_set hB hE h2⟩
  · exact ⟨_, List.mem_singleton.mpr rfl, hB⟩
theorem ev_br_ok {r : Nat} {a b : ev_A} {K : ev_K} {g : ev_G} {x y : Int32} (hB : ev_b K g.2.2) (ha : ev_v g a = some (.int x)) (hb : ev_v g b = some (.int y)) (h : ev_cmp r x y = true) : ∃ K' ∈ ev_br r a b K, ev_b K' g.2.2 := by
  have cst : ∀ {z : ev_A} {n : Int32}, z.1 = 0 → ev_v g z = some (.int n) → Int32.ofInt z.2 = n := by
    intro z n hz hv
    obtain ⟨t, k⟩ := z
    have hz : t = 0 := hz
    subst hz
    exact Value.int.inj (Option.some.inj hv)
  unfold ev_br
  split
  · rename_i hz
    rw [cst hz.1 ha, cst hz.2 hb, if_pos h]
    exact ⟨_, List.mem_singleton.mpr rfl, hB⟩
  · split
    · rename_i hz
      rw [cst hz.2 hb]
      exact ev_nar_ok hB hz.1 ha h
    · split
      · rename_i hz
        rw [cst hz.1 ha]
        exact ev_nar_ok hB hz.2 hb (by rw [ev_swp_ok]; exact h)
      · exact ⟨_, List.mem_singleton.mpr rfl, hB⟩
def ev_setK (S : ev_S) (pc : Nat) (st : List ev_A) (K : ev_K) : ev_S := (pc, S.2.1, st, S.2.2.2.1, K, S.2.2.2.2.2)
def ev_fork (r : Nat) (x y : ev_A) (off : Int) (st : List ev_A) (S : ev_S) : Option (List ev_S) :=
  if 0 ≤ (S.1 : Int) + off then some ((ev_br r x y S.2.2.2.2.1).map (ev_setK S ((S.1 : Int) + off).toNat st) ++ (ev_br (ev_neg r) x y S.2.2.2.2.1).map (ev_setK S (S.1 + 3) st)) else none
def ev_cnd (r : Nat) : ClassFile.Cond := match r with
  | 0 => .eq
  | 1 => .ne
  | 2 => .lt
  | 3 => .ge
  | 4 => .gt
  | _ => .le

