theorem ev_fork_ok {r : Nat} {a b : ev_A} {off : Int} {st' : List ev_A} {pc : Nat} {L : List (Nat × ev_A)} {st : List ev_A} {w : List ev_C} {K : ev_K} {ce sl : Nat} {Ss : List ev_S} (h : ev_fork r a b off st' (pc, L, st, w, K, ce, sl) = some Ss)
    {p : Program} {l : Launch} {e : Env} {R : Room} {s : State} {m : MethodId} {args : Array Value} {below : List Frame} {meth : Method} {c : Code} {Q : State → Prop} {nL : Nat} {D : va_G} {A : Nat → Prop} {g0 : ev_G} (hk : ∀ S' ∈ Ss, ev_Go p l e R s m args below meth c Q nL D A g0 S')
    {g : ev_G} {ws : va_W} {H : Heap} {locs : List Loc} {ls : Array Slot} {sc : List Value} (hle : ev_le g0 g) (hP : va_P D vwCl ws H) (hD : va_D A ws) (hS : va_S A s.heap H locs) (hW : ev_w s g w ws) (hB : ev_b K g.2.2) (hL : ev_l g L nL ls) (hs : ev_s g st' sc) {x y : Int32} (ha : ev_v g a = some (.int x)) (hb : ev_v g b = some (.int y)) :
    ∃ tgt : Nat, (pc : Int) + off = (tgt : Int) ∧ (ev_cmp r x y = true → W p l e R s m args below meth c H locs ce sl Q (F0 m tgt ls sc)) ∧ (ev_cmp r x y = false → W p l e R s m args below meth c H locs ce sl Q (F0 m (pc + 3) ls sc)) := by
  unfold ev_fork at h
  split at h
  · rename_i h0
    dsimp only at h0
    cases h
    refine ⟨((pc : Int) + off).toNat, by omega, fun hc => ?_, fun hc => ?_⟩
    · obtain ⟨K', h1, h2⟩ := ev_br_ok hB ha hb hc
      exact hk _ (List.mem_append_left _ (List.mem_map.mpr ⟨K', h1, rfl⟩)) g ws H locs ls sc hle ⟨hP, hD, hS, hW, h2, hL, hs⟩
    · obtain ⟨K', h1, h2⟩ := ev_br_ok (r := ev_neg r) hB ha hb (by rw [ev_neg_ok, hc]; rfl)
      exact hk _ (List.mem_append_right _ (List.mem_map.mpr ⟨K', h1, rfl⟩)) g ws H locs ls sc hle ⟨hP, hD, hS, hW, h2, hL, hs⟩
  · cases h

def ev_icmp_eq : ev_O := (fun _ t => some (.if_icmp .eq t.1, 3, []), fun _ t S => match S.2.2.1 with
  | y :: x :: st => if ev_isI x = true ∧ ev_isI y = true then ev_fork 0 x y t.1 st S else none
  | _ => none)
theorem ev_icmp_eq_ok : ev_Snd ev_icmp_eq := by
  intro p l e R s m args below meth c cc Q D A g0 P t S i n cs Ss X h1 hd hw h2 hk g ws H locs ls sc hle hR
  obtain ⟨hx, hb, hml, hown, hts, hK, hA, hN, hini, hcC, hcS, hf, hlc, hscr⟩ := X
  obtain ⟨pc, L, st, w, K, ce, sl⟩ := S
  have h1 : some ((.if_icmp .eq t.1 : Instr), (3 : Nat), ([] : List Cond)) = some (i, n, cs) := h1
  cases h1
  unfold ev_icmp_eq at h2
  dsimp only at h2
  split at h2
  · rename_i y x st'
    split at h2
    · rename_i hi
      obtain ⟨hP, hD, hS, hW, hB, hL, hs⟩ := hR
      obtain ⟨vy, sc1, rfl, hvy, hs1⟩ := ev_s_cons hs
      obtain ⟨vx, sc2, rfl, hvx, hs2⟩ := ev_s_cons hs1
      obtain ⟨y0, rfl⟩ := ev_vI hi.2 hvy
      obtain ⟨x0, rfl⟩ := ev_vI hi.1 hvx
      obtain ⟨tgt, ht, k1, k2⟩ := ev_fork_ok h2 hk hle hP hD hS hW hB hL hs2 hvx hvy
      exact lv_icmp_eq hx hb hd ht (fun q => k1 (by simpa [ev_cmp] using q)) (fun q => k2 (by simpa [ev_cmp] using q))
    · cases h2
  · cases h2
def ev_if_eq : ev_O := (fun _ t => some (.ifCond .eq t.1, 3, []), fun _ t S => match S.2.2.1 with
  | x :: st => if ev_isI x = true then ev_fork 0 x (0, 0) t.1 st S else none
  | _ => none)
theorem ev_if_eq_ok : ev_Snd ev_if_eq := by
  intro p l e R s m args below meth c cc Q D A g0 P t S i n cs Ss X h1 hd hw h2 hk g ws H locs ls sc hle hR
  obtain ⟨hx, hb, hml, hown, hts, hK, hA, hN, hini, hcC, hcS, hf, hlc, hscr⟩ := X
  obtain ⟨pc, L, st, w, K, ce, sl⟩ := S
  have h1 : some ((.ifCond .eq t.1 : Instr), (3 : Nat), ([] : List Cond)) = some (i, n, cs) := h1
  cases h1
  unfold ev_if_eq at h2
  dsimp only at h2
  split at h2
  · rename_i x st'
    split at h2
    · rename_i hi
      obtain ⟨hP, hD, hS, hW, hB, hL, hs⟩ := hR
      obtain ⟨vx, sc2, rfl, hvx, hs2⟩ := ev_s_cons hs
      obtain ⟨x0, rfl⟩ := ev_vI hi hvx
      obtain ⟨tgt, ht, k1, k2⟩ := ev_fork_ok h2 hk hle hP hD hS hW hB hL hs2 hvx (show ev_v g (0, 0) = some (.int 0) from rfl)
      exact lv_if_eq hx hb hd ht (fun q => k1 (by simpa [ev_cmp] using q)) (fun q => k2 (by simpa [ev_cmp] using q))
    · cases h2
  · cases h2

def ev_icmp_ne : ev_O := (fun _ t => some (.if_icmp .ne t.1, 3, []), fun _ t S => match S.2.2.1 with
  | y :: x :: st => if ev_isI x = true ∧ ev_isI y = true then ev_fork 1 x y t.1 st S else none
  | _ => none)
theorem ev_icmp_ne_ok : ev_Snd ev_icmp_ne := by
  intro p l e R s m args below meth c cc Q D A g0 P t S i n cs Ss X h1 hd hw h2 hk g ws H locs ls sc hle hR
  obtain ⟨hx, hb, hml, hown, hts, hK, hA, hN, hini, hcC, hcS, hf, hlc, hscr⟩ := X
  obtain ⟨pc, L, st, w, K, ce, sl⟩ := S
  have h1 : some ((.if_icmp .ne t.1 : Instr), (3 : Nat), ([] : List Cond)) = some (i, n, cs) := h1
  cases h1
  unfold ev_icmp_ne at h2
  dsimp only at h2
  split at h2
  · rename_i y x st'
    split at h2
    · rename_i hi
      obtain ⟨hP, hD, hS, hW, hB, hL, hs⟩ := hR
      obtain ⟨vy, sc1, rfl, hvy, hs1⟩ := ev_s_cons hs
      obtain ⟨vx, sc2, rfl, hvx, hs2⟩ := ev_s_cons hs1
      obtain ⟨y0, rfl⟩ := ev_vI hi.2 hvy
      obtain ⟨x0, rfl⟩ := ev_vI hi.1 hvx
      obtain ⟨tgt, ht, k1, k2⟩ := ev_fork_ok h2 hk hle hP hD hS hW hB hL hs2 hvx hvy
      exact lv_icmp_ne hx hb hd ht (fun q => k1 (by simpa [ev_cmp] using q)) (fun q => k2 (by simpa [ev_cmp] using q))
    · cases h2
  · cases h2
def ev_if_ne : ev_O := (fun _ t => some (.ifCond .ne t.1, 3, []), fun _ t S => match S.2.2.1 with
  | x :: st => if ev_isI x = true then ev_fork 1 x (0, 0) t.1 st S else none
  | _ => none)
theorem ev_if_ne_ok : ev_Snd ev_if_ne := by
  intro p l e R s m args below meth c cc Q D A g0 P t S i n cs Ss X h1 hd hw h2 hk g ws H locs ls sc hle hR
  obtain ⟨hx, hb, hml, hown, hts, hK, hA, hN, hini, hcC, hcS, hf, hlc, hscr⟩ := X
  obtain ⟨pc, L, st, w, K, ce, sl⟩ := S
  have h1 : some ((.ifCond .ne t.1 : Instr), (3 : Nat), ([] : List Cond)) = some (i, n, cs) := h1
  cases h1
  unfold ev_if_ne at h2
  dsimp only at h2
  split at h2
  · rename_i x st'
    split at h2
    · rename_i hi
      obtain ⟨hP, hD, hS, hW, hB, hL, hs⟩ := hR
      obtain ⟨vx, sc2, rfl, hvx, hs2⟩ := ev_s_cons hs
      obtain ⟨x0, rfl⟩ := ev_vI hi hvx
      obtain ⟨tgt, ht, k1, k2⟩ := ev_fork_ok h2 hk hle hP hD hS hW hB hL hs2 hvx (show ev_v g (0, 0) = some (.int 0) from rfl)
      exact lv_if_ne hx hb hd ht (fun q => k1 (by simpa [ev_cmp] using q)) (fun q => k2 (by simpa [ev_cmp] using q))
    · cases h2
  · cases h2

def ev_icmp_lt : ev_O := (fun _ t => some (.if_icmp .lt t.1, 3, []), fun _ t S => match S.2.2.1 with
  | y :: x :: st => if ev_isI x = true ∧ ev_isI y = true then ev_fork 2 x y t.1 st S else none
  | _ => none)
theorem ev_icmp_lt_ok : ev_Snd ev_icmp_lt := by
  intro p l e R s m args below meth c cc Q D A g0 P t S i n cs Ss X h1 hd hw h2 hk g ws H locs ls sc hle hR
  obtain ⟨hx, hb, hml, hown, hts, hK, hA, hN, hini, hcC, hcS, hf, hlc, hscr⟩ := X
  obtain ⟨pc, L, st, w, K, ce, sl⟩ := S
  have h1 : some ((.if_icmp .lt t.1 : Instr), (3 : Nat), ([] : List Cond)) = some (i, n, cs) := h1
  cases h1
  unfold ev_icmp_lt at h2
  dsimp only at h2
  split at h2
  · rename_i y x st'
    split at h2
    · rename_i hi
      obtain ⟨hP, hD, hS, hW, hB, hL, hs⟩ := hR
      obtain ⟨vy, sc1, rfl, hvy, hs1⟩ := ev_s_cons hs
      obtain ⟨vx, sc2, rfl, hvx, hs2⟩ := ev_s_cons hs1
      obtain ⟨y0, rfl⟩ := ev_vI hi.2 hvy
      obtain ⟨x0, rfl⟩ := ev_vI hi.1 hvx
      obtain ⟨tgt, ht, k1, k2⟩ := ev_fork_ok h2 hk hle hP hD hS hW hB hL hs2 hvx hvy
      exact lv_icmp_lt hx hb hd ht (fun q => k1 (by simpa [ev_cmp] using q)) (fun q => k2 (by simpa [ev_cmp] using q))
    · cases h2
  · cases h2
def ev_if_lt : ev_O := (fun _ t => some (.ifCond .lt t.1, 3, []), fun _ t S => match S.2.2.1 with
  | x :: st => if ev_isI x = true then ev_fork 2 x (0, 0) t.1 st S else none
  | _ => none)
theorem ev_if_lt_ok : ev_Snd ev_if_lt := by
  intro p l e R s m args below meth c cc Q D A g0 P t S i n cs Ss X h1 hd hw h2 hk g ws H locs ls sc hle hR
  obtain ⟨hx, hb, hml, hown, hts, hK, hA, hN, hini, hcC, hcS, hf, hlc, hscr⟩ := X
  obtain ⟨pc, L, st, w, K, ce, sl⟩ := S
  have h1 : some ((.ifCond .lt t.1 : Instr), (3 : Nat), ([] : List Cond)) = some (i, n, cs) := h1
  cases h1
  unfold ev_if_lt at h2
  dsimp only at h2
  split at h2
  · rename_i x st'
    split at h2
    · rename_i hi
      obtain ⟨hP, hD, hS, hW, hB, hL, hs⟩ := hR
      obtain ⟨vx, sc2, rfl, hvx, hs2⟩ := ev_s_cons hs
      obtain ⟨x0, rfl⟩ := ev_vI hi hvx
      obtain ⟨tgt, ht, k1, k2⟩ := ev_fork_ok h2 hk hle hP hD hS hW hB hL hs2 hvx (show ev_v g (0, 0) = some (.int 0) from rfl)
      exact lv_if_lt hx hb hd ht (fun q => k1 (by simpa [ev_cmp] using q)) (fun q => k2 (by simpa [ev_cmp] using q))
    · cases h2
  · cases h2

def ev_icmp_ge : ev_O := (fun _ t => some (.if_icmp .ge t.1, 3, []), fun _ t S => match S.2.2.1 with
  | y :: x :: st => if ev_isI x = true ∧ ev_isI y = true then ev_fork 3 x y t.1 st S else none
  | _ => none)
theorem ev_icmp_ge_ok : ev_Snd ev_icmp_ge := by
  intro p l e R s m args below meth c cc Q D A g0 P t S i n cs Ss X h1 hd hw h2 hk g ws H locs ls sc hle hR
  obtain ⟨hx, hb, hml, hown, hts, hK, hA, hN, hini, hcC, hcS, hf, hlc, hscr⟩ := X
  obtain ⟨pc, L, st, w, K, ce, sl⟩ := S
  have h1 : some ((.if_icmp .ge t.1 : Instr), (3 : Nat), ([] : List Cond)) = some (i, n, cs) := h1
  cases h1
  unfold ev_icmp_ge at h2
  dsimp only at h2
  split at h2
  · rename_i y x st'
    split at h2
    · rename_i hi
      obtain ⟨hP, hD, hS, hW, hB, hL, hs⟩ := hR
      obtain ⟨vy, sc1, rfl, hvy, hs1⟩ := ev_s_cons hs
      obtain ⟨vx, sc2, rfl, hvx, hs2⟩ := ev_s_cons hs1
      obtain ⟨y0, rfl⟩ := ev_vI hi.2 hvy
      obtain ⟨x0, rfl⟩ := ev_vI hi.1 hvx
      obtain ⟨tgt, ht, k1, k2⟩ := ev_fork_ok h2 hk hle hP hD hS hW hB hL hs2 hvx hvy
      exact lv_icmp_ge hx hb hd ht (fun q => k1 (by simpa [ev_cmp] using q)) (fun q => k2 (by simpa [ev_cmp] using q))
    · cases h2
  · cases h2
def ev_if_ge : ev_O := (fun _ t => some (.ifCond .ge t.1, 3, []), fun _ t S => match S.2.2.1 with
  | x :: st => if ev_isI x = true then ev_fork 3 x (0, 0) t.1 st S else none
  | _ => none)
theorem ev_if_ge_ok : ev_Snd ev_if_ge := by
  intro p l e R s m args below meth c cc Q D A g0 P t S i n cs Ss X h1 hd hw h2 hk g ws H locs ls sc hle hR
  obtain ⟨hx, hb, hml, hown, hts, hK, hA, hN, hini, hcC, hcS, hf, hlc, hscr⟩ := X
  obtain ⟨pc, L, st, w, K, ce, sl⟩ := S
  have h1 : some ((.ifCond .ge t.1 : Instr), (3 : Nat), ([] : List Cond)) = some (i, n, cs) := h1
  cases h1
  unfold ev_if_ge at h2
  dsimp only at h2
  split at h2
  · rename_i x st'
    split at h2
    · rename_i hi
      obtain ⟨hP, hD, hS, hW, hB, hL, hs⟩ := hR
      obtain ⟨vx, sc2, rfl, hvx, hs2⟩ := ev_s_cons hs
      obtain ⟨x0, rfl⟩ := ev_vI hi hvx
      obtain ⟨tgt, ht, k1, k2⟩ := ev_fork_ok h2 hk hle hP hD hS hW hB hL hs2 hvx (show ev_v g (0, 0) = some (.int 0) from rfl)
      exact lv_if_ge hx hb hd ht (fun q => k1 (by simpa [ev_cmp] using q)) (fun q => k2 (by simpa [ev_cmp] using q))
    · cases h2
  · cases h2

def ev_icmp_gt : ev_O := (fun _ t => some (.if_icmp .gt t.1, 3, []), fun _ t S => match S.2.2.1 with
  | y :: x :: st => if ev_isI x = true ∧ ev_isI y = true then ev_fork 4 x y t.1 st S else none
  | _ => none)
theorem ev_icmp_gt_ok : ev_Snd ev_icmp_gt := by
  intro p l e R s m args below meth c cc Q D A g0 P t S i n cs Ss X h1 hd hw h2 hk g ws H locs ls sc hle hR
  obtain ⟨hx, hb, hml, hown, hts, hK, hA, hN, hini, hcC, hcS, hf, hlc, hscr⟩ := X
  obtain ⟨pc, L, st, w, K, ce, sl⟩ := S
  have h1 : some ((.if_icmp .gt t.1 : Instr), (3 : Nat), ([] : List Cond)) = some (i, n, cs) := h1
  cases h1
  unfold ev_icmp_gt at h2
  dsimp only at h2
  split at h2
  · rename_i y x st'
    split at h2
    · rename_i hi
      obtain ⟨hP, hD, hS, hW, hB, hL, hs⟩ := hR
      obtain ⟨vy, sc1, rfl, hvy, hs1⟩ := ev_s_cons hs
      obtain ⟨vx, sc2, rfl, hvx, hs2⟩ := ev_s_cons hs1
      obtain ⟨y0, rfl⟩ := ev_vI hi.2 hvy
      obtain ⟨x0, rfl⟩ := ev_vI hi.1 hvx
      obtain ⟨tgt, ht, k1, k2⟩ := ev_fork_ok h2 hk hle hP hD hS hW hB hL hs2 hvx hvy
      exact lv_icmp_gt hx hb hd ht (fun q => k1 (by simpa [ev_cmp] using q)) (fun q => k2 (by simpa [ev_cmp] using q))
    · cases h2
  · cases h2
def ev_if_gt : ev_O := (fun _ t => some (.ifCond .gt t.1, 3, []), fun _ t S => match S.2.2.1 with
  | x :: st => if ev_isI x = true then ev_fork 4 x (0, 0) t.1 st S else none
  | _ => none)
theorem ev_if_gt_ok : ev_Snd ev_if_gt := by
  intro p l e R s m args below meth c cc Q D A g0 P t S i n cs Ss X h1 hd hw h2 hk g ws H locs ls sc hle hR
  obtain ⟨hx, hb, hml, hown, hts, hK, hA, hN, hini, hcC, hcS, hf, hlc, hscr⟩ := X
  obtain ⟨pc, L, st, w, K, ce, sl⟩ := S
  have h1 : some ((.ifCond .gt t.1 : Instr), (3 : Nat), ([] : List Cond)) = some (i, n, cs) := h1
  cases h1
  unfold ev_if_gt at h2
  dsimp only at h2
  split at h2
  · rename_i x st'
    split at h2
    · rename_i hi
      obtain ⟨hP, hD, hS, hW, hB, hL, hs⟩ := hR
      obtain ⟨vx, sc2, rfl, hvx, hs2⟩ := ev_s_cons hs
      obtain ⟨x0, rfl⟩ := ev_vI hi hvx
      obtain ⟨tgt, ht, k1, k2⟩ := ev_fork_ok h2 hk hle hP hD hS hW hB hL hs2 hvx (show ev_v g (0, 0) = some (.int 0) from rfl)
      exact lv_if_gt hx hb hd ht (fun q => k1 (by simpa [ev_cmp] using q)) (fun q => k2 (by simpa [ev_cmp] using q))
    · cases h2
  · cases h2

def ev_icmp_le : ev_O := (fun _ t => some (.if_icmp .le t.1, 3, []), fun _ t S => match S.2.2.1 with
  | y :: x :: st => if ev_isI x = true ∧ ev_isI y = true then ev_fork 5 x y t.1 st S else none
  | _ => none)
theorem ev_icmp_le_ok : ev_Snd ev_icmp_le := by
  intro p l e R s m args below meth c cc Q D A g0 P t S i n cs Ss X h1 hd hw h2 hk g ws H locs ls sc hle hR
  obtain ⟨hx, hb, hml, hown, hts, hK, hA, hN, hini, hcC, hcS, hf, hlc, hscr⟩ := X
  obtain ⟨pc, L, st, w, K, ce, sl⟩ := S
  have h1 : some ((.if_icmp .le t.1 : Instr), (3 : Nat), ([] : List Cond)) = some (i, n, cs) := h1
  cases h1
  unfold ev_icmp_le at h2
  dsimp only at h2
  split at h2
  · rename_i y x st'
    split at h2
    · rename_i hi
      obtain ⟨hP, hD, hS, hW, hB, hL, hs⟩ := hR
      obtain ⟨vy, sc1, rfl, hvy, hs1⟩ := ev_s_cons hs
      obtain ⟨vx, sc2, rfl, hvx, hs2⟩ := ev_s_cons hs1
      obtain ⟨y0, rfl⟩ := ev_vI hi.2 hvy
      obtain ⟨x0, rfl⟩ := ev_vI hi.1 hvx
      obtain ⟨tgt, ht, k1, k2⟩ := ev_fork_ok h2 hk hle hP hD hS hW hB hL hs2 hvx hvy
      exact lv_icmp_le hx hb hd ht (fun q => k1 (by simpa [ev_cmp] using q)) (fun q => k2 (by simpa [ev_cmp] using q))
    · cases h2
  · cases h2
def ev_if_le : ev_O := (fun _ t => some (.ifCond .le t.1, 3, []), fun _ t S => match S.2.2.1 with
  | x :: st => if ev_isI x = true then ev_fork 5 x (0, 0) t.1 st S else none
  | _ => none)
theorem ev_if_le_ok : ev_Snd ev_if_le := by
  intro p l e R s m args below meth c cc Q D A g0 P t S i n cs Ss X h1 hd hw h2 hk g ws H locs ls sc hle hR
  obtain ⟨hx, hb, hml, hown, hts, hK, hA, hN, hini, hcC, hcS, hf, hlc, hscr⟩ := X
  obtain ⟨pc, L, st, w, K, ce, sl⟩ := S
  have h1 : some ((.ifCond .le t.1 : Instr), (3 : Nat), ([] : List Cond)) = some (i, n, cs) := h1
  cases h1
  unfold ev_if_le at h2
  dsimp only at h2
  split at h2
  · rename_i x st'
    split at h2
    · rename_i hi
      obtain ⟨hP, hD, hS, hW, hB, hL, hs⟩ := hR
      obtain ⟨vx, sc2, rfl, hvx, hs2⟩ := ev_s_cons hs
      obtain ⟨x0, rfl⟩ := ev_vI hi hvx
      obtain ⟨tgt, ht, k1, k2⟩ := ev_fork_ok h2 hk hle hP hD hS hW hB hL hs2 hvx (show ev_v g (0, 0) = some (.int 0) from rfl)
      exact lv_if_le hx hb hd ht (fun q => k1 (by simpa [ev_cmp] using q)) (fun q => k2 (by simpa [ev_cmp] using q))
    · cases h2
  · cases h2

def ev_goto : ev_O := (fun _ t => some (.goto t.1, 3, []), fun _ t S => if 0 ≤ (S.1 : Int) + t.1 then some [(((S.1 : Int) + t.1).toNat, S.2)] else none)
theorem ev_goto_ok : ev_Snd ev_goto := by
  intro p l e R s m args below meth c cc Q D A g0 P t S i n cs Ss X h1 hd hw h2 hk g ws H locs ls sc hle hR
  obtain ⟨hx, hb, hml, hown, hts, hK, hA, hN, hini, hcC, hcS, hf, hlc, hscr⟩ := X
  obtain ⟨pc, L, st, w, K, ce, sl⟩ := S
  have h1 : some ((.goto t.1 : Instr), (3 : Nat), ([] : List Cond)) = some (i, n, cs) := h1
  cases h1
  unfold ev_goto at h2
  dsimp only at h2
  split at h2
  · rename_i h0
    cases h2
    exact lv_goto (tgt := ((pc : Int) + t.1).toNat) hx hb hd (by omega) (hk _ (List.mem_singleton.mpr rfl) g ws H locs ls sc hle hR)
  · cases h2
/-! a switch over a row of numbers -/
def ev_swV (b : Int × Int) (lo hi : Int) (offs : List Int) (dflt : Int) (k : Nat) (st : List ev_A) (S : ev_S) : List ev_S :=
  (List.range offs.length).filterMap (fun (j : Nat) => if b.1 ≤ lo + (j : Int) ∧ lo + (j : Int) ≤ b.2 then some (ev_setK S ((S.1 : Int) + offs.getD j 0).toNat st (S.2.2.2.2.1.set k (lo + (j : Int), lo + (j : Int)))) else none)
  ++ [ev_setK S ((S.1 : Int) + dflt).toNat st (S.2.2.2.2.1.set k (b.1, min b.2 (lo - 1))), ev_setK S ((S.1 : Int) + dflt).toNat st (S.2.2.2.2.1.set k (max b.1 (hi + 1), b.2))].filter (fun S' => match S'.2.2.2.2.1[k]? with
    | some q => decide (q.1 ≤ q.2)
    | none => true)
def ev_sw : ev_O := (fun _ t => match t.2.2.2 with
  | len :: offs => some (.tableswitch t.1 t.2.1 t.2.2.1 offs.toArray, len.toNat, [])
  | [] => none, fun _ t S => match t.2.2.2, S.2.2.1 with
  | _ :: offs, x :: st =>
    if ev_isI x = true ∧ t.2.2.1 - t.2.1 + 1 = (offs.length : Int) ∧ 0 ≤ (S.1 : Int) + t.1 ∧ offs.all (fun o => decide (0 ≤ (S.1 : Int) + o)) = true then
      (if x.1 = 0 then
        (if (Int32.ofInt x.2).toInt < t.2.1 ∨ t.2.2.1 < (Int32.ofInt x.2).toInt then some [((((S.1 : Int) + t.1).toNat), S.2.1, st, S.2.2.2)] else some [((((S.1 : Int) + offs.getD ((Int32.ofInt x.2).toInt - t.2.1).toNat 0).toNat), S.2.1, st, S.2.2.2)])
       else match S.2.2.2.2.1[x.2.toNat]? with
        | some b => some (ev_swV b t.2.1 t.2.2.1 offs t.1 x.2.toNat st S)
        | none => none)
    else none
  | _, _ => none)
theorem ev_sw_ok : ev_Snd ev_sw := by
  intro p l e R s m args below meth c cc Q D A g0 P t S i n cs Ss X h1 hd hw h2 hk g ws H locs ls sc hle hR
  obtain ⟨hx, hb, hml, hown, hts, hK, hA, hN, hini, hcC, hcS, hf, hlc, hscr⟩ := X
  obtain ⟨pc, L, st, w, K, ce, sl⟩ := S
  obtain ⟨dflt, lo, hi, offs0⟩ := t
  cases offs0 with
  | nil => cases h1
  | cons len offs =>
    have h1 : some ((.tableswitch dflt lo hi offs.toArray : Instr), len.toNat, ([] : List Cond)) = some (i, n, cs) := h1
    cases h1
    unfold ev_sw at h2
    dsimp only at h2
    cases st with
    | nil => cases h2
    | cons x st' =>
      dsimp only at h2
      split at h2
      · rename_i hi0
        obtain ⟨hI, hlen, hd0, hall⟩ := hi0
        have hin : ∀ j : Nat, j < offs.length → ∃ o : Int, offs[j]? = some o ∧ offs.getD j 0 = o ∧ 0 ≤ (pc : Int) + o := by
          intro j hj
          refine ⟨offs[j], List.getElem?_eq_getElem hj, by simp [List.getD, List.getElem?_eq_getElem hj], ?_⟩
          have := List.all_eq_true.mp hall offs[j] (List.getElem_mem hj)
          simpa using this
        obtain ⟨hP, hD, hS, hW, hB, hL, hs⟩ := hR
        obtain ⟨vx, sc2, rfl, hvx, hs2⟩ := ev_s_cons hs
        obtain ⟨x0, rfl⟩ := ev_vI hI hvx
        have hin2 : ¬ x0.toInt < lo → ¬ hi < x0.toInt → ∃ o : Int, offs.toArray[(x0.toInt - lo).toNat]? = some o ∧ offs.getD (x0.toInt - lo).toNat 0 = o ∧ (pc : Int) + o = (((pc : Int) + o).toNat : Int) := by
          intro q1 q2
          obtain ⟨o, a1, a2, a3⟩ := hin (x0.toInt - lo).toNat (by omega)
          exact ⟨o, by simpa using a1, a2, by omega⟩
        split at h2
        · rename_i hz
          obtain ⟨xt, xn⟩ := x
          have hz : xt = 0 := hz
          subst hz
          have ex : Int32.ofInt xn = x0 := Value.int.inj (Option.some.inj hvx)
          dsimp only at h2
          rw [ex] at h2
          split at h2
          · rename_i hq
            cases h2
            exact lv_tableOut (tgt := ((pc : Int) + dflt).toNat) hx hb hd hq (by omega) (hk _ (List.mem_singleton.mpr rfl) g ws H locs ls sc2 hle ⟨hP, hD, hS, hW, hB, hL, hs2⟩)
          · rename_i hq
            cases h2
            have q1 : ¬ x0.toInt < lo := fun z => hq (Or.inl z)
            have q2 : ¬ hi < x0.toInt := fun z => hq (Or.inr z)
            obtain ⟨o, a1, a2, a3⟩ := hin2 q1 q2
            exact lv_tableIn hx hb hd q1 q2 a1 a3 (by
              have := hk _ (List.mem_singleton.mpr rfl) g ws H locs ls sc2 hle ⟨hP, hD, hS, hW, hB, hL, hs2⟩
              dsimp only at this
              rw [a2] at this
              exact this)
        · rename_i hz
          have h3 : x.1 = 3 := by
            simp only [ev_isI, Bool.or_eq_true, beq_iff_eq] at hI
            rcases hI with q | q
            · exact absurd q hz
            · exact q
          split at h2
          · rename_i b hb0
            cases h2
            have hE := ev_var h3 hvx
            have hbd := hB.2 _ b x0 hb0 hE
            have hkl : x.2.toNat < K.length := (List.getElem?_eq_some_iff.mp hb0).1
            by_cases q1 : x0.toInt < lo
            · refine lv_tableOut (tgt := ((pc : Int) + dflt).toNat) hx hb hd (Or.inl q1) (by omega) (hk (ev_setK (pc, L, x :: st', w, K, ce, sl) ((pc : Int) + dflt).toNat st' (K.set x.2.toNat (b.1, min b.2 (lo - 1)))) (List.mem_append_right _ (List.mem_filter.mpr ⟨List.mem_cons_self, ?_⟩)) g ws H locs ls sc2 hle ⟨hP, hD, hS, hW, ev_b_set hB hE (by dsimp only; omega), hL, hs2⟩)
              simp only [ev_setK, List.getElem?_set_self hkl, decide_eq_true_eq]
              omega
            · by_cases q2 : hi < x0.toInt
              · refine lv_tableOut (tgt := ((pc : Int) + dflt).toNat) hx hb hd (Or.inr q2) (by omega) (hk (ev_setK (pc, L, x :: st', w, K, ce, sl) ((pc : Int) + dflt).toNat st' (K.set x.2.toNat (max b.1 (hi + 1), b.2))) (List.mem_append_right _ (List.mem_filter.mpr ⟨List.mem_cons_of_mem _ List.mem_cons_self, ?_⟩)) g ws H locs ls sc2 hle ⟨hP, hD, hS, hW, ev_b_set hB hE (by dsimp only; omega), hL, hs2⟩)
                simp only [ev_setK, List.getElem?_set_self hkl, decide_eq_true_eq]
                omega
              · obtain ⟨o, a1, a2, a3⟩ := hin2 q1 q2
                have hj : lo + ((x0.toInt - lo).toNat : Int) = x0.toInt := by omega
                have hmem : ev_setK (pc, L, x :: st', w, K, ce, sl) ((pc : Int) + o).toNat st' (K.set x.2.toNat (x0.toInt, x0.toInt)) ∈ ev_swV b lo hi offs dflt x.2.toNat st' (pc, L, x :: st', w, K, ce, sl) := by
                  refine List.mem_append_left _ (List.mem_filterMap.mpr ⟨(x0.toInt - lo).toNat, List.mem_range.mpr (by omega), ?_⟩)
                  rw [hj, if_pos hbd, a2]
                exact lv_tableIn hx hb hd q1 q2 a1 a3 (hk _ hmem g ws H locs ls sc2 hle ⟨hP, hD, hS, hW, ev_b_set hB hE (by dsimp only; omega), hL, hs2⟩)
          · cases h2
      · cases h2

