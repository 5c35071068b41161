theorem cp_ne {M : cm_M} {c sp d dp n x y : Nat} (h : ¬ (x = d ∧ dp ≤ y ∧ y < dp + n)) : (cm_cp M c sp d dp n).1 x y = M.1 x y := by
  show (if _ then _ else _) = _
  rw [if_neg h]
theorem cp_in {M : cm_M} {c sp d dp n y : Nat} (h1 : dp ≤ y) (h2 : y < dp + n) : (cm_cp M c sp d dp n).1 d y = M.1 c (sp + (y - dp)) := by
  show (if _ then _ else _) = _
  rw [if_pos ⟨rfl, h1, h2⟩]
/-- but for one object of minutes, which holds .. -/
noncomputable def mset (c : Nat) (M M' : cm_M) (H F : Nat → Int32) (ca we : Int32) : Prop := M'.2 = M.2 ∧ (∀ d j, d ≠ c → d ≠ c + 1 → d ≠ c + 2 → M'.1 d j = M.1 d j) ∧ (∀ j, j < 6 → M'.1 (c + 1) j = H j) ∧ (∀ q, q < 3 → M'.1 (c + 2) q = F q) ∧ M'.1 c 2 = ca ∧ M'.1 c 3 = we
theorem mset_0 (c : Nat) (M : cm_M) : mset c M M (M.1 (c + 1)) (M.1 (c + 2)) (M.1 c 2) (M.1 c 3) := ⟨rfl, fun _ _ _ _ _ => rfl, fun _ _ => rfl, fun _ _ => rfl, rfl, rfl⟩
theorem mset_cg {c : Nat} {M M' : cm_M} {H F H' F' : Nat → Int32} {ca we : Int32} (h : mset c M M' H F ca we) (hH : ∀ j, j < 6 → H' j = H j) (hF : ∀ q, q < 3 → F' q = F q) : mset c M M' H' F' ca we := ⟨h.1, h.2.1, fun j hj => (h.2.2.1 j hj).trans (hH j hj).symm, fun q hq => (h.2.2.2.1 q hq).trans (hF q hq).symm, h.2.2.2.2⟩
theorem mset_tr {c : Nat} {M M1 M2 : cm_M} {H F H1 F1 : Nat → Int32} {ca we ca1 we1 : Int32} (h1 : mset c M M1 H1 F1 ca1 we1) (h2 : mset c M1 M2 H F ca we) : mset c M M2 H F ca we := ⟨h2.1.trans h1.1, fun d j a b e => (h2.2.1 d j a b e).trans (h1.2.1 d j a b e), h2.2.2⟩
theorem mset_h {c m : Nat} {M M1 : cm_M} {H H' F : Nat → Int32} {ca we x : Int32} (h : mset c M M1 H F ca we) (hx : x = H' m) (hH : ∀ j, j < 6 → j ≠ m → H' j = H j) : mset c M (cm_wi M1 (c + 1) m x) H' F ca we := by
  obtain ⟨a1, a2, a3, a4, a5, a6⟩ := h
  refine ⟨a1, fun d j b1 b2 b3 => ?_, fun j hj => ?_, fun q hq => ?_, ?_, ?_⟩
  · rw [wi_n2 (by omega)]
    exact a2 d j b1 b2 b3
  · by_cases e : j = m
    · subst e
      rw [wi_at, hx]
    · rw [wi_n2 (by omega), hH j hj e]
      exact a3 j hj
  · rw [wi_n2 (by omega)]
    exact a4 q hq
  · rw [wi_n2 (by omega)]
    exact a5
  · rw [wi_n2 (by omega)]
    exact a6
theorem mset_f {c m : Nat} {M M1 : cm_M} {H F F' : Nat → Int32} {ca we x : Int32} (h : mset c M M1 H F ca we) (hx : x = F' m) (hF : ∀ j, j < 3 → j ≠ m → F' j = F j) : mset c M (cm_wi M1 (c + 2) m x) H F' ca we := by
  obtain ⟨a1, a2, a3, a4, a5, a6⟩ := h
  refine ⟨a1, fun d j b1 b2 b3 => ?_, fun j hj => ?_, fun q hq => ?_, ?_, ?_⟩
  · rw [wi_n2 (by omega)]
    exact a2 d j b1 b2 b3
  · rw [wi_n2 (by omega)]
    exact a3 j hj
  · by_cases e : q = m
    · subst e
      rw [wi_at, hx]
    · rw [wi_n2 (by omega), hF q hq e]
      exact a4 q hq
  · rw [wi_n2 (by omega)]
    exact a5
  · rw [wi_n2 (by omega)]
    exact a6
theorem mset_c2 {c : Nat} {M M1 : cm_M} {H F : Nat → Int32} {ca we x : Int32} (h : mset c M M1 H F ca we) : mset c M (cm_wi M1 c 2 x) H F x we := by
  obtain ⟨a1, a2, a3, a4, a5, a6⟩ := h
  refine ⟨a1, fun d j b1 b2 b3 => ?_, fun j hj => ?_, fun q hq => ?_, wi_at _ _ _ _, ?_⟩
  · rw [wi_n2 (by omega)]
    exact a2 d j b1 b2 b3
  · rw [wi_n2 (by omega)]
    exact a3 j hj
  · rw [wi_n2 (by omega)]
    exact a4 q hq
  · rw [wi_n2 (by omega)]
    exact a6
theorem mset_c3 {c : Nat} {M M1 : cm_M} {H F : Nat → Int32} {ca we x : Int32} (h : mset c M M1 H F ca we) : mset c M (cm_wi M1 c 3 x) H F ca x := by
  obtain ⟨a1, a2, a3, a4, a5, a6⟩ := h
  refine ⟨a1, fun d j b1 b2 b3 => ?_, fun j hj => ?_, fun q hq => ?_, ?_, wi_at _ _ _ _⟩
  · rw [wi_n2 (by omega)]
    exact a2 d j b1 b2 b3
  · rw [wi_n2 (by omega)]
    exact a3 j hj
  · rw [wi_n2 (by omega)]
    exact a4 q hq
  · rw [wi_n2 (by omega)]
    exact a5
theorem c_copy {M : cm_M} {c d : Nat} (r0 : M.2.2 c 0 = some (c + 1)) (r1 : M.2.2 c 1 = some (c + 2)) (q0 : M.2.2 d 0 = some (d + 1)) (q1 : M.2.2 d 1 = some (d + 2)) (hcd : c + 2 < d ∨ d + 2 < c) : cm_Lc cm_ms 23 [.ref c, .ref d] M (fun v M' => v = none ∧ mset c M M' (M.1 (d + 1)) (M.1 (d + 2)) (M.1 d 2) (M.1 d 3)) := by
  refine lb_st0 (mi := mr_23) rfl 400 ?_
  first | refine lb_to (T := (1, [(0, .ref c), (1, .ref d)], [.ref d], M)) 1 [0, 1] rfl rfl rfl (fun J' h => h) (lb_g0 rfl rfl q0 ?_) | refine lb_to0 (T := (1, [(0, .ref c), (1, .ref d)], [.ref d], M)) 1 [0, 1] rfl rfl rfl (fun J' h => h) (lb_g0 rfl rfl q0 ?_)
  first | refine lb_to (T := (6, [(0, .ref c), (1, .ref d)], [.ref c, .int 0, .ref (d + 1)], M)) 6 [0, 1] rfl rfl rfl (fun J' h => h) (lb_g0 rfl rfl r0 ?_) | refine lb_to0 (T := (6, [(0, .ref c), (1, .ref d)], [.ref c, .int 0, .ref (d + 1)], M)) 6 [0, 1] rfl rfl rfl (fun J' h => h) (lb_g0 rfl rfl r0 ?_)
  first | refine lb_to (T := (16, [(0, .ref c), (1, .ref d)], [.ref d], cm_cp M (d + 1) 0 (c + 1) 0 6)) 16 [0, 1] rfl rfl rfl (fun J' h => h) (lb_g0 rfl rfl q1 ?_) | refine lb_to0 (T := (16, [(0, .ref c), (1, .ref d)], [.ref d], cm_cp M (d + 1) 0 (c + 1) 0 6)) 16 [0, 1] rfl rfl rfl (fun J' h => h) (lb_g0 rfl rfl q1 ?_)
  first | refine lb_to (T := (21, [(0, .ref c), (1, .ref d)], [.ref c, .int 0, .ref (d + 2)], cm_cp M (d + 1) 0 (c + 1) 0 6)) 21 [0, 1] rfl rfl rfl (fun J' h => h) (lb_g0 rfl rfl r1 ?_) | refine lb_to0 (T := (21, [(0, .ref c), (1, .ref d)], [.ref c, .int 0, .ref (d + 2)], cm_cp M (d + 1) 0 (c + 1) 0 6)) 21 [0, 1] rfl rfl rfl (fun J' h => h) (lb_g0 rfl rfl r1 ?_)
  refine ⟨rfl, rfl, fun e j h1 h2 h3 => ?_, fun j hj => ?_, fun q hq => ?_, ?_, ?_⟩
  · show (cm_wi (cm_wi (cm_cp (cm_cp M (d + 1) 0 (c + 1) 0 6) (d + 2) 0 (c + 2) 0 3) c 2 ((cm_cp (cm_cp M (d + 1) 0 (c + 1) 0 6) (d + 2) 0 (c + 2) 0 3).1 d 2)) c 3 ((cm_wi (cm_cp (cm_cp M (d + 1) 0 (c + 1) 0 6) (d + 2) 0 (c + 2) 0 3) c 2 ((cm_cp (cm_cp M (d + 1) 0 (c + 1) 0 6) (d + 2) 0 (c + 2) 0 3).1 d 2)).1 d 3)).1 e j = _
    rw [wi_n2 (by omega), wi_n2 (by omega), cp_ne (by omega), cp_ne (by omega)]
  · show (cm_wi (cm_wi (cm_cp (cm_cp M (d + 1) 0 (c + 1) 0 6) (d + 2) 0 (c + 2) 0 3) c 2 ((cm_cp (cm_cp M (d + 1) 0 (c + 1) 0 6) (d + 2) 0 (c + 2) 0 3).1 d 2)) c 3 ((cm_wi (cm_cp (cm_cp M (d + 1) 0 (c + 1) 0 6) (d + 2) 0 (c + 2) 0 3) c 2 ((cm_cp (cm_cp M (d + 1) 0 (c + 1) 0 6) (d + 2) 0 (c + 2) 0 3).1 d 2)).1 d 3)).1 (c + 1) j = _
    rw [wi_n2 (by omega), wi_n2 (by omega), cp_ne (by omega), cp_in (by omega) (by omega), Nat.sub_zero, Nat.zero_add]
  · show (cm_wi (cm_wi (cm_cp (cm_cp M (d + 1) 0 (c + 1) 0 6) (d + 2) 0 (c + 2) 0 3) c 2 ((cm_cp (cm_cp M (d + 1) 0 (c + 1) 0 6) (d + 2) 0 (c + 2) 0 3).1 d 2)) c 3 ((cm_wi (cm_cp (cm_cp M (d + 1) 0 (c + 1) 0 6) (d + 2) 0 (c + 2) 0 3) c 2 ((cm_cp (cm_cp M (d + 1) 0 (c + 1) 0 6) (d + 2) 0 (c + 2) 0 3).1 d 2)).1 d 3)).1 (c + 2) q = _
    rw [wi_n2 (by omega), wi_n2 (by omega), cp_in (by omega) (by omega), Nat.sub_zero, Nat.zero_add, cp_ne (by omega)]
  · show (cm_wi (cm_wi (cm_cp (cm_cp M (d + 1) 0 (c + 1) 0 6) (d + 2) 0 (c + 2) 0 3) c 2 ((cm_cp (cm_cp M (d + 1) 0 (c + 1) 0 6) (d + 2) 0 (c + 2) 0 3).1 d 2)) c 3 ((cm_wi (cm_cp (cm_cp M (d + 1) 0 (c + 1) 0 6) (d + 2) 0 (c + 2) 0 3) c 2 ((cm_cp (cm_cp M (d + 1) 0 (c + 1) 0 6) (d + 2) 0 (c + 2) 0 3).1 d 2)).1 d 3)).1 c 2 = _
    rw [wi_n2 (by omega), wi_at, cp_ne (by omega), cp_ne (by omega)]
  · show (cm_wi (cm_wi (cm_cp (cm_cp M (d + 1) 0 (c + 1) 0 6) (d + 2) 0 (c + 2) 0 3) c 2 ((cm_cp (cm_cp M (d + 1) 0 (c + 1) 0 6) (d + 2) 0 (c + 2) 0 3).1 d 2)) c 3 ((cm_wi (cm_cp (cm_cp M (d + 1) 0 (c + 1) 0 6) (d + 2) 0 (c + 2) 0 3) c 2 ((cm_cp (cm_cp M (d + 1) 0 (c + 1) 0 6) (d + 2) 0 (c + 2) 0 3).1 d 2)).1 d 3)).1 c 3 = _
    rw [wi_at, wi_n2 (by omega), cp_ne (by omega), cp_ne (by omega)]
/-- a week's growing -/
noncomputable def wkF (gr h : Int32) : Int32 := if h + gr < 200 then h + gr else 200
noncomputable def wkH (gr : Int32) (h : Nat → Int32) (m j : Nat) : Int32 := if j < m then wkF gr (h j) else h j
theorem wkH_0 (gr : Int32) (h : Nat → Int32) : wkH gr h 0 = h := funext fun j => if_neg (Nat.not_lt_zero j)
set_option maxRecDepth 100000 in
theorem c_week {M : cm_M} {c T' me : Nat} (r0 : M.2.2 c 0 = some (c + 1)) (hc : 32 ≤ c) (hT : T' ≤ 19) (h3 : M.1 T' 3 = Int32.ofNat me) (hme : me ≤ 6) : cm_Lc cm_ms 24 [.ref c, .ref T'] M (fun v M' => v = none ∧ mset c M M' (wkH (M.1 T' 0) (M.1 (c + 1)) me) (M.1 (c + 2)) (M.1 c 2) (M.1 c 3 + 1)) := by
  refine lb_of (mi := mr_24) rfl [(2, [0, 1, 2])] (fun S => ∃ m M1, m ≤ me ∧ mset c M M1 (wkH (M.1 T' 0) (M.1 (c + 1)) m) (M.1 (c + 2)) (M.1 c 2) (M.1 c 3) ∧ S = (2, [(0, .ref c), (1, .ref T'), (2, .int (Int32.ofNat m))], [], M1)) 400 (fun S hS => ?_) 400 ?_
  · obtain ⟨m, M1, hm, hs, rfl⟩ := hS
    have k3 : M1.1 T' 3 = Int32.ofNat me := (hs.2.1 T' 3 (by omega) (by omega) (by omega)).trans h3
    have k0 : M1.1 T' 0 = M.1 T' 0 := hs.2.1 T' 0 (by omega) (by omega) (by omega)
    show (ev_cmp 3 (Int32.ofNat m) (M1.1 T' 3) = true → _) ∧ (ev_cmp 3 (Int32.ofNat m) (M1.1 T' 3) = false → _)
    refine ⟨fun hL => ?_, fun hL => ?_⟩
    · have g := fn_ge hL
      rw [k3, fn_toInt (by omega), fn_toInt (by omega)] at g
      have : m = me := by omega
      subst this
      refine ⟨rfl, ?_⟩
      have e := hs.2.2.2.2.2
      rw [← e]
      exact mset_c3 hs
    · have gi := fn_nge hL
      rw [k3, fn_toInt (by omega), fn_toInt (by omega)] at gi
      first | refine lb_to (T := (11, [(0, .ref c), (1, .ref T'), (2, .int (Int32.ofNat m))], [.ref c], M1)) 11 [0, 1, 2] rfl rfl rfl (fun J' h => h) (lb_g0 rfl rfl (show M1.2.2 c 0 = some (c + 1) by rw [hs.1]; exact r0) ?_) | refine lb_to0 (T := (11, [(0, .ref c), (1, .ref T'), (2, .int (Int32.ofNat m))], [.ref c], M1)) 11 [0, 1, 2] rfl rfl rfl (fun J' h => h) (lb_g0 rfl rfl (show M1.2.2 c 0 = some (c + 1) by rw [hs.1]; exact r0) ?_)
      first | refine lb_to (T := (19, [(0, .ref c), (1, .ref T'), (2, .int (Int32.ofNat m))], [.ref c, .int 200, .int (Int32.ofNat m), .ref (c + 1)], M1)) 19 [0, 1, 2] rfl rfl rfl (fun J' h => h) (lb_g0 rfl rfl (show M1.2.2 c 0 = some (c + 1) by rw [hs.1]; exact r0) ?_) | refine lb_to0 (T := (19, [(0, .ref c), (1, .ref T'), (2, .int (Int32.ofNat m))], [.ref c, .int 200, .int (Int32.ofNat m), .ref (c + 1)], M1)) 19 [0, 1, 2] rfl rfl rfl (fun J' h => h) (lb_g0 rfl rfl (show M1.2.2 c 0 = some (c + 1) by rw [hs.1]; exact r0) ?_)
      show (fun (S : cm_S) => ∃ m M1, m ≤ me ∧ mset c M M1 (wkH (M.1 T' 0) (M.1 (c + 1)) m) (M.1 (c + 2)) (M.1 c 2) (M.1 c 3) ∧ S = (2, [(0, .ref c), (1, .ref T'), (2, .int (Int32.ofNat m))], [], M1)) (2, [(0, .ref c), (1, .ref T'), (2, .int ((Int32.ofNat m) + 1))], [], cm_wi M1 (c + 1) ((Int32.ofNat m).toNatClampNeg) (if ((M1.1 (c + 1) ((Int32.ofNat m).toNatClampNeg)) + (M1.1 T' 0)) < 200 then ((M1.1 (c + 1) ((Int32.ofNat m).toNatClampNeg)) + (M1.1 T' 0)) else 200))
      rw [fn_nat (show m < 2147483648 by omega), ofn_s1]
      refine ⟨m + 1, _, by omega, mset_h hs (m := m) (H' := wkH (M.1 T' 0) (M.1 (c + 1)) (m + 1)) ?_ (fun j hj hne => ?_), rfl⟩
      · rw [hs.2.2.1 m (by omega), k0]
        unfold wkH
        rw [if_neg (show ¬ m < m by omega), if_pos (show m < m + 1 by omega)]
        try rfl
      · unfold wkH
        by_cases q : j < m
        · rw [if_pos q, if_pos (by omega)]
        · rw [if_neg q, if_neg (by omega)]
  · show (fun (S : cm_S) => ∃ m M1, m ≤ me ∧ mset c M M1 (wkH (M.1 T' 0) (M.1 (c + 1)) m) (M.1 (c + 2)) (M.1 c 2) (M.1 c 3) ∧ S = (2, [(0, .ref c), (1, .ref T'), (2, .int (Int32.ofNat m))], [], M1)) (2, [(0, .ref c), (1, .ref T'), (2, .int 0)], [], M)
    refine ⟨0, M, Nat.zero_le _, ?_, rfl⟩
    rw [wkH_0]
    exact mset_0 c M
theorem c_cutOff {M : cm_M} {c T' m q : Nat} (r0 : M.2.2 c 0 = some (c + 1)) (r1 : M.2.2 c 1 = some (c + 2)) (h4 : M.2.2 T' 4 = some (T' + 1)) (hc : 32 ≤ c) (hT : T' ≤ 19) (hm : m < 6) (hq : M.1 (T' + 1) m = Int32.ofNat q) (hq3 : q < 3) (off : Int32) : cm_Lc cm_ms 36 [.ref c, .ref T', .int (Int32.ofNat m), .int off] M (fun v M' => v = none ∧ mset c M M' (fun j => if j = m then M.1 (c + 1) m - off else M.1 (c + 1) j) (fun p => if p = q then M.1 (c + 2) q + off else M.1 (c + 2) p) (M.1 c 2) (M.1 c 3)) := by
  have em := fn_nat (show m < 2147483648 by omega)
  have eq : M.1 (T' + 1) (Int32.ofNat m).toNatClampNeg = Int32.ofNat q := by rw [em]; exact hq
  have z0 : (0 : Int32).toInt = 0 := by decide
  have z3 : (3 : Int32).toInt = 3 := by decide
  have hs1 : mset c M (cm_wi M (c + 1) (Int32.ofNat m).toNatClampNeg (M.1 (c + 1) (Int32.ofNat m).toNatClampNeg - off)) (fun j => if j = m then M.1 (c + 1) m - off else M.1 (c + 1) j) (M.1 (c + 2)) (M.1 c 2) (M.1 c 3) := by
    rw [em]
    exact mset_h (mset_0 c M) (if_pos rfl).symm (fun j _ hj => if_neg hj)
  refine lb_st0 (mi := mr_36) rfl 400 ?_
  first | refine lb_to (T := (1, [(0, .ref c), (1, .ref T'), (2, .int (Int32.ofNat m)), (3, .int off)], [.ref T'], M)) 1 [0, 1, 2, 3] rfl rfl rfl (fun J' h => h) (lb_g0 rfl rfl h4 ?_) | refine lb_to0 (T := (1, [(0, .ref c), (1, .ref T'), (2, .int (Int32.ofNat m)), (3, .int off)], [.ref T'], M)) 1 [0, 1, 2, 3] rfl rfl rfl (fun J' h => h) (lb_g0 rfl rfl h4 ?_)
  first | refine lb_to (T := (9, [(0, .ref c), (1, .ref T'), (2, .int (Int32.ofNat m)), (3, .int off), (4, .int (M.1 (T' + 1) ((Int32.ofNat m).toNatClampNeg)))], [.ref c], M)) 9 [0, 1, 2, 3, 4] rfl rfl rfl (fun J' h => h) (lb_g0 rfl rfl r0 ?_) | refine lb_to0 (T := (9, [(0, .ref c), (1, .ref T'), (2, .int (Int32.ofNat m)), (3, .int off), (4, .int (M.1 (T' + 1) ((Int32.ofNat m).toNatClampNeg)))], [.ref c], M)) 9 [0, 1, 2, 3, 4] rfl rfl rfl (fun J' h => h) (lb_g0 rfl rfl r0 ?_)
  show (ev_cmp 2 (M.1 (T' + 1) ((Int32.ofNat m).toNatClampNeg)) 0 = true → _) ∧ (ev_cmp 2 (M.1 (T' + 1) ((Int32.ofNat m).toNatClampNeg)) 0 = false → _)
  refine ⟨fun h => ?_, fun h => ?_⟩
  · have g := fn_lt h
    rw [eq, fn_toInt (by omega)] at g
    omega
  · show (ev_cmp 3 (M.1 (T' + 1) ((Int32.ofNat m).toNatClampNeg)) 3 = true → _) ∧ (ev_cmp 3 (M.1 (T' + 1) ((Int32.ofNat m).toNatClampNeg)) 3 = false → _)
    refine ⟨fun hf => ?_, fun hf => ?_⟩
    · have g := fn_ge hf
      rw [eq, fn_toInt (by omega)] at g
      omega
    · first | refine lb_to (T := (30, [(0, .ref c), (1, .ref T'), (2, .int (Int32.ofNat m)), (3, .int off), (4, .int (M.1 (T' + 1) ((Int32.ofNat m).toNatClampNeg)))], [.ref c], cm_wi M (c + 1) ((Int32.ofNat m).toNatClampNeg) ((M.1 (c + 1) ((Int32.ofNat m).toNatClampNeg)) - off))) 30 [0, 1, 2, 3, 4] rfl rfl rfl (fun J' h => h) (lb_g0 rfl rfl r1 ?_) | refine lb_to0 (T := (30, [(0, .ref c), (1, .ref T'), (2, .int (Int32.ofNat m)), (3, .int off), (4, .int (M.1 (T' + 1) ((Int32.ofNat m).toNatClampNeg)))], [.ref c], cm_wi M (c + 1) ((Int32.ofNat m).toNatClampNeg) ((M.1 (c + 1) ((Int32.ofNat m).toNatClampNeg)) - off))) 30 [0, 1, 2, 3, 4] rfl rfl rfl (fun J' h => h) (lb_g0 rfl rfl r1 ?_)
      refine ⟨rfl, ?_⟩
      show mset c M (cm_wi (cm_wi M (c + 1) ((Int32.ofNat m).toNatClampNeg) ((M.1 (c + 1) ((Int32.ofNat m).toNatClampNeg)) - off)) (c + 2) ((M.1 (T' + 1) ((Int32.ofNat m).toNatClampNeg)).toNatClampNeg) (((cm_wi M (c + 1) ((Int32.ofNat m).toNatClampNeg) ((M.1 (c + 1) ((Int32.ofNat m).toNatClampNeg)) - off)).1 (c + 2) ((M.1 (T' + 1) ((Int32.ofNat m).toNatClampNeg)).toNatClampNeg)) + off)) _ _ _ _
      rw [eq, fn_nat (show q < 2147483648 by omega), wi_n2 (M := M) (c := c + 1) (by omega)]
      exact mset_f hs1 (if_pos rfl).symm (fun j _ hj => if_neg hj)
/-- what is cut of who is in the set -/
noncomputable def cuH (cu set : Int32) (h : Nat → Int32) (m j : Nat) : Int32 := if (decide (j < m) && hb set j) = true then h j - cu else h j
noncomputable def cuL (cu set : Int32) (co : Nat → Nat) (f : Nat → Int32) : Nat → Nat → Int32
  | 0 => f
  | m + 1 => if hb set m = true then (fun q => if q = co m then cuL cu set co f m (co m) + cu else cuL cu set co f m q) else cuL cu set co f m
theorem cuH_0 (cu set : Int32) (h : Nat → Int32) : cuH cu set h 0 = h := funext fun j => by
  unfold cuH
  rw [decide_eq_false (Nat.not_lt_zero j), Bool.false_and, if_neg (by decide)]
theorem cuH_s {cu set : Int32} {h : Nat → Int32} {m j : Nat} (hj : j ≠ m) : cuH cu set h (m + 1) j = cuH cu set h m j := by
  unfold cuH
  by_cases q : j < m
  · rw [decide_eq_true q, decide_eq_true (by omega)]
  · rw [decide_eq_false q, decide_eq_false (by omega)]
theorem cuH_n {cu set : Int32} {h : Nat → Int32} {m : Nat} : cuH cu set h m m = h m := by
  unfold cuH
  rw [decide_eq_false (by omega), Bool.false_and, if_neg (by decide)]
theorem cuH_t {cu set : Int32} {h : Nat → Int32} {m : Nat} (q : hb set m = true) : cuH cu set h (m + 1) m = h m - cu := by
  unfold cuH
  rw [decide_eq_true (by omega), q, if_pos (by decide)]
theorem cuH_f {cu set : Int32} {h : Nat → Int32} {m : Nat} (q : hb set m = false) : cuH cu set h (m + 1) m = h m := by
  unfold cuH
  rw [q, Bool.and_false, if_neg (by decide)]
theorem cuL_t {cu set : Int32} {co : Nat → Nat} {f : Nat → Int32} {m : Nat} (q : hb set m = true) : cuL cu set co f (m + 1) = fun p => if p = co m then cuL cu set co f m (co m) + cu else cuL cu set co f m p := by
  show (if _ then _ else _) = _
  rw [if_pos q]
theorem cuL_f {cu set : Int32} {co : Nat → Nat} {f : Nat → Int32} {m : Nat} (q : hb set m = false) : cuL cu set co f (m + 1) = cuL cu set co f m := by
  show (if _ then _ else _) = _
  rw [q, if_neg (by decide)]
/-- colours are told -/
noncomputable def CO (me : Nat) (A : Nat → Int32) (co : Nat → Nat) : Prop := ∀ m, m < me → A m = Int32.ofNat (co m) ∧ co m < 3
set_option maxRecDepth 100000 in
theorem c_cutFor {M : cm_M} {c T' me k : Nat} {co : Nat → Nat} (r0 : M.2.2 c 0 = some (c + 1)) (r1 : M.2.2 c 1 = some (c + 2)) (h4 : M.2.2 T' 4 = some (T' + 1)) (h6 : M.2.2 T' 6 = some (T' + 3)) (h7 : M.2.2 T' 7 = some (T' + 4)) (h10 : M.2.2 T' 10 = some (T' + 6)) (h11 : M.2.2 T' 11 = some (T' + 7)) (hc : 32 ≤ c) (hT : T' ≤ 19) (h3 : M.1 T' 3 = Int32.ofNat me) (hme : me ≤ 6) (hk : k < 1000) (hco : CO me (M.1 (T' + 1)) co) : cm_Lc cm_ms 35 [.ref c, .ref T', .int (Int32.ofNat k)] M (fun v M' => v = some (.int (bi (geB (voF (M.1 (T' + 3)) (orF (fun m => syB (M.1 T' 1) (M.1 (T' + 6) k) (M.1 (T' + 4) m) (M.1 (c + 1) m) k) me) me) (M.1 (T' + 7) k)))) ∧ mset c M M' (cuH (M.1 (T' + 6) k) (orF (fun m => syB (M.1 T' 1) (M.1 (T' + 6) k) (M.1 (T' + 4) m) (M.1 (c + 1) m) k) me) (M.1 (c + 1)) me) (cuL (M.1 (T' + 6) k) (orF (fun m => syB (M.1 T' 1) (M.1 (T' + 6) k) (M.1 (T' + 4) m) (M.1 (c + 1) m) k) me) co (M.1 (c + 2)) me) (if (geB (voF (M.1 (T' + 3)) (orF (fun m => syB (M.1 T' 1) (M.1 (T' + 6) k) (M.1 (T' + 4) m) (M.1 (c + 1) m) k) me) me) (M.1 (T' + 7) k)) = true then M.1 c 2 ||| sB k else M.1 c 2) (M.1 c 3)) := by
  have ek := fn_nat (show k < 2147483648 by omega)
  generalize hY : orF (fun m => syB (M.1 T' 1) (M.1 (T' + 6) k) (M.1 (T' + 4) m) (M.1 (c + 1) m) k) me = Y
  generalize hE : geB (voF (M.1 (T' + 3)) Y me) (M.1 (T' + 7) k) = en
  refine lb_of (mi := mr_35) rfl [(31, [0, 1, 2, 3, 4, 5])] (fun S => ∃ m M1, m ≤ me ∧ mset c M M1 (cuH (M.1 (T' + 6) k) Y (M.1 (c + 1)) m) (cuL (M.1 (T' + 6) k) Y co (M.1 (c + 2)) m) (M.1 c 2) (M.1 c 3) ∧ S = (31, [(0, .ref c), (1, .ref T'), (2, .int (Int32.ofNat k)), (3, .int Y), (4, .int (bi en)), (5, .int (Int32.ofNat m))], [], M1)) 400 (fun S hS => ?_) 400 ?_
  · obtain ⟨m, M1, hm, hs, rfl⟩ := hS
    have k3 : M1.1 T' 3 = Int32.ofNat me := (hs.2.1 T' 3 (by omega) (by omega) (by omega)).trans h3
    have k6 : ∀ j, M1.1 (T' + 6) j = M.1 (T' + 6) j := fun j => hs.2.1 (T' + 6) j (by omega) (by omega) (by omega)
    have k1 : ∀ j, M1.1 (T' + 1) j = M.1 (T' + 1) j := fun j => hs.2.1 (T' + 1) j (by omega) (by omega) (by omega)
    show (ev_cmp 3 (Int32.ofNat m) (M1.1 T' 3) = true → _) ∧ (ev_cmp 3 (Int32.ofNat m) (M1.1 T' 3) = false → _)
    refine ⟨fun hL => ?_, fun hL => ?_⟩
    · have g := fn_ge hL
      rw [k3, fn_toInt (by omega), fn_toInt (by omega)] at g
      have : m = me := by omega
      subst this
      show (ev_cmp 0 (bi en) 0 = true → _) ∧ (ev_cmp 0 (bi en) 0 = false → _)
      refine ⟨fun hLt => ?_, fun hLt => ?_⟩
      · refine ⟨rfl, ?_⟩
        rw [bi_0 hLt, if_neg (by decide)]
        exact hs
      · refine ⟨rfl, ?_⟩
        rw [bi_1 hLt, if_pos rfl, ← hs.2.2.2.2.1]
        exact mset_c2 hs
    · have gi := fn_nge hL
      rw [k3, fn_toInt (by omega), fn_toInt (by omega)] at gi
      show (ev_cmp 0 ((Y >>> ((Int32.ofNat m) &&& 31)) &&& 1) 0 = true → _) ∧ (ev_cmp 0 ((Y >>> ((Int32.ofNat m) &&& 31)) &&& 1) 0 = false → _)
      refine ⟨fun hLf => ?_, fun hLf => ?_⟩
      · show (fun (S : cm_S) => ∃ m M1, m ≤ me ∧ mset c M M1 (cuH (M.1 (T' + 6) k) Y (M.1 (c + 1)) m) (cuL (M.1 (T' + 6) k) Y co (M.1 (c + 2)) m) (M.1 c 2) (M.1 c 3) ∧ S = (31, [(0, .ref c), (1, .ref T'), (2, .int (Int32.ofNat k)), (3, .int Y), (4, .int (bi en)), (5, .int (Int32.ofNat m))], [], M1)) (31, [(0, .ref c), (1, .ref T'), (2, .int (Int32.ofNat k)), (3, .int Y), (4, .int (bi en)), (5, .int ((Int32.ofNat m) + 1))], [], M1)
        have hz := hb_0 (fn_eq0 hLf)
        refine ⟨m + 1, M1, by omega, mset_cg hs (fun j hj => ?_) (fun p hp => by rw [cuL_f hz]), by rw [ofn_s1]⟩
        by_cases q : j = m
        · subst q
          rw [cuH_f hz, cuH_n]
        · exact cuH_s q
      · first | refine lb_to (T := (54, [(0, .ref c), (1, .ref T'), (2, .int (Int32.ofNat k)), (3, .int Y), (4, .int (bi en)), (5, .int (Int32.ofNat m))], [.ref T', .int (Int32.ofNat m), .ref T', .ref c], M1)) 54 [0, 1, 2, 3, 4, 5] rfl rfl rfl (fun J' h => h) (lb_g0 rfl rfl (show M1.2.2 T' 10 = some (T' + 6) by rw [hs.1]; exact h10) ?_) | refine lb_to0 (T := (54, [(0, .ref c), (1, .ref T'), (2, .int (Int32.ofNat k)), (3, .int Y), (4, .int (bi en)), (5, .int (Int32.ofNat m))], [.ref T', .int (Int32.ofNat m), .ref T', .ref c], M1)) 54 [0, 1, 2, 3, 4, 5] rfl rfl rfl (fun J' h => h) (lb_g0 rfl rfl (show M1.2.2 T' 10 = some (T' + 6) by rw [hs.1]; exact h10) ?_)
        show ∃ R, cm_Lc cm_ms 36 [.ref c, .ref T', .int (Int32.ofNat m), .int (M1.1 (T' + 6) ((Int32.ofNat k).toNatClampNeg))] M1 R ∧ ∀ v M', R v M' → _
        refine ⟨_, c_cutOff (c := c) (q := co m) (show M1.2.2 c 0 = some (c + 1) by rw [hs.1]; exact r0) (show M1.2.2 c 1 = some (c + 2) by rw [hs.1]; exact r1) (show M1.2.2 T' 4 = some (T' + 1) by rw [hs.1]; exact h4) hc hT (by omega) ((k1 m).trans (hco m (by omega)).1) (hco m (by omega)).2 _, ?_⟩
        rintro v M' ⟨rfl, hs2⟩
        show (fun (S : cm_S) => ∃ m M1, m ≤ me ∧ mset c M M1 (cuH (M.1 (T' + 6) k) Y (M.1 (c + 1)) m) (cuL (M.1 (T' + 6) k) Y co (M.1 (c + 2)) m) (M.1 c 2) (M.1 c 3) ∧ S = (31, [(0, .ref c), (1, .ref T'), (2, .int (Int32.ofNat k)), (3, .int Y), (4, .int (bi en)), (5, .int (Int32.ofNat m))], [], M1)) (31, [(0, .ref c), (1, .ref T'), (2, .int (Int32.ofNat k)), (3, .int Y), (4, .int (bi en)), (5, .int ((Int32.ofNat m) + 1))], [], M')
        have hz := hb_1 (fn_ne0 hLf)
        rw [hs.2.2.2.2.1, hs.2.2.2.2.2] at hs2
        refine ⟨m + 1, M', by omega, mset_cg (mset_tr hs hs2) (fun j hj => ?_) (fun p hp => ?_), by rw [ofn_s1]⟩
        · by_cases q : j = m
          · subst q
            rw [cuH_t hz, if_pos rfl, hs.2.2.1 j hj, cuH_n, ek, k6]
          · rw [cuH_s q, if_neg q, hs.2.2.1 j hj]
        · rw [cuL_t hz]
          try dsimp only
          by_cases q : p = co m
          · rw [if_pos q, if_pos q, hs.2.2.2.1 (co m) (hco m (by omega)).2, ek, k6]
          · rw [if_neg q, if_neg q, hs.2.2.2.1 p hp]
  · show ∃ R, cm_Lc cm_ms 30 [.ref c, .ref T', .int (Int32.ofNat k)] M R ∧ ∀ v M', R v M' → _
    have hy := c_yesMen (c := c) r0 h10 h7 h3 hme hk
    rw [hY] at hy
    refine ⟨_, hy, ?_⟩
    rintro v M' ⟨hM, rfl⟩
    subst M'
    show ∃ R, cm_Lc cm_ms 13 [.ref T', .int Y] M R ∧ ∀ v M', R v M' → _
    refine ⟨_, c_votes h6 h3 hme Y, ?_⟩
    rintro v M' ⟨hM, rfl⟩
    subst M'
    first | refine lb_to (T := (13, [(0, .ref c), (1, .ref T'), (2, .int (Int32.ofNat k)), (3, .int Y)], [.ref T', .int (voF (M.1 (T' + 3)) Y me)], M)) 13 [0, 1, 2, 3] rfl rfl rfl (fun J' h => h) (lb_g0 rfl rfl h11 ?_) | refine lb_to0 (T := (13, [(0, .ref c), (1, .ref T'), (2, .int (Int32.ofNat k)), (3, .int Y)], [.ref T', .int (voF (M.1 (T' + 3)) Y me)], M)) 13 [0, 1, 2, 3] rfl rfl rfl (fun J' h => h) (lb_g0 rfl rfl h11 ?_)
    show (ev_cmp 2 (voF (M.1 (T' + 3)) Y me) (M.1 (T' + 7) ((Int32.ofNat k).toNatClampNeg)) = true → _) ∧ (ev_cmp 2 (voF (M.1 (T' + 3)) Y me) (M.1 (T' + 7) ((Int32.ofNat k).toNatClampNeg)) = false → _)
    refine ⟨fun hcc => ?_, fun hcc => ?_⟩
    · show (fun (S : cm_S) => ∃ m M1, m ≤ me ∧ mset c M M1 (cuH (M.1 (T' + 6) k) Y (M.1 (c + 1)) m) (cuL (M.1 (T' + 6) k) Y co (M.1 (c + 2)) m) (M.1 c 2) (M.1 c 3) ∧ S = (31, [(0, .ref c), (1, .ref T'), (2, .int (Int32.ofNat k)), (3, .int Y), (4, .int (bi en)), (5, .int (Int32.ofNat m))], [], M1)) (31, [(0, .ref c), (1, .ref T'), (2, .int (Int32.ofNat k)), (3, .int Y), (4, .int 0), (5, .int 0)], [], M)
      have e : en = false := by
        rw [← hE]
        have g := fn_lt hcc
        rw [ek] at g
        exact ge_0 g
      refine ⟨0, M, Nat.zero_le _, ?_, by rw [e]; try rfl⟩
      rw [cuH_0]
      exact mset_0 c M
    · show (fun (S : cm_S) => ∃ m M1, m ≤ me ∧ mset c M M1 (cuH (M.1 (T' + 6) k) Y (M.1 (c + 1)) m) (cuL (M.1 (T' + 6) k) Y co (M.1 (c + 2)) m) (M.1 c 2) (M.1 c 3) ∧ S = (31, [(0, .ref c), (1, .ref T'), (2, .int (Int32.ofNat k)), (3, .int Y), (4, .int (bi en)), (5, .int (Int32.ofNat m))], [], M1)) (31, [(0, .ref c), (1, .ref T'), (2, .int (Int32.ofNat k)), (3, .int Y), (4, .int 1), (5, .int 0)], [], M)
      have e : en = true := by
        rw [← hE]
        have g := fn_nlt hcc
        rw [ek] at g
        exact ge_1 g
      refine ⟨0, M, Nat.zero_le _, ?_, by rw [e]; try rfl⟩
      rw [cuH_0]
      exact mset_0 c M
