theorem cp_00 {M : cm_M} {a x b y : Nat} : cm_cp M a x b y 0 = M := by
  refine Prod.ext (funext fun c => funext fun j => ?_) rfl
  exact cp_ne (by omega)
theorem cp_s {M : cm_M} {a x b y n : Nat} : cm_wi (cm_cp M a x b y n) b (y + n) (M.1 a (x + n)) = cm_cp M a x b y (n + 1) := by
  refine Prod.ext (funext fun c => funext fun j => ?_) rfl
  show (cm_wi (cm_cp M a x b y n) b (y + n) (M.1 a (x + n))).1 c j = (cm_cp M a x b y (n + 1)).1 c j
  by_cases h : c = b ∧ j = y + n
  · obtain ⟨rfl, rfl⟩ := h
    rw [wi_at, cp_in (by omega) (by omega), Nat.add_sub_cancel_left]
  · rw [wi_n2 h]
    by_cases q : c = b ∧ y ≤ j ∧ j < y + n
    · obtain ⟨rfl, q1, q2⟩ := q
      rw [cp_in q1 q2, cp_in q1 (by omega)]
    · rw [cp_ne q, cp_ne (by omega)]
/-- but for one row, which is .. -/
noncomputable def rset (d : Nat) (M M' : cm_M) (R : Nat → Int32) : Prop := M'.2 = M.2 ∧ (∀ e j, e ≠ d → M'.1 e j = M.1 e j) ∧ ∀ j, j < 11 → M'.1 d j = R j
theorem rset_0 (d : Nat) (M : cm_M) : rset d M M (M.1 d) := ⟨rfl, fun _ _ _ => rfl, fun _ _ => rfl⟩
theorem rset_cg {d : Nat} {M M' : cm_M} {R R' : Nat → Int32} (h : rset d M M' R) (hR : ∀ j, j < 11 → R' j = R j) : rset d M M' R' := ⟨h.1, h.2.1, fun j hj => (h.2.2 j hj).trans (hR j hj).symm⟩
theorem rset_w {d m : Nat} {M M1 : cm_M} {R R' : Nat → Int32} {x : Int32} (h : rset d M M1 R) (hx : x = R' m) (hR : ∀ j, j < 11 → j ≠ m → R' j = R j) : rset d M (cm_wi M1 d m x) R' := by
  refine ⟨h.1, fun e j he => ?_, fun j hj => ?_⟩
  · rw [wi_n2 (by omega)]
    exact h.2.1 e j he
  · by_cases q : j = m
    · subst q
      rw [wi_at, hx]
    · rw [wi_n2 (by omega), hR j hj q]
      exact h.2.2 j hj
set_option maxRecDepth 100000 in
theorem m_copyR {M : cm_M} {a b x y n : Nat} (hab : a ≠ b) (hx : x + n < 100000) (hy : y + n < 100000) : cm_Lc cm_ms 170 [.ref a, .int (Int32.ofNat x), .ref b, .int (Int32.ofNat y), .int (Int32.ofNat n)] M (fun v M' => v = none ∧ M' = cm_cp M a x b y n) := by
  refine lb_of (mi := mr_170) rfl [(3, [0, 1, 2, 3, 4, 5])] (fun S => ∃ k, k ≤ n ∧ S = (3, [(0, .ref a), (1, .int (Int32.ofNat x)), (2, .ref b), (3, .int (Int32.ofNat y)), (4, .int (Int32.ofNat n)), (5, .int (Int32.ofNat k))], [], cm_cp M a x b y k)) 400 (fun S hS => ?_) 400 ?_
  · obtain ⟨k, hk, rfl⟩ := hS
    show (ev_cmp 3 (Int32.ofNat k) (Int32.ofNat n) = true → _) ∧ (ev_cmp 3 (Int32.ofNat k) (Int32.ofNat n) = false → _)
    refine ⟨fun hL => ?_, fun hL => ?_⟩
    · have g := fn_ge hL
      rw [fn_toInt (by omega), fn_toInt (by omega)] at g
      have : k = n := by omega
      subst this
      exact ⟨rfl, rfl⟩
    · have gi := fn_nge hL
      rw [fn_toInt (by omega), fn_toInt (by omega)] at gi
      show (fun (S : cm_S) => ∃ k, k ≤ n ∧ S = (3, [(0, .ref a), (1, .int (Int32.ofNat x)), (2, .ref b), (3, .int (Int32.ofNat y)), (4, .int (Int32.ofNat n)), (5, .int (Int32.ofNat k))], [], cm_cp M a x b y k)) (3, [(0, .ref a), (1, .int (Int32.ofNat x)), (2, .ref b), (3, .int (Int32.ofNat y)), (4, .int (Int32.ofNat n)), (5, .int ((Int32.ofNat k) + 1))], [], cm_wi (cm_cp M a x b y k) b (((Int32.ofNat y) + (Int32.ofNat k)).toNatClampNeg) ((cm_cp M a x b y k).1 a (((Int32.ofNat x) + (Int32.ofNat k)).toNatClampNeg)))
      refine ⟨k + 1, by omega, ?_⟩
      rw [ofn_s1, ixn y (by omega), ixn x (by omega), cp_ne (fun q => hab q.1), cp_s]
  · show (fun (S : cm_S) => ∃ k, k ≤ n ∧ S = (3, [(0, .ref a), (1, .int (Int32.ofNat x)), (2, .ref b), (3, .int (Int32.ofNat y)), (4, .int (Int32.ofNat n)), (5, .int (Int32.ofNat k))], [], cm_cp M a x b y k)) (3, [(0, .ref a), (1, .int (Int32.ofNat x)), (2, .ref b), (3, .int (Int32.ofNat y)), (4, .int (Int32.ofNat n)), (5, .int 0)], [], M)
    exact ⟨0, Nat.zero_le _, by rw [cp_00]; try rfl⟩
/-- a week of a row -/
noncomputable def wkR (gr : Int32) (me : Nat) (r : Nat → Int32) (j : Nat) : Int32 := if j = 10 then r 10 + 1 else wkH gr r me j
theorem wk_le {gr h : Int32} (q : (h + gr).toInt ≤ 200) : wkF gr h = h + gr := by
  have z : (200 : Int32).toInt = 200 := by decide
  unfold wkF
  by_cases e : h + gr < 200
  · rw [if_pos e]
  · rw [if_neg e]
    have w := Int.not_lt.mp (fun w => e (Int32.lt_iff_toInt_lt.mpr w))
    exact (Int32.toInt_inj.mp (by omega))
theorem wk_gt {gr h : Int32} (q : 200 < (h + gr).toInt) : wkF gr h = 200 := by
  have z : (200 : Int32).toInt = 200 := by decide
  unfold wkF
  rw [if_neg (fun e => by
    have := Int32.lt_iff_toInt_lt.mp e
    omega)]
set_option maxRecDepth 100000 in
theorem m_weekOf {M : cm_M} {d me : Nat} (h15 : M.2.2 124 15 = some 127) (hd : d ≠ 127 ∧ d ≠ 124) (h3 : M.1 127 3 = Int32.ofNat me) (hme : me ≤ 6) : cm_Lc cm_ms 219 [.ref 124, .ref d] M (fun v M' => v = none ∧ rset d M M' (wkR (M.1 127 0) me (M.1 d))) := by
  refine lb_of (mi := mr_219) rfl [(2, [0, 1, 2])] (fun S => ∃ m M1, m ≤ me ∧ rset d M M1 (wkH (M.1 127 0) (M.1 d) m) ∧ S = (2, [(0, .ref 124), (1, .ref d), (2, .int (Int32.ofNat m))], [], M1)) 400 (fun S hS => ?_) 400 ?_
  · obtain ⟨m, M1, hm, hs, rfl⟩ := hS
    have k3 : M1.1 127 3 = Int32.ofNat me := (hs.2.1 127 3 (by omega)).trans h3
    have k0 : M1.1 127 0 = M.1 127 0 := hs.2.1 127 0 (by omega)
    have z : (200 : Int32).toInt = 200 := by decide
    first | refine lb_to (T := (4, [(0, .ref 124), (1, .ref d), (2, .int (Int32.ofNat m))], [.ref 124, .int (Int32.ofNat m)], M1)) 4 [0, 1, 2] rfl rfl rfl (fun J' h => h) (lb_g0 rfl rfl (show M1.2.2 124 15 = some 127 by rw [hs.1]; exact h15) ?_) | refine lb_to0 (T := (4, [(0, .ref 124), (1, .ref d), (2, .int (Int32.ofNat m))], [.ref 124, .int (Int32.ofNat m)], M1)) 4 [0, 1, 2] rfl rfl rfl (fun J' h => h) (lb_g0 rfl rfl (show M1.2.2 124 15 = some 127 by rw [hs.1]; exact h15) ?_)
    show (ev_cmp 3 (Int32.ofNat m) (M1.1 127 3) = true → _) ∧ (ev_cmp 3 (Int32.ofNat m) (M1.1 127 3) = false → _)
    refine ⟨fun hL => ?_, fun hL => ?_⟩
    · have g := fn_ge hL
      rw [k3, fn_toInt (by omega), fn_toInt (by omega)] at g
      have : m = me := by omega
      subst this
      refine ⟨rfl, rset_w hs (m := 10) (R' := wkR (M.1 127 0) m (M.1 d)) ?_ (fun j hj hne => if_neg hne)⟩
      show M1.1 d 10 + 1 = _
      rw [hs.2.2 10 (by omega)]
      unfold wkR wkH
      rw [if_pos rfl, if_neg (by omega)]
    · have gi := fn_nge hL
      rw [k3, fn_toInt (by omega), fn_toInt (by omega)] at gi
      have em := fn_nat (show m < 2147483648 by omega)
      have eh : M1.1 d m = M.1 d m := by
        rw [hs.2.2 m (by omega)]
        unfold wkH
        rw [if_neg (by omega)]
      have step : ∀ j, j < 11 → j ≠ m → wkH (M.1 127 0) (M.1 d) (m + 1) j = wkH (M.1 127 0) (M.1 d) m j := fun j hj hne => by
        unfold wkH
        by_cases q : j < m
        · rw [if_pos q, if_pos (by omega)]
        · rw [if_neg q, if_neg (by omega)]
      have new : wkH (M.1 127 0) (M.1 d) (m + 1) m = wkF (M.1 127 0) (M.1 d m) := by
        unfold wkH
        rw [if_pos (by omega)]
      first | refine lb_to (T := (18, [(0, .ref 124), (1, .ref d), (2, .int (Int32.ofNat m))], [.ref 124, .int (M1.1 d ((Int32.ofNat m).toNatClampNeg)), .int (Int32.ofNat m), .ref d], M1)) 18 [0, 1, 2] rfl rfl rfl (fun J' h => h) (lb_g0 rfl rfl (show M1.2.2 124 15 = some 127 by rw [hs.1]; exact h15) ?_) | refine lb_to0 (T := (18, [(0, .ref 124), (1, .ref d), (2, .int (Int32.ofNat m))], [.ref 124, .int (M1.1 d ((Int32.ofNat m).toNatClampNeg)), .int (Int32.ofNat m), .ref d], M1)) 18 [0, 1, 2] rfl rfl rfl (fun J' h => h) (lb_g0 rfl rfl (show M1.2.2 124 15 = some 127 by rw [hs.1]; exact h15) ?_)
      show (ev_cmp 5 ((M1.1 d ((Int32.ofNat m).toNatClampNeg)) + (M1.1 127 0)) 200 = true → _) ∧ (ev_cmp 5 ((M1.1 d ((Int32.ofNat m).toNatClampNeg)) + (M1.1 127 0)) 200 = false → _)
      refine ⟨fun hLf => ?_, fun hLf => ?_⟩
      · first | refine lb_to (T := (40, [(0, .ref 124), (1, .ref d), (2, .int (Int32.ofNat m))], [.ref 124, .int (M1.1 d ((Int32.ofNat m).toNatClampNeg)), .int (Int32.ofNat m), .ref d], M1)) 40 [0, 1, 2] rfl rfl rfl (fun J' h => h) (lb_g0 rfl rfl (show M1.2.2 124 15 = some 127 by rw [hs.1]; exact h15) ?_) | refine lb_to0 (T := (40, [(0, .ref 124), (1, .ref d), (2, .int (Int32.ofNat m))], [.ref 124, .int (M1.1 d ((Int32.ofNat m).toNatClampNeg)), .int (Int32.ofNat m), .ref d], M1)) 40 [0, 1, 2] rfl rfl rfl (fun J' h => h) (lb_g0 rfl rfl (show M1.2.2 124 15 = some 127 by rw [hs.1]; exact h15) ?_)
        show (fun (S : cm_S) => ∃ m M1, m ≤ me ∧ rset d M M1 (wkH (M.1 127 0) (M.1 d) m) ∧ S = (2, [(0, .ref 124), (1, .ref d), (2, .int (Int32.ofNat m))], [], M1)) (2, [(0, .ref 124), (1, .ref d), (2, .int ((Int32.ofNat m) + 1))], [], cm_wi M1 d ((Int32.ofNat m).toNatClampNeg) ((M1.1 d ((Int32.ofNat m).toNatClampNeg)) + (M1.1 127 0)))
        have g2 := fn_le hLf
        rw [em, eh, k0, z] at g2
        refine ⟨m + 1, _, by omega, rset_w hs (m := m) ?_ step, by rw [ofn_s1, em]⟩
        rw [eh, k0, new, wk_le g2]
      · show (fun (S : cm_S) => ∃ m M1, m ≤ me ∧ rset d M M1 (wkH (M.1 127 0) (M.1 d) m) ∧ S = (2, [(0, .ref 124), (1, .ref d), (2, .int (Int32.ofNat m))], [], M1)) (2, [(0, .ref 124), (1, .ref d), (2, .int ((Int32.ofNat m) + 1))], [], cm_wi M1 d ((Int32.ofNat m).toNatClampNeg) 200)
        have g2 := fn_nle hLf
        rw [em, eh, k0, z] at g2
        refine ⟨m + 1, _, by omega, rset_w hs (m := m) ?_ step, by rw [ofn_s1, em]⟩
        rw [new, wk_gt g2]
  · show (fun (S : cm_S) => ∃ m M1, m ≤ me ∧ rset d M M1 (wkH (M.1 127 0) (M.1 d) m) ∧ S = (2, [(0, .ref 124), (1, .ref d), (2, .int (Int32.ofNat m))], [], M1)) (2, [(0, .ref 124), (1, .ref d), (2, .int 0)], [], M)
    refine ⟨0, M, Nat.zero_le _, ?_, rfl⟩
    rw [wkH_0]
    exact rset_0 d M
/-- the row cut, at a man -/
noncomputable def cuR (cu set : Int32) (co : Nat → Nat) (r : Nat → Int32) (m j : Nat) : Int32 := if j < 6 then cuH cu set r m j else if j < 9 then cuL cu set co (fun q => r (6 + q)) m (j - 6) else r j
theorem cuR_0 (cu set : Int32) (co : Nat → Nat) (r : Nat → Int32) (j : Nat) : cuR cu set co r 0 j = r j := by
  unfold cuR
  by_cases a : j < 6
  · rw [if_pos a, cuH_0]
  · rw [if_neg a]
    by_cases b : j < 9
    · rw [if_pos b]
      show r (6 + (j - 6)) = r j
      rw [Nat.add_sub_of_le (by omega)]
    · rw [if_neg b]
theorem cuR_f {cu set : Int32} {co : Nat → Nat} {r : Nat → Int32} {m : Nat} (q : hb set m = false) (j : Nat) : cuR cu set co r (m + 1) j = cuR cu set co r m j := by
  unfold cuR
  rw [cuL_f q]
  by_cases a : j < 6
  · rw [if_pos a, if_pos a]
    by_cases e : j = m
    · subst e
      rw [cuH_f q, cuH_n]
    · exact cuH_s e
  · rw [if_neg a, if_neg a]
set_option maxRecDepth 100000 in
theorem m_cutBy {M : cm_M} {d me k : Nat} {co : Nat → Nat} (h15 : M.2.2 124 15 = some 127) (hd : d ≠ 127 ∧ d ≠ 124) (h3 : M.1 127 3 = Int32.ofNat me) (hme : me ≤ 6) (hk : k < 1000) (hco : CO me (fun m => M.1 127 (11 + 3 * m)) co) : cm_Lc cm_ms 217 [.ref 124, .ref d, .int (Int32.ofNat k)] M (fun v M' => v = none ∧ rset d M M' (cuR (M.1 127 (29 + 3 * k)) (orF (fun m => syB (M.1 127 1) (M.1 127 (29 + 3 * k)) (M.1 127 (44 + m)) (M.1 d m) k) me) co (M.1 d) me)) := by
  generalize hY : orF (fun m => syB (M.1 127 1) (M.1 127 (29 + 3 * k)) (M.1 127 (44 + m)) (M.1 d m) k) me = Y
  have e29 : ((29 : Int32) + 3 * Int32.ofNat k).toNatClampNeg = 29 + 3 * k := ixr3 29 (by omega)
  refine lb_of (mi := mr_217) rfl [(10, [0, 1, 2, 3, 4])] (fun S => ∃ m M1, m ≤ me ∧ rset d M M1 (cuR (M.1 127 (29 + 3 * k)) Y co (M.1 d) m) ∧ S = (10, [(0, .ref 124), (1, .ref d), (2, .int (Int32.ofNat k)), (3, .int Y), (4, .int (Int32.ofNat m))], [], M1)) 400 (fun S hS => ?_) 400 ?_
  · obtain ⟨m, M1, hm, hs, rfl⟩ := hS
    have k3 : M1.1 127 3 = Int32.ofNat me := (hs.2.1 127 3 (by omega)).trans h3
    have kf : ∀ j, M1.1 127 j = M.1 127 j := fun j => hs.2.1 127 j (by omega)
    first | refine lb_to (T := (13, [(0, .ref 124), (1, .ref d), (2, .int (Int32.ofNat k)), (3, .int Y), (4, .int (Int32.ofNat m))], [.ref 124, .int (Int32.ofNat m)], M1)) 13 [0, 1, 2, 3, 4] rfl rfl rfl (fun J' h => h) (lb_g0 rfl rfl (show M1.2.2 124 15 = some 127 by rw [hs.1]; exact h15) ?_) | refine lb_to0 (T := (13, [(0, .ref 124), (1, .ref d), (2, .int (Int32.ofNat k)), (3, .int Y), (4, .int (Int32.ofNat m))], [.ref 124, .int (Int32.ofNat m)], M1)) 13 [0, 1, 2, 3, 4] rfl rfl rfl (fun J' h => h) (lb_g0 rfl rfl (show M1.2.2 124 15 = some 127 by rw [hs.1]; exact h15) ?_)
    show (ev_cmp 3 (Int32.ofNat m) (M1.1 127 3) = true → _) ∧ (ev_cmp 3 (Int32.ofNat m) (M1.1 127 3) = false → _)
    refine ⟨fun hL => ?_, fun hL => ?_⟩
    · have g := fn_ge hL
      rw [k3, fn_toInt (by omega), fn_toInt (by omega)] at g
      have : m = me := by omega
      subst this
      exact ⟨rfl, hs⟩
    · have gi := fn_nge hL
      rw [k3, fn_toInt (by omega), fn_toInt (by omega)] at gi
      have em := fn_nat (show m < 2147483648 by omega)
      have e11 : ((11 : Int32) + 3 * Int32.ofNat m).toNatClampNeg = 11 + 3 * m := ixr3 11 (by omega)
      have cm := hco m (by omega)
      have ec : ((6 : Int32) + M1.1 127 ((11 : Int32) + 3 * Int32.ofNat m).toNatClampNeg).toNatClampNeg = 6 + co m := by
        rw [e11, kf, show M.1 127 (11 + 3 * m) = Int32.ofNat (co m) from cm.1]
        exact ixn 6 (by omega)
      show ∃ R, cm_Lc cm_ms 168 [.int Y, .int (Int32.ofNat m)] M1 R ∧ ∀ v M', R v M' → _
      refine ⟨_, m_hasBit Y (Int32.ofNat m) M1, ?_⟩
      rintro v M' ⟨rfl, hM⟩
      subst M'
      show (ev_cmp 1 (bi (hb Y m)) 0 = true → _) ∧ (ev_cmp 1 (bi (hb Y m)) 0 = false → _)
      refine ⟨fun hLfc => ?_, fun hLfc => ?_⟩
      · first | refine lb_to (T := (39, [(0, .ref 124), (1, .ref d), (2, .int (Int32.ofNat k)), (3, .int Y), (4, .int (Int32.ofNat m))], [.ref 124, .int (M1.1 d ((Int32.ofNat m).toNatClampNeg)), .int (Int32.ofNat m), .ref d], M1)) 39 [0, 1, 2, 3, 4] rfl rfl rfl (fun J' h => h) (lb_g0 rfl rfl (show M1.2.2 124 15 = some 127 by rw [hs.1]; exact h15) ?_) | refine lb_to0 (T := (39, [(0, .ref 124), (1, .ref d), (2, .int (Int32.ofNat k)), (3, .int Y), (4, .int (Int32.ofNat m))], [.ref 124, .int (M1.1 d ((Int32.ofNat m).toNatClampNeg)), .int (Int32.ofNat m), .ref d], M1)) 39 [0, 1, 2, 3, 4] rfl rfl rfl (fun J' h => h) (lb_g0 rfl rfl (show M1.2.2 124 15 = some 127 by rw [hs.1]; exact h15) ?_)
        first | refine lb_to (T := (55, [(0, .ref 124), (1, .ref d), (2, .int (Int32.ofNat k)), (3, .int Y), (4, .int (Int32.ofNat m))], [.ref 124, .int 6, .ref d], cm_wi M1 d ((Int32.ofNat m).toNatClampNeg) ((M1.1 d ((Int32.ofNat m).toNatClampNeg)) - (M1.1 127 ((29 + (3 * (Int32.ofNat k))).toNatClampNeg))))) 55 [0, 1, 2, 3, 4] rfl rfl rfl (fun J' h => h) (lb_g0 rfl rfl (show M1.2.2 124 15 = some 127 by rw [hs.1]; exact h15) ?_) | refine lb_to0 (T := (55, [(0, .ref 124), (1, .ref d), (2, .int (Int32.ofNat k)), (3, .int Y), (4, .int (Int32.ofNat m))], [.ref 124, .int 6, .ref d], cm_wi M1 d ((Int32.ofNat m).toNatClampNeg) ((M1.1 d ((Int32.ofNat m).toNatClampNeg)) - (M1.1 127 ((29 + (3 * (Int32.ofNat k))).toNatClampNeg))))) 55 [0, 1, 2, 3, 4] rfl rfl rfl (fun J' h => h) (lb_g0 rfl rfl (show M1.2.2 124 15 = some 127 by rw [hs.1]; exact h15) ?_)
        first | refine lb_to (T := (70, [(0, .ref 124), (1, .ref d), (2, .int (Int32.ofNat k)), (3, .int Y), (4, .int (Int32.ofNat m))], [.ref 124, .int ((cm_wi M1 d ((Int32.ofNat m).toNatClampNeg) ((M1.1 d ((Int32.ofNat m).toNatClampNeg)) - (M1.1 127 ((29 + (3 * (Int32.ofNat k))).toNatClampNeg)))).1 d ((6 + ((cm_wi M1 d ((Int32.ofNat m).toNatClampNeg) ((M1.1 d ((Int32.ofNat m).toNatClampNeg)) - (M1.1 127 ((29 + (3 * (Int32.ofNat k))).toNatClampNeg)))).1 127 ((11 + (3 * (Int32.ofNat m))).toNatClampNeg))).toNatClampNeg)), .int (6 + ((cm_wi M1 d ((Int32.ofNat m).toNatClampNeg) ((M1.1 d ((Int32.ofNat m).toNatClampNeg)) - (M1.1 127 ((29 + (3 * (Int32.ofNat k))).toNatClampNeg)))).1 127 ((11 + (3 * (Int32.ofNat m))).toNatClampNeg))), .ref d], cm_wi M1 d ((Int32.ofNat m).toNatClampNeg) ((M1.1 d ((Int32.ofNat m).toNatClampNeg)) - (M1.1 127 ((29 + (3 * (Int32.ofNat k))).toNatClampNeg))))) 70 [0, 1, 2, 3, 4] rfl rfl rfl (fun J' h => h) (lb_g0 rfl rfl (show M1.2.2 124 15 = some 127 by rw [hs.1]; exact h15) ?_) | refine lb_to0 (T := (70, [(0, .ref 124), (1, .ref d), (2, .int (Int32.ofNat k)), (3, .int Y), (4, .int (Int32.ofNat m))], [.ref 124, .int ((cm_wi M1 d ((Int32.ofNat m).toNatClampNeg) ((M1.1 d ((Int32.ofNat m).toNatClampNeg)) - (M1.1 127 ((29 + (3 * (Int32.ofNat k))).toNatClampNeg)))).1 d ((6 + ((cm_wi M1 d ((Int32.ofNat m).toNatClampNeg) ((M1.1 d ((Int32.ofNat m).toNatClampNeg)) - (M1.1 127 ((29 + (3 * (Int32.ofNat k))).toNatClampNeg)))).1 127 ((11 + (3 * (Int32.ofNat m))).toNatClampNeg))).toNatClampNeg)), .int (6 + ((cm_wi M1 d ((Int32.ofNat m).toNatClampNeg) ((M1.1 d ((Int32.ofNat m).toNatClampNeg)) - (M1.1 127 ((29 + (3 * (Int32.ofNat k))).toNatClampNeg)))).1 127 ((11 + (3 * (Int32.ofNat m))).toNatClampNeg))), .ref d], cm_wi M1 d ((Int32.ofNat m).toNatClampNeg) ((M1.1 d ((Int32.ofNat m).toNatClampNeg)) - (M1.1 127 ((29 + (3 * (Int32.ofNat k))).toNatClampNeg))))) 70 [0, 1, 2, 3, 4] rfl rfl rfl (fun J' h => h) (lb_g0 rfl rfl (show M1.2.2 124 15 = some 127 by rw [hs.1]; exact h15) ?_)
        show (fun (S : cm_S) => ∃ m M1, m ≤ me ∧ rset d M M1 (cuR (M.1 127 (29 + 3 * k)) Y co (M.1 d) m) ∧ S = (10, [(0, .ref 124), (1, .ref d), (2, .int (Int32.ofNat k)), (3, .int Y), (4, .int (Int32.ofNat m))], [], M1)) (10, [(0, .ref 124), (1, .ref d), (2, .int (Int32.ofNat k)), (3, .int Y), (4, .int ((Int32.ofNat m) + 1))], [], cm_wi (cm_wi M1 d ((Int32.ofNat m).toNatClampNeg) ((M1.1 d ((Int32.ofNat m).toNatClampNeg)) - (M1.1 127 ((29 + (3 * (Int32.ofNat k))).toNatClampNeg)))) d ((6 + ((cm_wi M1 d ((Int32.ofNat m).toNatClampNeg) ((M1.1 d ((Int32.ofNat m).toNatClampNeg)) - (M1.1 127 ((29 + (3 * (Int32.ofNat k))).toNatClampNeg)))).1 127 ((11 + (3 * (Int32.ofNat m))).toNatClampNeg))).toNatClampNeg) (((cm_wi M1 d ((Int32.ofNat m).toNatClampNeg) ((M1.1 d ((Int32.ofNat m).toNatClampNeg)) - (M1.1 127 ((29 + (3 * (Int32.ofNat k))).toNatClampNeg)))).1 d ((6 + ((cm_wi M1 d ((Int32.ofNat m).toNatClampNeg) ((M1.1 d ((Int32.ofNat m).toNatClampNeg)) - (M1.1 127 ((29 + (3 * (Int32.ofNat k))).toNatClampNeg)))).1 127 ((11 + (3 * (Int32.ofNat m))).toNatClampNeg))).toNatClampNeg)) + ((cm_wi M1 d ((Int32.ofNat m).toNatClampNeg) ((M1.1 d ((Int32.ofNat m).toNatClampNeg)) - (M1.1 127 ((29 + (3 * (Int32.ofNat k))).toNatClampNeg)))).1 127 ((29 + (3 * (Int32.ofNat k))).toNatClampNeg))))
        have hz := bi_t hLfc
        have e0 : M1.1 d m = M.1 d m := by
          rw [hs.2.2 m (by omega)]
          unfold cuR
          rw [if_pos (by omega), cuH_n]
        have e1 : M1.1 d (6 + co m) = cuL (M.1 127 (29 + 3 * k)) Y co (fun q => M.1 d (6 + q)) m (co m) := by
          rw [hs.2.2 _ (by omega)]
          unfold cuR
          rw [if_neg (by omega), if_pos (by omega), Nat.add_sub_cancel_left]
        refine ⟨m + 1, _, by omega, ?_, by rw [ofn_s1]⟩
        show rset d M (cm_wi (cm_wi M1 d ((Int32.ofNat m).toNatClampNeg) ((M1.1 d ((Int32.ofNat m).toNatClampNeg)) - (M1.1 127 ((29 + (3 * (Int32.ofNat k))).toNatClampNeg)))) d ((6 + ((cm_wi M1 d ((Int32.ofNat m).toNatClampNeg) ((M1.1 d ((Int32.ofNat m).toNatClampNeg)) - (M1.1 127 ((29 + (3 * (Int32.ofNat k))).toNatClampNeg)))).1 127 ((11 + (3 * (Int32.ofNat m))).toNatClampNeg))).toNatClampNeg) (((cm_wi M1 d ((Int32.ofNat m).toNatClampNeg) ((M1.1 d ((Int32.ofNat m).toNatClampNeg)) - (M1.1 127 ((29 + (3 * (Int32.ofNat k))).toNatClampNeg)))).1 d ((6 + ((cm_wi M1 d ((Int32.ofNat m).toNatClampNeg) ((M1.1 d ((Int32.ofNat m).toNatClampNeg)) - (M1.1 127 ((29 + (3 * (Int32.ofNat k))).toNatClampNeg)))).1 127 ((11 + (3 * (Int32.ofNat m))).toNatClampNeg))).toNatClampNeg)) + ((cm_wi M1 d ((Int32.ofNat m).toNatClampNeg) ((M1.1 d ((Int32.ofNat m).toNatClampNeg)) - (M1.1 127 ((29 + (3 * (Int32.ofNat k))).toNatClampNeg)))).1 127 ((29 + (3 * (Int32.ofNat k))).toNatClampNeg)))) _
        have n1 : ∀ x : Int32, (cm_wi M1 d m x).1 d (6 + co m) = M1.1 d (6 + co m) := fun x => wi_n2 (by omega)
        have n2 : ∀ (x : Int32) (j : Nat), (cm_wi M1 d m x).1 127 j = M.1 127 j := fun x j => (wi_n2 (by omega)).trans (kf j)
        rw [em, e29, n2, e11, n2, show M.1 127 (11 + 3 * m) = Int32.ofNat (co m) from cm.1, show ((6 : Int32) + Int32.ofNat (co m)).toNatClampNeg = 6 + co m from ixn 6 (by omega), n1, kf, e0, e1]
        have hs1 : rset d M (cm_wi M1 d m (M.1 d m - M.1 127 (29 + 3 * k))) (fun j => if j = m then M.1 d m - M.1 127 (29 + 3 * k) else cuR (M.1 127 (29 + 3 * k)) Y co (M.1 d) m j) := rset_w hs (if_pos rfl).symm (fun j _ hne => if_neg hne)
        refine rset_w hs1 ?_ (fun j hj hne => ?_)
        · unfold cuR
          rw [if_neg (by omega), if_pos (by omega), Nat.add_sub_cancel_left, cuL_t hz]
          try dsimp only
          rw [if_pos rfl]
        · try dsimp only
          by_cases q : j = m
          · subst q
            rw [if_pos rfl]
            unfold cuR
            rw [if_pos (by omega), cuH_t hz]
          · rw [if_neg q]
            unfold cuR
            by_cases a : j < 6
            · rw [if_pos a, if_pos a, cuH_s q]
            · rw [if_neg a, if_neg a]
              by_cases b : j < 9
              · rw [if_pos b, if_pos b, cuL_t hz]
                try dsimp only
                rw [if_neg (by omega)]
              · rw [if_neg b, if_neg b]
      · show (fun (S : cm_S) => ∃ m M1, m ≤ me ∧ rset d M M1 (cuR (M.1 127 (29 + 3 * k)) Y co (M.1 d) m) ∧ S = (10, [(0, .ref 124), (1, .ref d), (2, .int (Int32.ofNat k)), (3, .int Y), (4, .int (Int32.ofNat m))], [], M1)) (10, [(0, .ref 124), (1, .ref d), (2, .int (Int32.ofNat k)), (3, .int Y), (4, .int ((Int32.ofNat m) + 1))], [], M1)
        have hz := bi_f hLfc
        exact ⟨m + 1, M1, by omega, rset_cg hs (fun j hj => cuR_f hz j), by rw [ofn_s1]⟩
  · show ∃ R, cm_Lc cm_ms 212 [.ref 124, .ref d, .int (Int32.ofNat k)] M R ∧ ∀ v M', R v M' → _
    have hy := m_sayers (d := d) h15 h3 hme hk
    rw [hY] at hy
    refine ⟨_, hy, ?_⟩
    rintro v M' ⟨hM, rfl⟩
    subst M'
    show (fun (S : cm_S) => ∃ m M1, m ≤ me ∧ rset d M M1 (cuR (M.1 127 (29 + 3 * k)) Y co (M.1 d) m) ∧ S = (10, [(0, .ref 124), (1, .ref d), (2, .int (Int32.ofNat k)), (3, .int Y), (4, .int (Int32.ofNat m))], [], M1)) (10, [(0, .ref 124), (1, .ref d), (2, .int (Int32.ofNat k)), (3, .int Y), (4, .int 0)], [], M)
    exact ⟨0, M, Nat.zero_le _, rset_cg (rset_0 d M) (fun j _ => cuR_0 _ _ _ _ j), rfl⟩
