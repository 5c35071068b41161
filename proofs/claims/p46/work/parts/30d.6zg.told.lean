theorem sw_k {x : Int32} {lo hi : Int} {offs : List Int} {A : Prop} {B : Int → Prop} (j0 : Nat) (o0 : Int) (ho : offs[j0]? = some o0) (hx : x.toInt = lo + (j0 : Int)) (hn : ¬ (x.toInt < lo ∨ hi < x.toInt)) (h : B o0) : (x.toInt < lo ∨ hi < x.toInt → A) ∧ (∀ (j : Nat) (o : Int), offs[j]? = some o → x.toInt = lo + (j : Int) → B o) := by
  refine ⟨fun q => absurd q hn, fun j o h1 h2 => ?_⟩
  have : j = j0 := by omega
  subst this
  rw [ho] at h1
  cases h1
  exact h
theorem sw_d {x : Int32} {lo hi : Int} {offs : List Int} {A : Prop} {B : Int → Prop} (hl : lo + (offs.length : Int) = hi + 1) (hx : x.toInt < lo ∨ hi < x.toInt) (h : A) : (x.toInt < lo ∨ hi < x.toInt → A) ∧ (∀ (j : Nat) (o : Int), offs[j]? = some o → x.toInt = lo + (j : Int) → B o) := by
  refine ⟨fun _ => h, fun j o h1 h2 => ?_⟩
  have h3 := (List.getElem?_eq_some_iff.mp h1).1
  omega
noncomputable def bcF (x : Int32) : Int32 :=
  let us := fun (a b : Int32) => (a.toUInt32 >>> (b.toUInt32 &&& Int32.toUInt32 31)).toInt32
  let x1 := x - (us x 1 &&& 1431655765)
  let x2 := (x1 &&& 858993459) + (us x1 2 &&& 858993459)
  let x3 := (x2 + us x2 4) &&& 252645135
  let x4 := x3 + us x3 8
  let x5 := x4 + us x4 16
  x5 &&& 63
set_option maxRecDepth 100000 in
theorem bc_t : ∀ a, a < 64 → bcF (Int32.ofNat a) = Int32.ofNat (pc a) := by decide +kernel
set_option maxRecDepth 100000 in
theorem f_bc (x : Int32) (M : cm_M) : cm_Lc cm_ms 0 [.int x] M (fun v M' => v = some (.int (bcF x)) ∧ M' = M) := by
  refine lb_st0 (mi := mr_0) rfl 60 ?_
  exact ⟨rfl, rfl⟩
theorem pc_6 (x : Nat) : pc x ≤ 6 := by
  unfold pc
  omega
theorem su_le (f : Nat → Nat) : ∀ n, su f n ≤ 6 * n
  | 0 => Nat.le_refl _
  | n + 1 => by
    unfold su
    have := su_le f n
    have := pc_6 (f n)
    omega
theorem su_z {f : Nat → Nat} {n : Nat} (h : ∀ j, n ≤ j → f j = 0) : ∀ d, su f (n + d) = su f n
  | 0 => rfl
  | d + 1 => by
    show su f (n + d) + pc (f (n + d)) = _
    rw [su_z h d, h (n + d) (by omega)]
    try rfl
theorem su_zz {f : Nat → Nat} {n m : Nat} (h : ∀ j, n ≤ j → f j = 0) (hnm : n ≤ m) : su f m = su f n := by
  have := su_z h (m - n)
  rwa [Nat.add_sub_of_le hnm] at this
theorem half_t : ∀ q, q < 100 → Int32.ofNat (2 * q) / 2 = Int32.ofNat q := by decide +kernel
noncomputable def bS (A : Nat → Int32) : Nat → Int32
  | 0 => 0
  | i + 1 => bS A i + bcF (A i)
theorem bS_su {A : Nat → Int32} {f : Nat → Nat} : ∀ n, (∀ j, j < n → A j = Int32.ofNat (f j) ∧ f j < 64) → bS A n = Int32.ofNat (su f n)
  | 0, _ => rfl
  | n + 1, h => by
    have q := h n (by omega)
    unfold bS su
    rw [bS_su n (fun j hj => h j (by omega)), q.1, bc_t _ q.2, ← Int32.ofNat_add]
noncomputable def bo_J10 (x : Int32) (M : cm_M) (S : cm_S) : Prop := ∃ i, i ≤ min x.toNatClampNeg 6 ∧ S = (4, [(0, .ref 10), (1, .int x), (2, .int (bS (M.1 10) i)), (3, .int (Int32.ofNat i))], [], M)
set_option maxRecDepth 100000 in
set_option maxHeartbeats 4000000 in
theorem f_bits10 (x : Int32) (M : cm_M) : cm_Lc cm_ms 12 [.ref 10, .int x] M (fun v M' => v = some (.int (bS (M.1 10) (min x.toNatClampNeg 6))) ∧ M' = M) := by
  have hx : x.toNatClampNeg = x.toInt.toNat := rfl
  refine lb_of (mi := mr_12) rfl [(4, [0, 1, 2, 3])] (bo_J10 x M) 40 (fun S hS => ?_) 10 ?_
  · obtain ⟨i, hi, rfl⟩ := hS
    show (ev_cmp 3 (Int32.ofNat i) x = true → _) ∧ (ev_cmp 3 (Int32.ofNat i) x = false → (ev_cmp 3 (Int32.ofNat i) (Int32.ofNat 6) = true → _) ∧ (ev_cmp 3 (Int32.ofNat i) (Int32.ofNat 6) = false → ∃ R, cm_Lc cm_ms 0 [.int (M.1 10 (Int32.ofNat i).toNatClampNeg)] M R ∧ ∀ v M', R v M' → _))
    refine ⟨fun h1 => ?_, fun h1 => ⟨fun h2 => ?_, fun h2 => ⟨_, f_bc _ _, ?_⟩⟩⟩
    · have g := fn_ge h1
      rw [fn_toInt (by omega)] at g
      have e : min x.toNatClampNeg 6 = i := by omega
      exact ⟨by rw [e], rfl⟩
    · have g := fn_ge h2
      rw [fn_toInt (by omega), fn_toInt (by omega)] at g
      have e : min x.toNatClampNeg 6 = i := by omega
      exact ⟨by rw [e], rfl⟩
    · rintro v M' ⟨rfl, rfl⟩
      have g1 := fn_nge h1
      have g2 := fn_nge h2
      rw [fn_toInt (by omega)] at g1
      rw [fn_toInt (by omega), fn_toInt (by omega)] at g2
      show bo_J10 x M' (4, [(0, .ref 10), (1, .int x), (2, .int (bS (M'.1 10) i + bcF (M'.1 10 (Int32.ofNat i).toNatClampNeg))), (3, .int (Int32.ofNat i + 1))], [], M')
      rw [fn_nat (by omega), fn_succ]
      exact ⟨i + 1, by omega, rfl⟩
  · show bo_J10 x M (4, [(0, .ref 10), (1, .int x), (2, .int 0), (3, .int (Int32.ofNat 0))], [], M)
    exact ⟨0, Nat.zero_le _, rfl⟩
noncomputable def bo_J15 (x : Int32) (M : cm_M) (S : cm_S) : Prop := ∃ i, i ≤ min x.toNatClampNeg 5 ∧ S = (4, [(0, .ref 15), (1, .int x), (2, .int (bS (M.1 15) i)), (3, .int (Int32.ofNat i))], [], M)
set_option maxRecDepth 100000 in
set_option maxHeartbeats 4000000 in
theorem f_bits15 (x : Int32) (M : cm_M) : cm_Lc cm_ms 12 [.ref 15, .int x] M (fun v M' => v = some (.int (bS (M.1 15) (min x.toNatClampNeg 5))) ∧ M' = M) := by
  have hx : x.toNatClampNeg = x.toInt.toNat := rfl
  refine lb_of (mi := mr_12) rfl [(4, [0, 1, 2, 3])] (bo_J15 x M) 40 (fun S hS => ?_) 10 ?_
  · obtain ⟨i, hi, rfl⟩ := hS
    show (ev_cmp 3 (Int32.ofNat i) x = true → _) ∧ (ev_cmp 3 (Int32.ofNat i) x = false → (ev_cmp 3 (Int32.ofNat i) (Int32.ofNat 5) = true → _) ∧ (ev_cmp 3 (Int32.ofNat i) (Int32.ofNat 5) = false → ∃ R, cm_Lc cm_ms 0 [.int (M.1 15 (Int32.ofNat i).toNatClampNeg)] M R ∧ ∀ v M', R v M' → _))
    refine ⟨fun h1 => ?_, fun h1 => ⟨fun h2 => ?_, fun h2 => ⟨_, f_bc _ _, ?_⟩⟩⟩
    · have g := fn_ge h1
      rw [fn_toInt (by omega)] at g
      have e : min x.toNatClampNeg 5 = i := by omega
      exact ⟨by rw [e], rfl⟩
    · have g := fn_ge h2
      rw [fn_toInt (by omega), fn_toInt (by omega)] at g
      have e : min x.toNatClampNeg 5 = i := by omega
      exact ⟨by rw [e], rfl⟩
    · rintro v M' ⟨rfl, rfl⟩
      have g1 := fn_nge h1
      have g2 := fn_nge h2
      rw [fn_toInt (by omega)] at g1
      rw [fn_toInt (by omega), fn_toInt (by omega)] at g2
      show bo_J15 x M' (4, [(0, .ref 15), (1, .int x), (2, .int (bS (M'.1 15) i + bcF (M'.1 15 (Int32.ofNat i).toNatClampNeg))), (3, .int (Int32.ofNat i + 1))], [], M')
      rw [fn_nat (by omega), fn_succ]
      exact ⟨i + 1, by omega, rfl⟩
  · show bo_J15 x M (4, [(0, .ref 15), (1, .int x), (2, .int 0), (3, .int (Int32.ofNat 0))], [], M)
    exact ⟨0, Nat.zero_le _, rfl⟩
noncomputable def bo_J11 (x : Int32) (M : cm_M) (S : cm_S) : Prop := ∃ i, i ≤ min x.toNatClampNeg 6 ∧ S = (4, [(0, .ref 11), (1, .int x), (2, .int (bS (M.1 11) i)), (3, .int (Int32.ofNat i))], [], M)
set_option maxRecDepth 100000 in
set_option maxHeartbeats 4000000 in
theorem f_bits11 (x : Int32) (M : cm_M) : cm_Lc cm_ms 12 [.ref 11, .int x] M (fun v M' => v = some (.int (bS (M.1 11) (min x.toNatClampNeg 6))) ∧ M' = M) := by
  have hx : x.toNatClampNeg = x.toInt.toNat := rfl
  refine lb_of (mi := mr_12) rfl [(4, [0, 1, 2, 3])] (bo_J11 x M) 40 (fun S hS => ?_) 10 ?_
  · obtain ⟨i, hi, rfl⟩ := hS
    show (ev_cmp 3 (Int32.ofNat i) x = true → _) ∧ (ev_cmp 3 (Int32.ofNat i) x = false → (ev_cmp 3 (Int32.ofNat i) (Int32.ofNat 6) = true → _) ∧ (ev_cmp 3 (Int32.ofNat i) (Int32.ofNat 6) = false → ∃ R, cm_Lc cm_ms 0 [.int (M.1 11 (Int32.ofNat i).toNatClampNeg)] M R ∧ ∀ v M', R v M' → _))
    refine ⟨fun h1 => ?_, fun h1 => ⟨fun h2 => ?_, fun h2 => ⟨_, f_bc _ _, ?_⟩⟩⟩
    · have g := fn_ge h1
      rw [fn_toInt (by omega)] at g
      have e : min x.toNatClampNeg 6 = i := by omega
      exact ⟨by rw [e], rfl⟩
    · have g := fn_ge h2
      rw [fn_toInt (by omega), fn_toInt (by omega)] at g
      have e : min x.toNatClampNeg 6 = i := by omega
      exact ⟨by rw [e], rfl⟩
    · rintro v M' ⟨rfl, rfl⟩
      have g1 := fn_nge h1
      have g2 := fn_nge h2
      rw [fn_toInt (by omega)] at g1
      rw [fn_toInt (by omega), fn_toInt (by omega)] at g2
      show bo_J11 x M' (4, [(0, .ref 11), (1, .int x), (2, .int (bS (M'.1 11) i + bcF (M'.1 11 (Int32.ofNat i).toNatClampNeg))), (3, .int (Int32.ofNat i + 1))], [], M')
      rw [fn_nat (by omega), fn_succ]
      exact ⟨i + 1, by omega, rfl⟩
  · show bo_J11 x M (4, [(0, .ref 11), (1, .int x), (2, .int 0), (3, .int (Int32.ofNat 0))], [], M)
    exact ⟨0, Nat.zero_le _, rfl⟩
noncomputable def bo_J23 (x : Int32) (M : cm_M) (S : cm_S) : Prop := ∃ i, i ≤ min x.toNatClampNeg 6 ∧ S = (4, [(0, .ref 23), (1, .int x), (2, .int (bS (M.1 23) i)), (3, .int (Int32.ofNat i))], [], M)
set_option maxRecDepth 100000 in
set_option maxHeartbeats 4000000 in
theorem f_bits23 (x : Int32) (M : cm_M) : cm_Lc cm_ms 12 [.ref 23, .int x] M (fun v M' => v = some (.int (bS (M.1 23) (min x.toNatClampNeg 6))) ∧ M' = M) := by
  have hx : x.toNatClampNeg = x.toInt.toNat := rfl
  refine lb_of (mi := mr_12) rfl [(4, [0, 1, 2, 3])] (bo_J23 x M) 40 (fun S hS => ?_) 10 ?_
  · obtain ⟨i, hi, rfl⟩ := hS
    show (ev_cmp 3 (Int32.ofNat i) x = true → _) ∧ (ev_cmp 3 (Int32.ofNat i) x = false → (ev_cmp 3 (Int32.ofNat i) (Int32.ofNat 6) = true → _) ∧ (ev_cmp 3 (Int32.ofNat i) (Int32.ofNat 6) = false → ∃ R, cm_Lc cm_ms 0 [.int (M.1 23 (Int32.ofNat i).toNatClampNeg)] M R ∧ ∀ v M', R v M' → _))
    refine ⟨fun h1 => ?_, fun h1 => ⟨fun h2 => ?_, fun h2 => ⟨_, f_bc _ _, ?_⟩⟩⟩
    · have g := fn_ge h1
      rw [fn_toInt (by omega)] at g
      have e : min x.toNatClampNeg 6 = i := by omega
      exact ⟨by rw [e], rfl⟩
    · have g := fn_ge h2
      rw [fn_toInt (by omega), fn_toInt (by omega)] at g
      have e : min x.toNatClampNeg 6 = i := by omega
      exact ⟨by rw [e], rfl⟩
    · rintro v M' ⟨rfl, rfl⟩
      have g1 := fn_nge h1
      have g2 := fn_nge h2
      rw [fn_toInt (by omega)] at g1
      rw [fn_toInt (by omega), fn_toInt (by omega)] at g2
      show bo_J23 x M' (4, [(0, .ref 23), (1, .int x), (2, .int (bS (M'.1 23) i + bcF (M'.1 23 (Int32.ofNat i).toNatClampNeg))), (3, .int (Int32.ofNat i + 1))], [], M')
      rw [fn_nat (by omega), fn_succ]
      exact ⟨i + 1, by omega, rfl⟩
  · show bo_J23 x M (4, [(0, .ref 23), (1, .int x), (2, .int 0), (3, .int (Int32.ofNat 0))], [], M)
    exact ⟨0, Nat.zero_le _, rfl⟩
noncomputable def bo_J28 (x : Int32) (M : cm_M) (S : cm_S) : Prop := ∃ i, i ≤ min x.toNatClampNeg 5 ∧ S = (4, [(0, .ref 28), (1, .int x), (2, .int (bS (M.1 28) i)), (3, .int (Int32.ofNat i))], [], M)
set_option maxRecDepth 100000 in
set_option maxHeartbeats 4000000 in
theorem f_bits28 (x : Int32) (M : cm_M) : cm_Lc cm_ms 12 [.ref 28, .int x] M (fun v M' => v = some (.int (bS (M.1 28) (min x.toNatClampNeg 5))) ∧ M' = M) := by
  have hx : x.toNatClampNeg = x.toInt.toNat := rfl
  refine lb_of (mi := mr_12) rfl [(4, [0, 1, 2, 3])] (bo_J28 x M) 40 (fun S hS => ?_) 10 ?_
  · obtain ⟨i, hi, rfl⟩ := hS
    show (ev_cmp 3 (Int32.ofNat i) x = true → _) ∧ (ev_cmp 3 (Int32.ofNat i) x = false → (ev_cmp 3 (Int32.ofNat i) (Int32.ofNat 5) = true → _) ∧ (ev_cmp 3 (Int32.ofNat i) (Int32.ofNat 5) = false → ∃ R, cm_Lc cm_ms 0 [.int (M.1 28 (Int32.ofNat i).toNatClampNeg)] M R ∧ ∀ v M', R v M' → _))
    refine ⟨fun h1 => ?_, fun h1 => ⟨fun h2 => ?_, fun h2 => ⟨_, f_bc _ _, ?_⟩⟩⟩
    · have g := fn_ge h1
      rw [fn_toInt (by omega)] at g
      have e : min x.toNatClampNeg 5 = i := by omega
      exact ⟨by rw [e], rfl⟩
    · have g := fn_ge h2
      rw [fn_toInt (by omega), fn_toInt (by omega)] at g
      have e : min x.toNatClampNeg 5 = i := by omega
      exact ⟨by rw [e], rfl⟩
    · rintro v M' ⟨rfl, rfl⟩
      have g1 := fn_nge h1
      have g2 := fn_nge h2
      rw [fn_toInt (by omega)] at g1
      rw [fn_toInt (by omega), fn_toInt (by omega)] at g2
      show bo_J28 x M' (4, [(0, .ref 28), (1, .int x), (2, .int (bS (M'.1 28) i + bcF (M'.1 28 (Int32.ofNat i).toNatClampNeg))), (3, .int (Int32.ofNat i + 1))], [], M')
      rw [fn_nat (by omega), fn_succ]
      exact ⟨i + 1, by omega, rfl⟩
  · show bo_J28 x M (4, [(0, .ref 28), (1, .int x), (2, .int 0), (3, .int (Int32.ofNat 0))], [], M)
    exact ⟨0, Nat.zero_le _, rfl⟩
noncomputable def bo_J24 (x : Int32) (M : cm_M) (S : cm_S) : Prop := ∃ i, i ≤ min x.toNatClampNeg 6 ∧ S = (4, [(0, .ref 24), (1, .int x), (2, .int (bS (M.1 24) i)), (3, .int (Int32.ofNat i))], [], M)
set_option maxRecDepth 100000 in
set_option maxHeartbeats 4000000 in
theorem f_bits24 (x : Int32) (M : cm_M) : cm_Lc cm_ms 12 [.ref 24, .int x] M (fun v M' => v = some (.int (bS (M.1 24) (min x.toNatClampNeg 6))) ∧ M' = M) := by
  have hx : x.toNatClampNeg = x.toInt.toNat := rfl
  refine lb_of (mi := mr_12) rfl [(4, [0, 1, 2, 3])] (bo_J24 x M) 40 (fun S hS => ?_) 10 ?_
  · obtain ⟨i, hi, rfl⟩ := hS
    show (ev_cmp 3 (Int32.ofNat i) x = true → _) ∧ (ev_cmp 3 (Int32.ofNat i) x = false → (ev_cmp 3 (Int32.ofNat i) (Int32.ofNat 6) = true → _) ∧ (ev_cmp 3 (Int32.ofNat i) (Int32.ofNat 6) = false → ∃ R, cm_Lc cm_ms 0 [.int (M.1 24 (Int32.ofNat i).toNatClampNeg)] M R ∧ ∀ v M', R v M' → _))
    refine ⟨fun h1 => ?_, fun h1 => ⟨fun h2 => ?_, fun h2 => ⟨_, f_bc _ _, ?_⟩⟩⟩
    · have g := fn_ge h1
      rw [fn_toInt (by omega)] at g
      have e : min x.toNatClampNeg 6 = i := by omega
      exact ⟨by rw [e], rfl⟩
    · have g := fn_ge h2
      rw [fn_toInt (by omega), fn_toInt (by omega)] at g
      have e : min x.toNatClampNeg 6 = i := by omega
      exact ⟨by rw [e], rfl⟩
    · rintro v M' ⟨rfl, rfl⟩
      have g1 := fn_nge h1
      have g2 := fn_nge h2
      rw [fn_toInt (by omega)] at g1
      rw [fn_toInt (by omega), fn_toInt (by omega)] at g2
      show bo_J24 x M' (4, [(0, .ref 24), (1, .int x), (2, .int (bS (M'.1 24) i + bcF (M'.1 24 (Int32.ofNat i).toNatClampNeg))), (3, .int (Int32.ofNat i + 1))], [], M')
      rw [fn_nat (by omega), fn_succ]
      exact ⟨i + 1, by omega, rfl⟩
  · show bo_J24 x M (4, [(0, .ref 24), (1, .int x), (2, .int 0), (3, .int (Int32.ofNat 0))], [], M)
    exact ⟨0, Nat.zero_le _, rfl⟩
noncomputable def toC (T : Nat) (C : cm_M) (l : Int32) : Int32 := if l = 1 then C.1 T 3 else if l = 2 then C.1 T 9 else if l = 3 then bS (C.1 (T + 4)) (min (C.1 T 3).toNatClampNeg 6) else if l = 4 then bS (C.1 (T + 9)) (min (C.1 T 9).toNatClampNeg 5) else if l = 5 then bS (C.1 (T + 5)) (min (C.1 T 3).toNatClampNeg 6) / 2 else if l = 6 then C.1 T 15 else 0
theorem toC_1 {T me mo ch : Nat} {C : cm_M} {F : Nat → Int32} (hd : DT T me mo ch C F) : toC T C 1 = F 3 ∧ toC T C 2 = F 4 ∧ toC T C 6 = F 8 := by
  obtain ⟨-, -, ⟨b1, b2, b3, b4, b5, b6⟩, -⟩ := hd
  exact ⟨b1.trans b2.symm, b3.trans b4.symm, b5.trans b6.symm⟩
theorem toC_3 {T me mo ch : Nat} {C : cm_M} {F : Nat → Int32} (hd : DT T me mo ch C F) : toC T C 3 = F 5 := by
  obtain ⟨hN, -, ⟨b1, -⟩, d1, -, -, ⟨ag, am, qu, f1, f2, -, -, f5, -⟩, -⟩ := hd
  obtain ⟨-, -, c3, -⟩ := id hN
  show bS (C.1 (T + 4)) (min (C.1 T 3).toNatClampNeg 6) = F 5
  have b1' : C.1 T 3 = Int32.ofNat me := b1
  have e : min me 6 = me := by omega
  rw [b1', fn_nat (by omega), e, f5, su_zz (fun j hj => (f2 j hj).1) c3]
  refine bS_su me (fun j hj => ?_)
  have p := f1 j (by omega)
  exact ⟨((d1 j hj).2.2.2.1).trans p.2.1, by omega⟩
theorem toC_4 {T me mo ch : Nat} {C : cm_M} {F : Nat → Int32} (hd : DT T me mo ch C F) : toC T C 4 = F 6 := by
  obtain ⟨hN, -, ⟨-, -, b3, -⟩, -, d2, -, ⟨ag, am, qu, -, -, f3, f4, -, f6, -⟩, -⟩ := hd
  obtain ⟨-, -, -, c4, -⟩ := id hN
  show bS (C.1 (T + 9)) (min (C.1 T 9).toNatClampNeg 5) = F 6
  have b3' : C.1 T 9 = Int32.ofNat mo := b3
  have e : min mo 5 = mo := by omega
  rw [b3', fn_nat (by omega), e, f6, su_zz f4 c4]
  refine bS_su mo (fun j hj => ?_)
  have p := f3 j (by omega)
  have h2 := pw_5 j (by omega)
  exact ⟨((d2 j hj).2.2.2).trans p.2, by omega⟩
theorem toC_5 {T me mo ch : Nat} {C : cm_M} {F : Nat → Int32} (hd : DT T me mo ch C F) : toC T C 5 = F 7 := by
  obtain ⟨hN, -, ⟨b1, -⟩, d1, -, -, ⟨ag, am, qu, f1, f2, -, -, -, -, q, f7, f8, -⟩, -⟩ := hd
  obtain ⟨-, -, c3, -⟩ := id hN
  show bS (C.1 (T + 5)) (min (C.1 T 3).toNatClampNeg 6) / 2 = F 7
  have b1' : C.1 T 3 = Int32.ofNat me := b1
  have e : min me 6 = me := by omega
  have s1 := su_zz (fun j hj => (f2 j hj).2) c3
  have s2 := su_le qu 6
  have s3 : bS (C.1 (T + 5)) me = Int32.ofNat (su qu me) := bS_su me (fun j hj => by
    have p := f1 j (by omega)
    exact ⟨((d1 j hj).2.2.2.2).trans p.2.2.2, p.2.2.1⟩)
  rw [b1', fn_nat (by omega), e, s3, ← s1, f8, half_t q (by omega), f7]
set_option maxRecDepth 100000 in
set_option maxHeartbeats 4000000 in
theorem f_qtold6 {U : Nat} (C : cm_M) : cm_Lc cm_ms 16 [.ref 6] (fr U C) (fun v M' => v = some (.int (toC 6 C 5)) ∧ M' = fr U C) := by
  refine lb_st0 (mi := mr_16) rfl 20 ?_
  show ∃ R, cm_Lc cm_ms 12 [.ref 11, .int (C.1 6 3)] (fr U C) R ∧ ∀ v M', R v M' → _
  refine ⟨_, f_bits11 _ _, ?_⟩
  rintro v M' ⟨rfl, rfl⟩
  exact ⟨rfl, rfl⟩
set_option maxRecDepth 100000 in
set_option maxHeartbeats 4000000 in
theorem f_toldN0_6 (C : cm_M) : cm_Lc cm_ms 69 [.ref 2, .int 0] (fr 6 C) (fun v M' => v = some (.int (toC 6 C 0)) ∧ M' = fr 6 C) := by
  refine lb_st0 (mi := mr_69) rfl 40 ?_
  show ((0 : Int32).toInt < 1 ∨ 6 < (0 : Int32).toInt → _) ∧ (∀ (j : Nat) (o : Int), ([39, 47, 55, 73, 91, 99] : List Int)[j]? = some o → (0 : Int32).toInt = 1 + (j : Int) → _)
  refine sw_d (by decide) (by decide) ?_
  show (fun (v : Option Value) (M' : cm_M) => v = some (.int (toC 6 C 0)) ∧ M' = fr 6 C) (some (.int 0)) (fr 6 C)
  exact ⟨rfl, rfl⟩
set_option maxRecDepth 100000 in
set_option maxHeartbeats 4000000 in
theorem f_toldN1_6 (C : cm_M) : cm_Lc cm_ms 69 [.ref 2, .int 1] (fr 6 C) (fun v M' => v = some (.int (toC 6 C 1)) ∧ M' = fr 6 C) := by
  refine lb_st0 (mi := mr_69) rfl 40 ?_
  show ((1 : Int32).toInt < 1 ∨ 6 < (1 : Int32).toInt → _) ∧ (∀ (j : Nat) (o : Int), ([39, 47, 55, 73, 91, 99] : List Int)[j]? = some o → (1 : Int32).toInt = 1 + (j : Int) → _)
  refine sw_k 0 39 rfl (by decide) (by decide) ?_
  show (fun (v : Option Value) (M' : cm_M) => v = some (.int (toC 6 C 1)) ∧ M' = fr 6 C) (some (.int (C.1 6 3))) (fr 6 C)
  exact ⟨rfl, rfl⟩
set_option maxRecDepth 100000 in
set_option maxHeartbeats 4000000 in
theorem f_toldN2_6 (C : cm_M) : cm_Lc cm_ms 69 [.ref 2, .int 2] (fr 6 C) (fun v M' => v = some (.int (toC 6 C 2)) ∧ M' = fr 6 C) := by
  refine lb_st0 (mi := mr_69) rfl 40 ?_
  show ((2 : Int32).toInt < 1 ∨ 6 < (2 : Int32).toInt → _) ∧ (∀ (j : Nat) (o : Int), ([39, 47, 55, 73, 91, 99] : List Int)[j]? = some o → (2 : Int32).toInt = 1 + (j : Int) → _)
  refine sw_k 1 47 rfl (by decide) (by decide) ?_
  show (fun (v : Option Value) (M' : cm_M) => v = some (.int (toC 6 C 2)) ∧ M' = fr 6 C) (some (.int (C.1 6 9))) (fr 6 C)
  exact ⟨rfl, rfl⟩
set_option maxRecDepth 100000 in
set_option maxHeartbeats 4000000 in
theorem f_toldN3_6 (C : cm_M) : cm_Lc cm_ms 69 [.ref 2, .int 3] (fr 6 C) (fun v M' => v = some (.int (toC 6 C 3)) ∧ M' = fr 6 C) := by
  refine lb_st0 (mi := mr_69) rfl 40 ?_
  show ((3 : Int32).toInt < 1 ∨ 6 < (3 : Int32).toInt → _) ∧ (∀ (j : Nat) (o : Int), ([39, 47, 55, 73, 91, 99] : List Int)[j]? = some o → (3 : Int32).toInt = 1 + (j : Int) → _)
  refine sw_k 2 55 rfl (by decide) (by decide) ?_
  show ∃ R, cm_Lc cm_ms 12 [.ref 10, .int (C.1 6 3)] (fr 6 C) R ∧ ∀ v M', R v M' → _
  refine ⟨_, f_bits10 _ _, ?_⟩
  rintro v M' ⟨rfl, rfl⟩
  show (fun (v : Option Value) (M' : cm_M) => v = some (.int (toC 6 C 3)) ∧ M' = fr 6 C) (some (.int (bS (C.1 10) (min (C.1 6 3).toNatClampNeg 6)))) (fr 6 C)
  exact ⟨rfl, rfl⟩
set_option maxRecDepth 100000 in
set_option maxHeartbeats 4000000 in
theorem f_toldN4_6 (C : cm_M) : cm_Lc cm_ms 69 [.ref 2, .int 4] (fr 6 C) (fun v M' => v = some (.int (toC 6 C 4)) ∧ M' = fr 6 C) := by
  refine lb_st0 (mi := mr_69) rfl 40 ?_
  show ((4 : Int32).toInt < 1 ∨ 6 < (4 : Int32).toInt → _) ∧ (∀ (j : Nat) (o : Int), ([39, 47, 55, 73, 91, 99] : List Int)[j]? = some o → (4 : Int32).toInt = 1 + (j : Int) → _)
  refine sw_k 3 73 rfl (by decide) (by decide) ?_
  show ∃ R, cm_Lc cm_ms 12 [.ref 15, .int (C.1 6 9)] (fr 6 C) R ∧ ∀ v M', R v M' → _
  refine ⟨_, f_bits15 _ _, ?_⟩
  rintro v M' ⟨rfl, rfl⟩
  show (fun (v : Option Value) (M' : cm_M) => v = some (.int (toC 6 C 4)) ∧ M' = fr 6 C) (some (.int (bS (C.1 15) (min (C.1 6 9).toNatClampNeg 5)))) (fr 6 C)
  exact ⟨rfl, rfl⟩
set_option maxRecDepth 100000 in
set_option maxHeartbeats 4000000 in
theorem f_toldN5_6 (C : cm_M) : cm_Lc cm_ms 69 [.ref 2, .int 5] (fr 6 C) (fun v M' => v = some (.int (toC 6 C 5)) ∧ M' = fr 6 C) := by
  refine lb_st0 (mi := mr_69) rfl 40 ?_
  show ((5 : Int32).toInt < 1 ∨ 6 < (5 : Int32).toInt → _) ∧ (∀ (j : Nat) (o : Int), ([39, 47, 55, 73, 91, 99] : List Int)[j]? = some o → (5 : Int32).toInt = 1 + (j : Int) → _)
  refine sw_k 4 91 rfl (by decide) (by decide) ?_
  show ∃ R, cm_Lc cm_ms 16 [.ref 6] (fr 6 C) R ∧ ∀ v M', R v M' → _
  refine ⟨_, f_qtold6 C, ?_⟩
  rintro v M' ⟨rfl, rfl⟩
  show (fun (v : Option Value) (M' : cm_M) => v = some (.int (toC 6 C 5)) ∧ M' = fr 6 C) (some (.int (toC 6 C 5))) (fr 6 C)
  exact ⟨rfl, rfl⟩
set_option maxRecDepth 100000 in
set_option maxHeartbeats 4000000 in
theorem f_toldN6_6 (C : cm_M) : cm_Lc cm_ms 69 [.ref 2, .int 6] (fr 6 C) (fun v M' => v = some (.int (toC 6 C 6)) ∧ M' = fr 6 C) := by
  refine lb_st0 (mi := mr_69) rfl 40 ?_
  show ((6 : Int32).toInt < 1 ∨ 6 < (6 : Int32).toInt → _) ∧ (∀ (j : Nat) (o : Int), ([39, 47, 55, 73, 91, 99] : List Int)[j]? = some o → (6 : Int32).toInt = 1 + (j : Int) → _)
  refine sw_k 5 99 rfl (by decide) (by decide) ?_
  show (fun (v : Option Value) (M' : cm_M) => v = some (.int (toC 6 C 6)) ∧ M' = fr 6 C) (some (.int (C.1 6 15))) (fr 6 C)
  exact ⟨rfl, rfl⟩
set_option maxRecDepth 100000 in
set_option maxHeartbeats 4000000 in
theorem f_toldN7_6 (C : cm_M) : cm_Lc cm_ms 69 [.ref 2, .int 7] (fr 6 C) (fun v M' => v = some (.int (toC 6 C 7)) ∧ M' = fr 6 C) := by
  refine lb_st0 (mi := mr_69) rfl 40 ?_
  show ((7 : Int32).toInt < 1 ∨ 6 < (7 : Int32).toInt → _) ∧ (∀ (j : Nat) (o : Int), ([39, 47, 55, 73, 91, 99] : List Int)[j]? = some o → (7 : Int32).toInt = 1 + (j : Int) → _)
  refine sw_d (by decide) (by decide) ?_
  show (fun (v : Option Value) (M' : cm_M) => v = some (.int (toC 6 C 7)) ∧ M' = fr 6 C) (some (.int 0)) (fr 6 C)
  exact ⟨rfl, rfl⟩
set_option maxRecDepth 100000 in
set_option maxHeartbeats 4000000 in
theorem f_qtold19 {U : Nat} (C : cm_M) : cm_Lc cm_ms 16 [.ref 19] (fr U C) (fun v M' => v = some (.int (toC 19 C 5)) ∧ M' = fr U C) := by
  refine lb_st0 (mi := mr_16) rfl 20 ?_
  show ∃ R, cm_Lc cm_ms 12 [.ref 24, .int (C.1 19 3)] (fr U C) R ∧ ∀ v M', R v M' → _
  refine ⟨_, f_bits24 _ _, ?_⟩
  rintro v M' ⟨rfl, rfl⟩
  exact ⟨rfl, rfl⟩
set_option maxRecDepth 100000 in
set_option maxHeartbeats 4000000 in
theorem f_toldN0_19 (C : cm_M) : cm_Lc cm_ms 69 [.ref 2, .int 0] (fr 19 C) (fun v M' => v = some (.int (toC 19 C 0)) ∧ M' = fr 19 C) := by
  refine lb_st0 (mi := mr_69) rfl 40 ?_
  show ((0 : Int32).toInt < 1 ∨ 6 < (0 : Int32).toInt → _) ∧ (∀ (j : Nat) (o : Int), ([39, 47, 55, 73, 91, 99] : List Int)[j]? = some o → (0 : Int32).toInt = 1 + (j : Int) → _)
  refine sw_d (by decide) (by decide) ?_
  show (fun (v : Option Value) (M' : cm_M) => v = some (.int (toC 19 C 0)) ∧ M' = fr 19 C) (some (.int 0)) (fr 19 C)
  exact ⟨rfl, rfl⟩
set_option maxRecDepth 100000 in
set_option maxHeartbeats 4000000 in
theorem f_toldN1_19 (C : cm_M) : cm_Lc cm_ms 69 [.ref 2, .int 1] (fr 19 C) (fun v M' => v = some (.int (toC 19 C 1)) ∧ M' = fr 19 C) := by
  refine lb_st0 (mi := mr_69) rfl 40 ?_
  show ((1 : Int32).toInt < 1 ∨ 6 < (1 : Int32).toInt → _) ∧ (∀ (j : Nat) (o : Int), ([39, 47, 55, 73, 91, 99] : List Int)[j]? = some o → (1 : Int32).toInt = 1 + (j : Int) → _)
  refine sw_k 0 39 rfl (by decide) (by decide) ?_
  show (fun (v : Option Value) (M' : cm_M) => v = some (.int (toC 19 C 1)) ∧ M' = fr 19 C) (some (.int (C.1 19 3))) (fr 19 C)
  exact ⟨rfl, rfl⟩
set_option maxRecDepth 100000 in
set_option maxHeartbeats 4000000 in
theorem f_toldN2_19 (C : cm_M) : cm_Lc cm_ms 69 [.ref 2, .int 2] (fr 19 C) (fun v M' => v = some (.int (toC 19 C 2)) ∧ M' = fr 19 C) := by
  refine lb_st0 (mi := mr_69) rfl 40 ?_
  show ((2 : Int32).toInt < 1 ∨ 6 < (2 : Int32).toInt → _) ∧ (∀ (j : Nat) (o : Int), ([39, 47, 55, 73, 91, 99] : List Int)[j]? = some o → (2 : Int32).toInt = 1 + (j : Int) → _)
  refine sw_k 1 47 rfl (by decide) (by decide) ?_
  show (fun (v : Option Value) (M' : cm_M) => v = some (.int (toC 19 C 2)) ∧ M' = fr 19 C) (some (.int (C.1 19 9))) (fr 19 C)
  exact ⟨rfl, rfl⟩
set_option maxRecDepth 100000 in
set_option maxHeartbeats 4000000 in
theorem f_toldN3_19 (C : cm_M) : cm_Lc cm_ms 69 [.ref 2, .int 3] (fr 19 C) (fun v M' => v = some (.int (toC 19 C 3)) ∧ M' = fr 19 C) := by
  refine lb_st0 (mi := mr_69) rfl 40 ?_
  show ((3 : Int32).toInt < 1 ∨ 6 < (3 : Int32).toInt → _) ∧ (∀ (j : Nat) (o : Int), ([39, 47, 55, 73, 91, 99] : List Int)[j]? = some o → (3 : Int32).toInt = 1 + (j : Int) → _)
  refine sw_k 2 55 rfl (by decide) (by decide) ?_
  show ∃ R, cm_Lc cm_ms 12 [.ref 23, .int (C.1 19 3)] (fr 19 C) R ∧ ∀ v M', R v M' → _
  refine ⟨_, f_bits23 _ _, ?_⟩
  rintro v M' ⟨rfl, rfl⟩
  show (fun (v : Option Value) (M' : cm_M) => v = some (.int (toC 19 C 3)) ∧ M' = fr 19 C) (some (.int (bS (C.1 23) (min (C.1 19 3).toNatClampNeg 6)))) (fr 19 C)
  exact ⟨rfl, rfl⟩
set_option maxRecDepth 100000 in
set_option maxHeartbeats 4000000 in
theorem f_toldN4_19 (C : cm_M) : cm_Lc cm_ms 69 [.ref 2, .int 4] (fr 19 C) (fun v M' => v = some (.int (toC 19 C 4)) ∧ M' = fr 19 C) := by
  refine lb_st0 (mi := mr_69) rfl 40 ?_
  show ((4 : Int32).toInt < 1 ∨ 6 < (4 : Int32).toInt → _) ∧ (∀ (j : Nat) (o : Int), ([39, 47, 55, 73, 91, 99] : List Int)[j]? = some o → (4 : Int32).toInt = 1 + (j : Int) → _)
  refine sw_k 3 73 rfl (by decide) (by decide) ?_
  show ∃ R, cm_Lc cm_ms 12 [.ref 28, .int (C.1 19 9)] (fr 19 C) R ∧ ∀ v M', R v M' → _
  refine ⟨_, f_bits28 _ _, ?_⟩
  rintro v M' ⟨rfl, rfl⟩
  show (fun (v : Option Value) (M' : cm_M) => v = some (.int (toC 19 C 4)) ∧ M' = fr 19 C) (some (.int (bS (C.1 28) (min (C.1 19 9).toNatClampNeg 5)))) (fr 19 C)
  exact ⟨rfl, rfl⟩
set_option maxRecDepth 100000 in
set_option maxHeartbeats 4000000 in
theorem f_toldN5_19 (C : cm_M) : cm_Lc cm_ms 69 [.ref 2, .int 5] (fr 19 C) (fun v M' => v = some (.int (toC 19 C 5)) ∧ M' = fr 19 C) := by
  refine lb_st0 (mi := mr_69) rfl 40 ?_
  show ((5 : Int32).toInt < 1 ∨ 6 < (5 : Int32).toInt → _) ∧ (∀ (j : Nat) (o : Int), ([39, 47, 55, 73, 91, 99] : List Int)[j]? = some o → (5 : Int32).toInt = 1 + (j : Int) → _)
  refine sw_k 4 91 rfl (by decide) (by decide) ?_
  show ∃ R, cm_Lc cm_ms 16 [.ref 19] (fr 19 C) R ∧ ∀ v M', R v M' → _
  refine ⟨_, f_qtold19 C, ?_⟩
  rintro v M' ⟨rfl, rfl⟩
  show (fun (v : Option Value) (M' : cm_M) => v = some (.int (toC 19 C 5)) ∧ M' = fr 19 C) (some (.int (toC 19 C 5))) (fr 19 C)
  exact ⟨rfl, rfl⟩
set_option maxRecDepth 100000 in
set_option maxHeartbeats 4000000 in
theorem f_toldN6_19 (C : cm_M) : cm_Lc cm_ms 69 [.ref 2, .int 6] (fr 19 C) (fun v M' => v = some (.int (toC 19 C 6)) ∧ M' = fr 19 C) := by
  refine lb_st0 (mi := mr_69) rfl 40 ?_
  show ((6 : Int32).toInt < 1 ∨ 6 < (6 : Int32).toInt → _) ∧ (∀ (j : Nat) (o : Int), ([39, 47, 55, 73, 91, 99] : List Int)[j]? = some o → (6 : Int32).toInt = 1 + (j : Int) → _)
  refine sw_k 5 99 rfl (by decide) (by decide) ?_
  show (fun (v : Option Value) (M' : cm_M) => v = some (.int (toC 19 C 6)) ∧ M' = fr 19 C) (some (.int (C.1 19 15))) (fr 19 C)
  exact ⟨rfl, rfl⟩
set_option maxRecDepth 100000 in
set_option maxHeartbeats 4000000 in
theorem f_toldN7_19 (C : cm_M) : cm_Lc cm_ms 69 [.ref 2, .int 7] (fr 19 C) (fun v M' => v = some (.int (toC 19 C 7)) ∧ M' = fr 19 C) := by
  refine lb_st0 (mi := mr_69) rfl 40 ?_
  show ((7 : Int32).toInt < 1 ∨ 6 < (7 : Int32).toInt → _) ∧ (∀ (j : Nat) (o : Int), ([39, 47, 55, 73, 91, 99] : List Int)[j]? = some o → (7 : Int32).toInt = 1 + (j : Int) → _)
  refine sw_d (by decide) (by decide) ?_
  show (fun (v : Option Value) (M' : cm_M) => v = some (.int (toC 19 C 7)) ∧ M' = fr 19 C) (some (.int 0)) (fr 19 C)
  exact ⟨rfl, rfl⟩
theorem f_room0 (M : cm_M) : cm_Lc cm_ms 68 [.int 0] M (fun v M' => v = some (.int 900) ∧ M' = M) := by
  refine lb_st0 (mi := mr_68) rfl 40 ?_
  show ((0 : Int32).toInt < 1 ∨ 6 < (0 : Int32).toInt → _) ∧ (∀ (j : Nat) (o : Int), ([39, 42, 44, 47, 50, 53] : List Int)[j]? = some o → (0 : Int32).toInt = 1 + (j : Int) → _)
  refine sw_d (by decide) (by decide) ?_
  show (fun (v : Option Value) (M' : cm_M) => v = some (.int 900) ∧ M' = M) (some (.int 900)) M
  exact ⟨rfl, rfl⟩
theorem f_room1 (M : cm_M) : cm_Lc cm_ms 68 [.int 1] M (fun v M' => v = some (.int 6) ∧ M' = M) := by
  refine lb_st0 (mi := mr_68) rfl 40 ?_
  show ((1 : Int32).toInt < 1 ∨ 6 < (1 : Int32).toInt → _) ∧ (∀ (j : Nat) (o : Int), ([39, 42, 44, 47, 50, 53] : List Int)[j]? = some o → (1 : Int32).toInt = 1 + (j : Int) → _)
  refine sw_k 0 39 rfl (by decide) (by decide) ?_
  show (fun (v : Option Value) (M' : cm_M) => v = some (.int 6) ∧ M' = M) (some (.int 6)) M
  exact ⟨rfl, rfl⟩
theorem f_room2 (M : cm_M) : cm_Lc cm_ms 68 [.int 2] M (fun v M' => v = some (.int 5) ∧ M' = M) := by
  refine lb_st0 (mi := mr_68) rfl 40 ?_
  show ((2 : Int32).toInt < 1 ∨ 6 < (2 : Int32).toInt → _) ∧ (∀ (j : Nat) (o : Int), ([39, 42, 44, 47, 50, 53] : List Int)[j]? = some o → (2 : Int32).toInt = 1 + (j : Int) → _)
  refine sw_k 1 42 rfl (by decide) (by decide) ?_
  show (fun (v : Option Value) (M' : cm_M) => v = some (.int 5) ∧ M' = M) (some (.int 5)) M
  exact ⟨rfl, rfl⟩
theorem f_room3 (M : cm_M) : cm_Lc cm_ms 68 [.int 3] M (fun v M' => v = some (.int 9) ∧ M' = M) := by
  refine lb_st0 (mi := mr_68) rfl 40 ?_
  show ((3 : Int32).toInt < 1 ∨ 6 < (3 : Int32).toInt → _) ∧ (∀ (j : Nat) (o : Int), ([39, 42, 44, 47, 50, 53] : List Int)[j]? = some o → (3 : Int32).toInt = 1 + (j : Int) → _)
  refine sw_k 2 44 rfl (by decide) (by decide) ?_
  show (fun (v : Option Value) (M' : cm_M) => v = some (.int 9) ∧ M' = M) (some (.int 9)) M
  exact ⟨rfl, rfl⟩
theorem f_room4 (M : cm_M) : cm_Lc cm_ms 68 [.int 4] M (fun v M' => v = some (.int 6) ∧ M' = M) := by
  refine lb_st0 (mi := mr_68) rfl 40 ?_
  show ((4 : Int32).toInt < 1 ∨ 6 < (4 : Int32).toInt → _) ∧ (∀ (j : Nat) (o : Int), ([39, 42, 44, 47, 50, 53] : List Int)[j]? = some o → (4 : Int32).toInt = 1 + (j : Int) → _)
  refine sw_k 3 47 rfl (by decide) (by decide) ?_
  show (fun (v : Option Value) (M' : cm_M) => v = some (.int 6) ∧ M' = M) (some (.int 6)) M
  exact ⟨rfl, rfl⟩
theorem f_room5 (M : cm_M) : cm_Lc cm_ms 68 [.int 5] M (fun v M' => v = some (.int 9) ∧ M' = M) := by
  refine lb_st0 (mi := mr_68) rfl 40 ?_
  show ((5 : Int32).toInt < 1 ∨ 6 < (5 : Int32).toInt → _) ∧ (∀ (j : Nat) (o : Int), ([39, 42, 44, 47, 50, 53] : List Int)[j]? = some o → (5 : Int32).toInt = 1 + (j : Int) → _)
  refine sw_k 4 50 rfl (by decide) (by decide) ?_
  show (fun (v : Option Value) (M' : cm_M) => v = some (.int 9) ∧ M' = M) (some (.int 9)) M
  exact ⟨rfl, rfl⟩
theorem f_room6 (M : cm_M) : cm_Lc cm_ms 68 [.int 6] M (fun v M' => v = some (.int 5) ∧ M' = M) := by
  refine lb_st0 (mi := mr_68) rfl 40 ?_
  show ((6 : Int32).toInt < 1 ∨ 6 < (6 : Int32).toInt → _) ∧ (∀ (j : Nat) (o : Int), ([39, 42, 44, 47, 50, 53] : List Int)[j]? = some o → (6 : Int32).toInt = 1 + (j : Int) → _)
  refine sw_k 5 53 rfl (by decide) (by decide) ?_
  show (fun (v : Option Value) (M' : cm_M) => v = some (.int 5) ∧ M' = M) (some (.int 5)) M
  exact ⟨rfl, rfl⟩
theorem f_room7 (M : cm_M) : cm_Lc cm_ms 68 [.int 7] M (fun v M' => v = some (.int 900) ∧ M' = M) := by
  refine lb_st0 (mi := mr_68) rfl 40 ?_
  show ((7 : Int32).toInt < 1 ∨ 6 < (7 : Int32).toInt → _) ∧ (∀ (j : Nat) (o : Int), ([39, 42, 44, 47, 50, 53] : List Int)[j]? = some o → (7 : Int32).toInt = 1 + (j : Int) → _)
  refine sw_d (by decide) (by decide) ?_
  show (fun (v : Option Value) (M' : cm_M) => v = some (.int 900) ∧ M' = M) (some (.int 900)) M
  exact ⟨rfl, rfl⟩
theorem f_lineL {T : Nat} {C : cm_M} {l : Int32} (hl : cF_line C = l) : cm_Lc cm_ms 84 [.ref 2] (fr T C) (fun v M' => v = some (.int l) ∧ M' = fr T C) := by
  subst hl
  exact f_line C
noncomputable def rl_G (g : Nat → cm_M → cm_M) (N : Nat) (full : Bool) (C : cm_M) : cm_M := if C.1 2 8 = 0 then cF_fail 6 C else if full = true then cF_fail 5 C else g N (cF_step N C)
noncomputable def fuC (T : Nat) (C : cm_M) (l m : Int32) : Bool := decide (m ≤ toC T C l)
theorem fu_t {T : Nat} {C : cm_M} {l m : Int32} (h : m.toInt ≤ (toC T C l).toInt) : fuC T C l m = true := decide_eq_true (Int32.le_iff_toInt_le.mpr h)
theorem fu_f {T : Nat} {C : cm_M} {l m : Int32} (h : (toC T C l).toInt < m.toInt) : fuC T C l m = false := decide_eq_false (fun q => by
  have := Int32.le_iff_toInt_le.mp q
  omega)
