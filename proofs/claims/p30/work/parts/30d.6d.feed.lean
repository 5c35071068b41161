/-! FUNCTIONS: feed of the class -/
def bt (x sh : Int32) : Int32 := vp_nar .byte ((x >>> (sh &&& 31)).toInt8.toInt32)
def fd_f (M : cm_M) : cm_M := cm_wr M 0 0 (some 1)
/-- the memory behind c signs of a number -/
def sb (M : cm_M) (x : Int32) (t : Nat) : Nat → cm_M
  | 0 => M
  | c + 1 => cm_wi (cm_wi (sb M x t c) 1 (t + c) (bt x (Int32.ofInt (24 - 8 * (c : Int))))) 0 1 (Int32.ofNat (t + c + 1))
theorem sb_t {M : cm_M} {x : Int32} {t : Nat} (h : M.1 0 1 = Int32.ofNat t) : ∀ c, (sb M x t c).1 0 1 = Int32.ofNat (t + c)
  | 0 => h
  | c + 1 => rfl
theorem sb_r (M : cm_M) (x : Int32) (t : Nat) : ∀ c, (sb M x t c).2 = M.2
  | 0 => rfl
  | c + 1 => sb_r M x t c
def sb_J (M : cm_M) (x : Int32) (t : Nat) (S : cm_S) : Prop := ∃ c : Nat, c ≤ 4 ∧ S = (3, [(0, .ref 0), (1, .int x), (2, .int (Int32.ofInt (24 - 8 * (c : Int))))], [], fd_f (sb M x t c))
theorem fn_i32 {z : Int} (h1 : -2147483648 ≤ z) (h2 : z ≤ 2147483647) : (Int32.ofInt z).toInt = z := by
  rw [Int32.toInt_ofInt]
  exact ev_bm h1 h2
set_option maxRecDepth 100000 in
theorem fn_store {M : cm_M} {x : Int32} {t : Nat} (hr : M.2.2 0 0 = some 1) (ht : M.1 0 1 = Int32.ofNat t) (h9 : t + 4 ≤ 900) : cm_Lc cm_ms 94 [.ref 0, .int x] M (fun v M' => v = none ∧ M' = sb M x t 4) := by
  refine lb_of (mi := mr_94) rfl [(3, [0, 1, 2])] (sb_J M x t) 40 (fun S hS => ?_) 10 ?_
  · obtain ⟨c, hc, rfl⟩ := hS
    have e1 := sb_t (x := x) ht c
    have z0 : (0 : Int32).toInt = 0 := by decide
    have z9 : (900 : Int32).toInt = 900 := by decide
    have zs : (Int32.ofInt (24 - 8 * (c : Int))).toInt = 24 - 8 * (c : Int) := fn_i32 (by omega) (by omega)
    show (ev_cmp 2 (Int32.ofInt (24 - 8 * (c : Int))) 0 = true → _) ∧ (ev_cmp 2 (Int32.ofInt (24 - 8 * (c : Int))) 0 = false → (ev_cmp 3 ((sb M x t c).1 0 1) 900 = true → _) ∧ (ev_cmp 3 ((sb M x t c).1 0 1) 900 = false → sb_J M x t (3, [(0, .ref 0), (1, .int x), (2, .int (Int32.ofInt (24 - 8 * (c : Int)) + Int32.ofInt (-8)))], [], cm_wi (cm_wi (fd_f (sb M x t c)) 1 ((sb M x t c).1 0 1).toNatClampNeg (bt x (Int32.ofInt (24 - 8 * (c : Int))))) 0 1 ((sb M x t c).1 0 1 + 1))))
    refine ⟨fun h => ?_, fun h => ⟨fun h2 => ?_, fun h2 => ?_⟩⟩
    · have h1 := fn_lt h
      have : c = 4 := by omega
      subst this
      refine ⟨rfl, ?_⟩
      show fd_f (sb M x t 4) = sb M x t 4
      exact wr_id (by rw [sb_r]; exact hr)
    · have h1 := fn_nlt h
      have h3 := fn_ge h2
      rw [e1, fn_toInt (by omega)] at h3
      omega
    · have h1 := fn_nlt h
      rw [e1, fn_nat (by omega), fn_succ]
      refine ⟨c + 1, by omega, ?_⟩
      have e2 : Int32.ofInt (24 - 8 * (c : Int)) + Int32.ofInt (-8) = Int32.ofInt (24 - 8 * ((c + 1 : Nat) : Int)) := by
        apply Int32.toInt_inj.mp
        rw [Int32.toInt_add, zs, fn_i32 (by omega) (by omega), fn_i32 (by omega) (by omega), ev_bm (by omega) (by omega)]
        omega
      rw [e2]
      rfl
  · show sb_J M x t (3, [(0, .ref 0), (1, .int x), (2, .int 24)], [], M)
    refine ⟨0, by omega, ?_⟩
    show _ = ((3, [(0, .ref 0), (1, .int x), (2, .int 24)], [], fd_f M) : cm_S)
    rw [show fd_f M = M from wr_id hr]
/-- the memory behind a feed -/
def fd_m (M : cm_M) (t : Nat) (a b c d e : Int32) : cm_M := sb (sb (sb (sb (sb M a t 4) b (t + 4) 4) c (t + 8) 4) d (t + 12) 4) e (t + 16) 4
abbrev fc_R (M : cm_M) (t : Nat) (a b c d e : Int32) : cm_K := fun v M' => (880 < t → v = some (.int (-1)) ∧ M' = M) ∧ (t ≤ 880 → v = some (.int (Int32.ofNat (t + 20))) ∧ M' = fd_m M t a b c d e)
set_option maxRecDepth 100000 in
set_option maxHeartbeats 4000000 in
theorem fn_feed {M : cm_M} {t : Nat} (hr : M.2.2 0 0 = some 1) (ht : M.1 0 1 = Int32.ofNat t) (h9 : t ≤ 900) (a b c d e : Int32) : cm_Lc cm_ms 93 [.ref 0, .int a, .int b, .int c, .int d, .int e] M (fc_R M t a b c d e) := by
  have z : (M.1 0 1 + 20).toInt = (t : Int) + 20 := by
    have h20 : (20 : Int32).toInt = 20 := by decide
    rw [ht, Int32.toInt_add, fn_toInt (by omega), h20, ev_bm (by omega) (by omega)]
  have z9 : (900 : Int32).toInt = 900 := by decide
  refine lb_st0 (mi := mr_93) rfl 60 ?_
  show (ev_cmp 5 (M.1 0 1 + 20) 900 = true → ∃ R, cm_Lc cm_ms 94 [.ref 0, .int a] M R ∧ ∀ v M', R v M' → _) ∧ (ev_cmp 5 (M.1 0 1 + 20) 900 = false → _)
  refine ⟨fun h => ?_, fun h => ?_⟩
  · have h1 := fn_le h
    have h8 : t ≤ 880 := by omega
    refine ⟨_, fn_store hr ht (by omega), ?_⟩
    rintro v M1 ⟨rfl, rfl⟩
    show ∃ R, cm_Lc cm_ms 94 [.ref 0, .int b] (sb M a t 4) R ∧ ∀ v M', R v M' → _
    refine ⟨_, fn_store (t := t + 4) (by rw [sb_r]; exact hr) (sb_t ht 4) (by omega), ?_⟩
    rintro v M1 ⟨rfl, rfl⟩
    show ∃ R, cm_Lc cm_ms 94 [.ref 0, .int c] (sb (sb M a t 4) b (t + 4) 4) R ∧ ∀ v M', R v M' → _
    refine ⟨_, fn_store (t := t + 8) (by rw [sb_r, sb_r]; exact hr) (sb_t (sb_t ht 4) 4) (by omega), ?_⟩
    rintro v M1 ⟨rfl, rfl⟩
    show ∃ R, cm_Lc cm_ms 94 [.ref 0, .int d] (sb (sb (sb M a t 4) b (t + 4) 4) c (t + 8) 4) R ∧ ∀ v M', R v M' → _
    refine ⟨_, fn_store (t := t + 12) (by rw [sb_r, sb_r, sb_r]; exact hr) (sb_t (sb_t (sb_t ht 4) 4) 4) (by omega), ?_⟩
    rintro v M1 ⟨rfl, rfl⟩
    show ∃ R, cm_Lc cm_ms 94 [.ref 0, .int e] (sb (sb (sb (sb M a t 4) b (t + 4) 4) c (t + 8) 4) d (t + 12) 4) R ∧ ∀ v M', R v M' → _
    refine ⟨_, fn_store (t := t + 16) (by rw [sb_r, sb_r, sb_r, sb_r]; exact hr) (sb_t (sb_t (sb_t (sb_t ht 4) 4) 4) 4) (by omega), ?_⟩
    rintro v M1 ⟨rfl, rfl⟩
    show fc_R M t a b c d e (some (.int ((fd_m M t a b c d e).1 0 1))) (fd_m M t a b c d e)
    exact ⟨fun h => by omega, fun _ => ⟨rfl, rfl⟩⟩
  · have h1 := fn_nle h
    show fc_R M t a b c d e (some (.int (-1))) M
    exact ⟨fun _ => ⟨rfl, rfl⟩, fun h => by omega⟩
