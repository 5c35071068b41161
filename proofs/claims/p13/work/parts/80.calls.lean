/-! THE LAW'S CALLS, by their contracts -/
/-- what the law keeps: how much of the tape is used, on both sides -/
def stC (c : Nat) : Bool := c == 1 || (c == 125 || (c == 127 || ((decide (6 ≤ c) && decide (c ≤ 31)) && (!(c == 16) && !(c == 29)))))
def stI (c : Nat) : List Nat := if c = 0 then [1, 3, 4, 12] else if c = 124 then [2, 9, 14] else []
/-- what only feed and town write -/
def st_B (c i : Nat) : Bool := stC c || (stI c).contains i
theorem st_B_t {c i : Nat} (h1 : 6 ≤ c) (h2 : c ≤ 31) (h3 : c ≠ 16) (h4 : c ≠ 29) : st_B c i = true := by
  have e : ∀ x : Nat, 6 ≤ x → x ≤ 31 → x ≠ 16 → x ≠ 29 → stC x = true := fun x a b u v => by
    have q : ∀ y, y < 32 → 6 ≤ y → y ≠ 16 → y ≠ 29 → stC y = true := by decide
    exact q x (by omega) a u v
  unfold st_B
  rw [e c h1 h2 h3 h4]
  rfl
def lu_P (M M' : cm_M) : Prop := ab_ok hp hN M' ∧ ∀ c i, st_B c i = true → M'.1 c i = M.1 c i ∧ M'.2.2 c i = M.2.2 c i
def lk_st (md : ab_Md) : Bool := md.all (fun q => !(stC q.1) && (if q.2.isEmpty then (stI q.1).isEmpty else q.2.all (fun i => !((stI q.1).contains i))))
theorem lk_st_in {md : ab_Md} (h : lk_st md = true) {c i : Nat} (hb : st_B c i = true) : ab_inM md c i = false := by
  unfold ab_inM
  cases hc : ev_at md c with
  | none => rfl
  | some l =>
    have h1 := List.all_eq_true.mp h _ (ev_at_mem hc)
    dsimp only at h1 ⊢
    rw [Bool.and_eq_true, Bool.not_eq_true'] at h1
    obtain ⟨h2, h3⟩ := h1
    have hb2 : (stI c).contains i = true := by
      unfold st_B at hb
      rw [h2] at hb
      exact hb
    cases he : l.isEmpty with
    | true =>
      rw [he, if_pos rfl] at h3
      rw [List.isEmpty_iff.mp h3] at hb2
      cases hb2
    | false =>
      rw [he, if_neg (by decide)] at h3
      cases hl : l.contains i with
      | false => rfl
      | true =>
        have h4 := List.all_eq_true.mp h3 i (List.contains_iff_mem.mp hl)
        rw [hb2] at h4
        cases h4
theorem lk_lt_in {md : ab_Md} (h : md.all (fun q => decide (q.1 < 124)) = true) {c i : Nat} (hc : 124 ≤ c) : ab_inM md c i = false := by
  unfold ab_inM
  cases he : ev_at md c with
  | none => rfl
  | some l =>
    have h1 := of_decide_eq_true (List.all_eq_true.mp h _ (ev_at_mem he))
    dsimp only at h1
    omega
theorem lk_ge_in {md : ab_Md} (h : md.all (fun q => decide (124 ≤ q.1)) = true) {c i : Nat} (hc : c < 124) : ab_inM md c i = false := by
  unfold ab_inM
  cases he : ev_at md c with
  | none => rfl
  | some l =>
    have h1 := of_decide_eq_true (List.all_eq_true.mp h _ (ev_at_mem he))
    dsimp only at h1
    omega
def lp_kd : Nat → Option Value → Prop
  | 0, v => ∃ r, v = some (.int r)
  | 1, v => ∃ r, v = some (.long r)
  | _, v => v = none
def lp_P (kd : Nat) (M : cm_M) : cm_K := fun v M' => lp_kd kd v ∧ lu_P M M'
def lk_kd (kd : Nat) (st : List ab_A) : Bool := match st with
  | [] => kd == 2
  | [a] => (kd == 0 && ab_isI a) || (kd == 1 && a.1 == 6)
  | _ => false
theorem lk_kd_ok {kd : Nat} {st : List ab_A} {ρ : List Int32} {v : Option Value} (h : lk_kd kd st = true) (hs : ab_s ρ st v.toList) : lp_kd kd v := by
  cases v with
  | none =>
    cases st with
    | nil =>
      have h : (kd == 2) = true := h
      have e := beq_iff_eq.mp h
      subst e
      rfl
    | cons a st => exact hs.elim
  | some v =>
    cases st with
    | nil => exact hs.elim
    | cons a st =>
      cases st with
      | cons b st => cases h
      | nil =>
        have h : ((kd == 0 && ab_isI a) || (kd == 1 && a.1 == 6)) = true := h
        have hv : ab_v ρ a v := hs.1
        rw [Bool.or_eq_true, Bool.and_eq_true, Bool.and_eq_true] at h
        rcases h with ⟨h1, h2⟩ | ⟨h1, h2⟩
        · have e := beq_iff_eq.mp h1
          subst e
          obtain ⟨x, -, rfl⟩ := ab_vi h2 hv
          exact ⟨x, rfl⟩
        · have e := beq_iff_eq.mp h1
          subst e
          have e2 := beq_iff_eq.mp h2
          obtain ⟨t, z, cs⟩ := a
          dsimp only at e2
          subst e2
          obtain ⟨x, rfl⟩ := hv
          exact ⟨x, rfl⟩
def lk_chk (kd : Nat) (c : ab_Ct) : Bool := c.2.2.2.2.2.all (fun o => lk_kd kd o.1) && lk_st c.2.2.2.2.1
theorem lk_ok {kd d : Nat} {c : ab_Ct} (hc : ab_CT cm_ms hp hN d c) (hd : d ≤ 30) (hk : lk_chk kd c = true) {M : cm_M} (hM : ab_ok hp hN M) {ρ : List Int32} {vs : List Value} (hs : ab_s ρ c.2.1 vs) (hkk : ab_k ρ c.2.2.1) (hca : ab_ca ρ M c.2.2.2.1) : cm_Call cm_ms 30 c.1 vs M (lp_P kd M) := by
  unfold lk_chk at hk
  rw [Bool.and_eq_true] at hk
  obtain ⟨k1, k2⟩ := hk
  refine cm_Call_up (hc ρ vs M hs hkk hM hca) hd (fun v M' hv => ?_)
  obtain ⟨o, ho, ext, h1, h2, h3⟩ := hv
  exact ⟨lk_kd_ok (List.all_eq_true.mp k1 o ho) h1, h3.1, fun c i q => ⟨(h3.2.1 c i (lk_st_in k2 q)).1, (h3.2.1 c i (lk_st_in k2 q)).2.2⟩⟩
def lk_all : ab_K → List Int32 → Prop
  | [], [] => True
  | r :: K, x :: ρ => (r.2.2.1 = 0 ∧ r.1 ≤ x.toInt ∧ x.toInt ≤ r.2.1) ∧ lk_all K ρ
  | _, _ => False
theorem lk_all_at : ∀ {K : ab_K} {ρ : List Int32}, lk_all K ρ → K.length = ρ.length ∧ ∀ (j : Nat) (r : ab_Ke) (x : Int32), K[j]? = some r → ρ[j]? = some x → r.2.2.1 = 0 ∧ r.1 ≤ x.toInt ∧ x.toInt ≤ r.2.1
  | [], [], _ => ⟨rfl, fun j r x h => by cases h⟩
  | [], _ :: _, h => h.elim
  | _ :: _, [], h => h.elim
  | r :: K, x :: ρ, h => by
    obtain ⟨e, ih⟩ := lk_all_at h.2
    refine ⟨by simp [e], fun j r' x' h1 h2 => ?_⟩
    match j with
    | 0 => cases h1; cases h2; exact h.1
    | j + 1 => exact ih j r' x' (by simpa using h1) (by simpa using h2)
theorem lk_k {K : ab_K} {ρ : List Int32} (h : lk_all K ρ) : ab_k ρ K := by
  obtain ⟨e, ih⟩ := lk_all_at h
  refine ⟨e, fun j r x h1 h2 => ?_⟩
  obtain ⟨a, b, c⟩ := ih j r x h1 h2
  exact ⟨⟨b, c⟩, Or.inl a⟩
theorem lu_f (x : Int32) : (0 : Nat) = 0 ∧ (-2147483648 : Int) ≤ x.toInt ∧ x.toInt ≤ 2147483647 := ⟨rfl, ev_lo x, ev_hi x⟩
theorem lu_127 {M : cm_M} (h : ab_ok hp hN M) : M.1 127 8 = 0 ∨ M.1 127 8 = 1 ∨ M.1 127 8 = 2 ∨ M.1 127 8 = 3 ∨ M.1 127 8 = 4 ∨ M.1 127 8 = 5 := by
  have h2 := h.1 127 8
  rw [show ab_hi hp 127 8 = (0, 5) from by decide +kernel] at h2
  obtain ⟨a, b⟩ := h2
  dsimp only at a b
  have hv : M.1 127 8 = Int32.ofInt (M.1 127 8).toInt := (Int32.ofInt_toInt _).symm
  generalize (M.1 127 8).toInt = z at a b hv
  rcases (by omega : z = 0 ∨ z = 1 ∨ z = 2 ∨ z = 3 ∨ z = 4 ∨ z = 5) with rfl | rfl | rfl | rfl | rfl | rfl
  · exact Or.inl hv
  · exact Or.inr (Or.inl hv)
  · exact Or.inr (Or.inr (Or.inl hv))
  · exact Or.inr (Or.inr (Or.inr (Or.inl hv)))
  · exact Or.inr (Or.inr (Or.inr (Or.inr (Or.inl hv))))
  · exact Or.inr (Or.inr (Or.inr (Or.inr (Or.inr hv))))
set_option maxRecDepth 1000000 in
/-- BarberMinutes.fault -/
theorem lk_96 {M : cm_M} (hM : ab_ok hp hN M) : cm_Call cm_ms 30 96 [.ref 0] M (lp_P 0 M) := lk_ok ck_227 (by decide) (by decide +kernel) hM (ρ := []) ⟨⟨0, List.mem_cons_self, rfl⟩, trivial⟩ (lk_k trivial) (fun q hq => nomatch hq)
set_option maxRecDepth 1000000 in
/-- BarberMinutes.where -/
theorem lk_97 {M : cm_M} (hM : ab_ok hp hN M) : cm_Call cm_ms 30 97 [.ref 0] M (lp_P 0 M) := lk_ok ck_228 (by decide) (by decide +kernel) hM (ρ := []) ⟨⟨0, List.mem_cons_self, rfl⟩, trivial⟩ (lk_k trivial) (fun q hq => nomatch hq)
set_option maxRecDepth 1000000 in
/-- BarberMinutes.man -/
theorem lk_98 {M : cm_M} (hM : ab_ok hp hN M) (x0 x1 : Int32) : cm_Call cm_ms 30 98 [.ref 0, .int x0, .int x1] M (lp_P 0 M) := lk_ok ck_229 (by decide) (by decide +kernel) hM (ρ := [x0, x1]) ⟨⟨0, List.mem_cons_self, rfl⟩, ⟨x0, rfl, rfl⟩, ⟨x1, rfl, rfl⟩, trivial⟩ (lk_k ⟨lu_f x0, lu_f x1, trivial⟩) (fun q hq => nomatch hq)
set_option maxRecDepth 1000000 in
/-- BarberMinutes.motion -/
theorem lk_99 {M : cm_M} (hM : ab_ok hp hN M) (x0 x1 : Int32) : cm_Call cm_ms 30 99 [.ref 0, .int x0, .int x1] M (lp_P 0 M) := lk_ok ck_230 (by decide) (by decide +kernel) hM (ρ := [x0, x1]) ⟨⟨0, List.mem_cons_self, rfl⟩, ⟨x0, rfl, rfl⟩, ⟨x1, rfl, rfl⟩, trivial⟩ (lk_k ⟨lu_f x0, lu_f x1, trivial⟩) (fun q hq => nomatch hq)
set_option maxRecDepth 1000000 in
/-- BarberMinutes.floor -/
theorem lk_100 {M : cm_M} (hM : ab_ok hp hN M) (x0 : Int32) : cm_Call cm_ms 30 100 [.ref 0, .int x0] M (lp_P 0 M) := lk_ok ck_231 (by decide) (by decide +kernel) hM (ρ := [x0]) ⟨⟨0, List.mem_cons_self, rfl⟩, ⟨x0, rfl, rfl⟩, trivial⟩ (lk_k ⟨lu_f x0, trivial⟩) (fun q hq => nomatch hq)
set_option maxRecDepth 1000000 in
/-- BarberMinutes.bald -/
theorem lk_101 {M : cm_M} (hM : ab_ok hp hN M) : cm_Call cm_ms 30 101 [.ref 0] M (lp_P 0 M) := lk_ok ck_232 (by decide) (by decide +kernel) hM (ρ := []) ⟨⟨0, List.mem_cons_self, rfl⟩, trivial⟩ (lk_k trivial) (fun q hq => nomatch hq)
set_option maxRecDepth 1000000 in
/-- BarberMinutes.longest -/
theorem lk_102 {M : cm_M} (hM : ab_ok hp hN M) : cm_Call cm_ms 30 102 [.ref 0] M (lp_P 0 M) := lk_ok ck_233 (by decide) (by decide +kernel) hM (ρ := []) ⟨⟨0, List.mem_cons_self, rfl⟩, trivial⟩ (lk_k trivial) (fun q hq => nomatch hq)
set_option maxRecDepth 1000000 in
/-- BarberMinutes.ready -/
theorem lk_103 {M : cm_M} (hM : ab_ok hp hN M) : cm_Call cm_ms 30 103 [.ref 0] M (lp_P 0 M) := lk_ok ck_234 (by decide) (by decide +kernel) hM (ρ := []) ⟨⟨0, List.mem_cons_self, rfl⟩, trivial⟩ (lk_k trivial) (fun q hq => nomatch hq)
set_option maxRecDepth 1000000 in
/-- BarberMinutes.quorum -/
theorem lk_104 {M : cm_M} (hM : ab_ok hp hN M) : cm_Call cm_ms 30 104 [.ref 0] M (lp_P 0 M) := lk_ok ck_235 (by decide) (by decide +kernel) hM (ρ := []) ⟨⟨0, List.mem_cons_self, rfl⟩, trivial⟩ (lk_k trivial) (fun q hq => nomatch hq)
set_option maxRecDepth 1000000 in
/-- BarberMinutes.behind -/
theorem lk_105 {M : cm_M} (hM : ab_ok hp hN M) (x0 : Int32) : cm_Call cm_ms 30 105 [.ref 0, .int x0] M (lp_P 0 M) := lk_ok ck_236 (by decide) (by decide +kernel) hM (ρ := [x0]) ⟨⟨0, List.mem_cons_self, rfl⟩, ⟨x0, rfl, rfl⟩, trivial⟩ (lk_k ⟨lu_f x0, trivial⟩) (fun q hq => nomatch hq)
set_option maxRecDepth 1000000 in
/-- BarberMinutes.depth -/
theorem lk_106 {M : cm_M} (hM : ab_ok hp hN M) (x0 : Int32) : cm_Call cm_ms 30 106 [.ref 0, .int x0] M (lp_P 0 M) := lk_ok ck_237 (by decide) (by decide +kernel) hM (ρ := [x0]) ⟨⟨0, List.mem_cons_self, rfl⟩, ⟨x0, rfl, rfl⟩, trivial⟩ (lk_k ⟨lu_f x0, trivial⟩) (fun q hq => nomatch hq)
set_option maxRecDepth 1000000 in
/-- BarberMinutes.longIn -/
theorem lk_107 {M : cm_M} (hM : ab_ok hp hN M) (x0 x1 : Int32) : cm_Call cm_ms 30 107 [.ref 0, .int x0, .int x1] M (lp_P 0 M) := lk_ok ck_239 (by decide) (by decide +kernel) hM (ρ := [x0, x1]) ⟨⟨0, List.mem_cons_self, rfl⟩, ⟨x0, rfl, rfl⟩, ⟨x1, rfl, rfl⟩, trivial⟩ (lk_k ⟨lu_f x0, lu_f x1, trivial⟩) (fun q hq => nomatch hq)
set_option maxRecDepth 1000000 in
/-- BarberMinutes.yesIn -/
theorem lk_108 {M : cm_M} (hM : ab_ok hp hN M) (x0 x1 : Int32) : cm_Call cm_ms 30 108 [.ref 0, .int x0, .int x1] M (lp_P 0 M) := lk_ok ck_240 (by decide) (by decide +kernel) hM (ρ := [x0, x1]) ⟨⟨0, List.mem_cons_self, rfl⟩, ⟨x0, rfl, rfl⟩, ⟨x1, rfl, rfl⟩, trivial⟩ (lk_k ⟨lu_f x0, lu_f x1, trivial⟩) (fun q hq => nomatch hq)
set_option maxRecDepth 1000000 in
/-- BarberMinutes.carryIn -/
theorem lk_109 {M : cm_M} (hM : ab_ok hp hN M) (x0 : Int32) : cm_Call cm_ms 30 109 [.ref 0, .int x0] M (lp_P 0 M) := lk_ok ck_242 (by decide) (by decide +kernel) hM (ρ := [x0]) ⟨⟨0, List.mem_cons_self, rfl⟩, ⟨x0, rfl, rfl⟩, trivial⟩ (lk_k ⟨lu_f x0, trivial⟩) (fun q hq => nomatch hq)
set_option maxRecDepth 1000000 in
/-- BarberMinutes.hairyIn -/
theorem lk_110 {M : cm_M} (hM : ab_ok hp hN M) : cm_Call cm_ms 30 110 [.ref 0] M (lp_P 0 M) := lk_ok ck_243 (by decide) (by decide +kernel) hM (ρ := []) ⟨⟨0, List.mem_cons_self, rfl⟩, trivial⟩ (lk_k trivial) (fun q hq => nomatch hq)
set_option maxRecDepth 1000000 in
/-- BarberMinutes.soonest -/
theorem lk_111 {M : cm_M} (hM : ab_ok hp hN M) : cm_Call cm_ms 30 111 [.ref 0] M (lp_P 0 M) := lk_ok ck_244 (by decide) (by decide +kernel) hM (ρ := []) ⟨⟨0, List.mem_cons_self, rfl⟩, trivial⟩ (lk_k trivial) (fun q hq => nomatch hq)
set_option maxRecDepth 1000000 in
/-- BarberMinutes.worthOf -/
theorem lk_114 {M : cm_M} (hM : ab_ok hp hN M) (x0 x1 : Int32) : cm_Call cm_ms 30 114 [.ref 0, .int x0, .int x1] M (lp_P 0 M) := lk_ok ck_245 (by decide) (by decide +kernel) hM (ρ := [x0, x1]) ⟨⟨0, List.mem_cons_self, rfl⟩, ⟨x0, rfl, rfl⟩, ⟨x1, rfl, rfl⟩, trivial⟩ (lk_k ⟨lu_f x0, lu_f x1, trivial⟩) (fun q hq => nomatch hq)
set_option maxRecDepth 1000000 in
/-- BarberMinutes.bestRow -/
theorem lk_115 {M : cm_M} (hM : ab_ok hp hN M) (x0 : Int32) : cm_Call cm_ms 30 115 [.ref 0, .int x0] M (lp_P 0 M) := lk_ok ck_246 (by decide) (by decide +kernel) hM (ρ := [x0]) ⟨⟨0, List.mem_cons_self, rfl⟩, ⟨x0, rfl, rfl⟩, trivial⟩ (lk_k ⟨lu_f x0, trivial⟩) (fun q hq => nomatch hq)
set_option maxRecDepth 1000000 in
/-- BarberMinutes.bestWorth -/
theorem lk_116 {M : cm_M} (hM : ab_ok hp hN M) (x0 : Int32) : cm_Call cm_ms 30 116 [.ref 0, .int x0] M (lp_P 0 M) := lk_ok ck_247 (by decide) (by decide +kernel) hM (ρ := [x0]) ⟨⟨0, List.mem_cons_self, rfl⟩, ⟨x0, rfl, rfl⟩, trivial⟩ (lk_k ⟨lu_f x0, trivial⟩) (fun q hq => nomatch hq)
set_option maxRecDepth 1000000 in
/-- BarberMinutes.bestCarried -/
theorem lk_117 {M : cm_M} (hM : ab_ok hp hN M) (x0 : Int32) : cm_Call cm_ms 30 117 [.ref 0, .int x0] M (lp_P 0 M) := lk_ok ck_248 (by decide) (by decide +kernel) hM (ρ := [x0]) ⟨⟨0, List.mem_cons_self, rfl⟩, ⟨x0, rfl, rfl⟩, trivial⟩ (lk_k ⟨lu_f x0, trivial⟩) (fun q hq => nomatch hq)
set_option maxRecDepth 1000000 in
/-- BarberMinutes.weeksFor -/
theorem lk_118 {M : cm_M} (hM : ab_ok hp hN M) (x0 : Int32) : cm_Call cm_ms 30 118 [.ref 0, .int x0] M (lp_P 0 M) := lk_ok ck_249 (by decide) (by decide +kernel) hM (ρ := [x0]) ⟨⟨0, List.mem_cons_self, rfl⟩, ⟨x0, rfl, rfl⟩, trivial⟩ (lk_k ⟨lu_f x0, trivial⟩) (fun q hq => nomatch hq)
set_option maxRecDepth 1000000 in
/-- BarberMinutes.swings -/
theorem lk_120 {M : cm_M} (hM : ab_ok hp hN M) (x0 x1 : Int32) : cm_Call cm_ms 30 120 [.ref 0, .int x0, .int x1] M (lp_P 0 M) := lk_ok ck_250 (by decide) (by decide +kernel) hM (ρ := [x0, x1]) ⟨⟨0, List.mem_cons_self, rfl⟩, ⟨x0, rfl, rfl⟩, ⟨x1, rfl, rfl⟩, trivial⟩ (lk_k ⟨lu_f x0, lu_f x1, trivial⟩) (fun q hq => nomatch hq)
set_option maxRecDepth 1000000 in
/-- BarberMinutes.mighty -/
theorem lk_121 {M : cm_M} (hM : ab_ok hp hN M) (x0 : Int32) : cm_Call cm_ms 30 121 [.ref 0, .int x0] M (lp_P 0 M) := lk_ok ck_251 (by decide) (by decide +kernel) hM (ρ := [x0]) ⟨⟨0, List.mem_cons_self, rfl⟩, ⟨x0, rfl, rfl⟩, trivial⟩ (lk_k ⟨lu_f x0, trivial⟩) (fun q hq => nomatch hq)
set_option maxRecDepth 1000000 in
/-- BarberMinutes.outvoted -/
theorem lk_122 {M : cm_M} (hM : ab_ok hp hN M) (x0 : Int32) : cm_Call cm_ms 30 122 [.ref 0, .int x0] M (lp_P 0 M) := lk_ok ck_252 (by decide) (by decide +kernel) hM (ρ := [x0]) ⟨⟨0, List.mem_cons_self, rfl⟩, ⟨x0, rfl, rfl⟩, trivial⟩ (lk_k ⟨lu_f x0, trivial⟩) (fun q hq => nomatch hq)
set_option maxRecDepth 1000000 in
/-- BarberMinutes.bench -/
theorem lk_123 {M : cm_M} (hM : ab_ok hp hN M) (x0 : Int32) : cm_Call cm_ms 30 123 [.ref 0, .int x0] M (lp_P 0 M) := lk_ok ck_253 (by decide) (by decide +kernel) hM (ρ := [x0]) ⟨⟨0, List.mem_cons_self, rfl⟩, ⟨x0, rfl, rfl⟩, trivial⟩ (lk_k ⟨lu_f x0, trivial⟩) (fun q hq => nomatch hq)
set_option maxRecDepth 1000000 in
/-- BarberMinutes.parting -/
theorem lk_124 {M : cm_M} (hM : ab_ok hp hN M) : cm_Call cm_ms 30 124 [.ref 0] M (lp_P 0 M) := lk_ok ck_254 (by decide) (by decide +kernel) hM (ρ := []) ⟨⟨0, List.mem_cons_self, rfl⟩, trivial⟩ (lk_k trivial) (fun q hq => nomatch hq)
set_option maxRecDepth 1000000 in
/-- BarberMinutes.left -/
theorem lk_125 {M : cm_M} (hM : ab_ok hp hN M) : cm_Call cm_ms 30 125 [.ref 0] M (lp_P 0 M) := lk_ok ck_255 (by decide) (by decide +kernel) hM (ρ := []) ⟨⟨0, List.mem_cons_self, rfl⟩, trivial⟩ (lk_k trivial) (fun q hq => nomatch hq)
set_option maxRecDepth 1000000 in
/-- BarberMinutes.peace -/
theorem lk_126 {M : cm_M} (hM : ab_ok hp hN M) : cm_Call cm_ms 30 126 [.ref 0] M (lp_P 0 M) := lk_ok ck_256 (by decide) (by decide +kernel) hM (ρ := []) ⟨⟨0, List.mem_cons_self, rfl⟩, trivial⟩ (lk_k trivial) (fun q hq => nomatch hq)
set_option maxRecDepth 1000000 in
/-- BarberMinutes.apart -/
theorem lk_128 {M : cm_M} (hM : ab_ok hp hN M) (x0 x1 : Int32) : cm_Call cm_ms 30 128 [.ref 0, .int x0, .int x1] M (lp_P 0 M) := lk_ok ck_257 (by decide) (by decide +kernel) hM (ρ := [x0, x1]) ⟨⟨0, List.mem_cons_self, rfl⟩, ⟨x0, rfl, rfl⟩, ⟨x1, rfl, rfl⟩, trivial⟩ (lk_k ⟨lu_f x0, lu_f x1, trivial⟩) (fun q hq => nomatch hq)
set_option maxRecDepth 1000000 in
/-- BarberMinutes.round -/
theorem lk_129 {M : cm_M} (hM : ab_ok hp hN M) : cm_Call cm_ms 30 129 [.ref 0] M (lp_P 0 M) := lk_ok ck_258 (by decide) (by decide +kernel) hM (ρ := []) ⟨⟨0, List.mem_cons_self, rfl⟩, trivial⟩ (lk_k trivial) (fun q hq => nomatch hq)
set_option maxRecDepth 1000000 in
/-- BarberMinutes.roundAt -/
theorem lk_130 {M : cm_M} (hM : ab_ok hp hN M) (x0 : Int32) : cm_Call cm_ms 30 130 [.ref 0, .int x0] M (lp_P 0 M) := lk_ok ck_259 (by decide) (by decide +kernel) hM (ρ := [x0]) ⟨⟨0, List.mem_cons_self, rfl⟩, ⟨x0, rfl, rfl⟩, trivial⟩ (lk_k ⟨lu_f x0, trivial⟩) (fun q hq => nomatch hq)
set_option maxRecDepth 1000000 in
/-- BarberMinutes.fits -/
theorem lk_131 {M : cm_M} (hM : ab_ok hp hN M) : cm_Call cm_ms 30 131 [.ref 0] M (lp_P 0 M) := lk_ok ck_260 (by decide) (by decide +kernel) hM (ρ := []) ⟨⟨0, List.mem_cons_self, rfl⟩, trivial⟩ (lk_k trivial) (fun q hq => nomatch hq)
set_option maxRecDepth 1000000 in
/-- BarberMinutes.fitAt -/
theorem lk_132 {M : cm_M} (hM : ab_ok hp hN M) (x0 : Int32) : cm_Call cm_ms 30 132 [.ref 0, .int x0] M (lp_P 0 M) := lk_ok ck_261 (by decide) (by decide +kernel) hM (ρ := [x0]) ⟨⟨0, List.mem_cons_self, rfl⟩, ⟨x0, rfl, rfl⟩, trivial⟩ (lk_k ⟨lu_f x0, trivial⟩) (fun q hq => nomatch hq)
set_option maxRecDepth 1000000 in
/-- BarberMinutes.could -/
theorem lk_133 {M : cm_M} (hM : ab_ok hp hN M) : cm_Call cm_ms 30 133 [.ref 0] M (lp_P 0 M) := lk_ok ck_262 (by decide) (by decide +kernel) hM (ρ := []) ⟨⟨0, List.mem_cons_self, rfl⟩, trivial⟩ (lk_k trivial) (fun q hq => nomatch hq)
set_option maxRecDepth 1000000 in
/-- BarberMinutes.surely -/
theorem lk_134 {M : cm_M} (hM : ab_ok hp hN M) : cm_Call cm_ms 30 134 [.ref 0] M (lp_P 0 M) := lk_ok ck_263 (by decide) (by decide +kernel) hM (ρ := []) ⟨⟨0, List.mem_cons_self, rfl⟩, trivial⟩ (lk_k trivial) (fun q hq => nomatch hq)
set_option maxRecDepth 1000000 in
/-- BarberMinutes.ask -/
theorem lk_135 {M : cm_M} (hM : ab_ok hp hN M) : cm_Call cm_ms 30 135 [.ref 0] M (lp_P 0 M) := lk_ok ck_264 (by decide) (by decide +kernel) hM (ρ := []) ⟨⟨0, List.mem_cons_self, rfl⟩, trivial⟩ (lk_k trivial) (fun q hq => nomatch hq)
set_option maxRecDepth 1000000 in
/-- BarberMinutes.askLeaves -/
theorem lk_136 {M : cm_M} (hM : ab_ok hp hN M) : cm_Call cm_ms 30 136 [.ref 0] M (lp_P 0 M) := lk_ok ck_265 (by decide) (by decide +kernel) hM (ρ := []) ⟨⟨0, List.mem_cons_self, rfl⟩, trivial⟩ (lk_k trivial) (fun q hq => nomatch hq)
set_option maxRecDepth 1000000 in
/-- BarberMinutes.talk -/
theorem lk_138 {M : cm_M} (hM : ab_ok hp hN M) (x0 x1 x2 x3 : Int32) (h1 : 0 ≤ x1.toInt ∧ x1.toInt ≤ 1) (h2 : 0 ≤ x2.toInt ∧ x2.toInt ≤ 1) (h3 : 0 ≤ x3.toInt ∧ x3.toInt ≤ 1) : cm_Call cm_ms 30 138 [.ref 0, .int x0, .int x1, .int x2, .int x3] M (lp_P 0 M) := lk_ok ck_266 (by decide) (by decide +kernel) hM (ρ := [x0, x1, x2, x3]) ⟨⟨0, List.mem_cons_self, rfl⟩, ⟨x0, rfl, rfl⟩, ⟨x1, rfl, rfl⟩, ⟨x2, rfl, rfl⟩, ⟨x3, rfl, rfl⟩, trivial⟩ (lk_k ⟨lu_f x0, ⟨rfl, h1⟩, ⟨rfl, h2⟩, ⟨rfl, h3⟩, trivial⟩) (fun q hq => nomatch hq)
set_option maxRecDepth 1000000 in
/-- BarberMinutes.rests -/
theorem lk_139 {M : cm_M} (hM : ab_ok hp hN M) (x0 : Int32) : cm_Call cm_ms 30 139 [.ref 0, .int x0] M (lp_P 0 M) := lk_ok ck_268 (by decide) (by decide +kernel) hM (ρ := [x0]) ⟨⟨0, List.mem_cons_self, rfl⟩, ⟨x0, rfl, rfl⟩, trivial⟩ (lk_k ⟨lu_f x0, trivial⟩) (fun q hq => nomatch hq)
set_option maxRecDepth 1000000 in
/-- BarberMinutes.rest -/
theorem lk_140 {M : cm_M} (hM : ab_ok hp hN M) (x0 : Int32) : cm_Call cm_ms 30 140 [.ref 0, .int x0] M (lp_P 0 M) := lk_ok ck_269 (by decide) (by decide +kernel) hM (ρ := [x0]) ⟨⟨0, List.mem_cons_self, rfl⟩, ⟨x0, rfl, rfl⟩, trivial⟩ (lk_k ⟨lu_f x0, trivial⟩) (fun q hq => nomatch hq)
set_option maxRecDepth 1000000 in
/-- BarberMinutes.odds -/
theorem lk_144 {M : cm_M} (hM : ab_ok hp hN M) (x0 x1 : Int32) (h1 : 0 ≤ x1.toInt ∧ x1.toInt ≤ 1) : cm_Call cm_ms 30 144 [.ref 0, .int x0, .int x1] M (lp_P 1 M) := lk_ok ck_270 (by decide) (by decide +kernel) hM (ρ := [x0, x1]) ⟨⟨0, List.mem_cons_self, rfl⟩, ⟨x0, rfl, rfl⟩, ⟨x1, rfl, rfl⟩, trivial⟩ (lk_k ⟨lu_f x0, ⟨rfl, h1⟩, trivial⟩) (fun q hq => nomatch hq)
set_option maxRecDepth 1000000 in
/-- BarberMinutes.mean -/
theorem lk_145 {M : cm_M} (hM : ab_ok hp hN M) (x0 x1 : Int32) (h1 : 0 ≤ x1.toInt ∧ x1.toInt ≤ 1) : cm_Call cm_ms 30 145 [.ref 0, .int x0, .int x1] M (lp_P 1 M) := lk_ok ck_271 (by decide) (by decide +kernel) hM (ρ := [x0, x1]) ⟨⟨0, List.mem_cons_self, rfl⟩, ⟨x0, rfl, rfl⟩, ⟨x1, rfl, rfl⟩, trivial⟩ (lk_k ⟨lu_f x0, ⟨rfl, h1⟩, trivial⟩) (fun q hq => nomatch hq)
set_option maxRecDepth 1000000 in
/-- BarberMinutes.shaves -/
theorem lk_146 {M : cm_M} (hM : ab_ok hp hN M) (x0 x1 x2 : Int32) : cm_Call cm_ms 30 146 [.ref 0, .int x0, .int x1, .int x2] M (lp_P 0 M) := lk_ok ck_272 (by decide) (by decide +kernel) hM (ρ := [x0, x1, x2]) ⟨⟨0, List.mem_cons_self, rfl⟩, ⟨x0, rfl, rfl⟩, ⟨x1, rfl, rfl⟩, ⟨x2, rfl, rfl⟩, trivial⟩ (lk_k ⟨lu_f x0, lu_f x1, lu_f x2, trivial⟩) (fun q hq => nomatch hq)
set_option maxRecDepth 1000000 in
/-- BarberMinutes.carries -/
theorem lk_147 {M : cm_M} (hM : ab_ok hp hN M) (x0 x1 x2 : Int32) : cm_Call cm_ms 30 147 [.ref 0, .int x0, .int x1, .int x2] M (lp_P 0 M) := lk_ok ck_273 (by decide) (by decide +kernel) hM (ρ := [x0, x1, x2]) ⟨⟨0, List.mem_cons_self, rfl⟩, ⟨x0, rfl, rfl⟩, ⟨x1, rfl, rfl⟩, ⟨x2, rfl, rfl⟩, trivial⟩ (lk_k ⟨lu_f x0, lu_f x1, lu_f x2, trivial⟩) (fun q hq => nomatch hq)
set_option maxRecDepth 1000000 in
/-- BarberMinutes.put -/
theorem lk_149 {M : cm_M} (hM : ab_ok hp hN M) (x0 : Int32) : cm_Call cm_ms 30 149 [.ref 0, .int x0] M (lp_P 0 M) := lk_ok ck_274 (by decide) (by decide +kernel) hM (ρ := [x0]) ⟨⟨0, List.mem_cons_self, rfl⟩, ⟨x0, rfl, rfl⟩, trivial⟩ (lk_k ⟨lu_f x0, trivial⟩) (fun q hq => nomatch hq)
set_option maxRecDepth 1000000 in
/-- BarberMinutes.week -/
theorem lk_150 {M : cm_M} (hM : ab_ok hp hN M) : cm_Call cm_ms 30 150 [.ref 0] M (lp_P 0 M) := lk_ok ck_275 (by decide) (by decide +kernel) hM (ρ := []) ⟨⟨0, List.mem_cons_self, rfl⟩, trivial⟩ (lk_k trivial) (fun q hq => nomatch hq)
set_option maxRecDepth 1000000 in
/-- BarberMinutes.shave -/
theorem lk_151 {M : cm_M} (hM : ab_ok hp hN M) (x0 : Int32) : cm_Call cm_ms 30 151 [.ref 0, .int x0] M (lp_P 0 M) := lk_ok ck_276 (by decide) (by decide +kernel) hM (ρ := [x0]) ⟨⟨0, List.mem_cons_self, rfl⟩, ⟨x0, rfl, rfl⟩, trivial⟩ (lk_k ⟨lu_f x0, trivial⟩) (fun q hq => nomatch hq)
set_option maxRecDepth 1000000 in
/-- BarberMinutes.undo -/
theorem lk_152 {M : cm_M} (hM : ab_ok hp hN M) : cm_Call cm_ms 30 152 [.ref 0] M (lp_P 0 M) := lk_ok ck_277 (by decide) (by decide +kernel) hM (ρ := []) ⟨⟨0, List.mem_cons_self, rfl⟩, trivial⟩ (lk_k trivial) (fun q hq => nomatch hq)
set_option maxRecDepth 1000000 in
/-- BarberMinutes.image -/
theorem lk_153 {M : cm_M} (hM : ab_ok hp hN M) : cm_Call cm_ms 30 153 [.ref 0] M (lp_P 0 M) := lk_ok ck_278 (by decide) (by decide +kernel) hM (ρ := []) ⟨⟨0, List.mem_cons_self, rfl⟩, trivial⟩ (lk_k trivial) (fun q hq => nomatch hq)
set_option maxRecDepth 1000000 in
/-- BarberMinutes.back -/
theorem lk_154 {M : cm_M} (hM : ab_ok hp hN M) (x0 : Int32) : cm_Call cm_ms 30 154 [.ref 0, .int x0] M (lp_P 0 M) := lk_ok ck_279 (by decide) (by decide +kernel) hM (ρ := [x0]) ⟨⟨0, List.mem_cons_self, rfl⟩, ⟨x0, rfl, rfl⟩, trivial⟩ (lk_k ⟨lu_f x0, trivial⟩) (fun q hq => nomatch hq)
set_option maxRecDepth 1000000 in
/-- BarberMinutes.size -/
theorem lk_155 {M : cm_M} (hM : ab_ok hp hN M) (x0 : Int32) : cm_Call cm_ms 30 155 [.ref 0, .int x0] M (lp_P 0 M) := lk_ok ck_280 (by decide) (by decide +kernel) hM (ρ := [x0]) ⟨⟨0, List.mem_cons_self, rfl⟩, ⟨x0, rfl, rfl⟩, trivial⟩ (lk_k ⟨lu_f x0, trivial⟩) (fun q hq => nomatch hq)
set_option maxRecDepth 1000000 in
/-- BarberMinutes.trouble -/
theorem lk_156 {M : cm_M} (hM : ab_ok hp hN M) : cm_Call cm_ms 30 156 [.ref 0] M (lp_P 0 M) := lk_ok ck_281 (by decide) (by decide +kernel) hM (ρ := []) ⟨⟨0, List.mem_cons_self, rfl⟩, trivial⟩ (lk_k trivial) (fun q hq => nomatch hq)
set_option maxRecDepth 1000000 in
/-- BarberMinutesModel.fault -/
theorem lk_203 {M : cm_M} (hM : ab_ok hp hN M) : cm_Call cm_ms 30 203 [.ref 124] M (lp_P 0 M) := lk_ok ck_345 (by decide) (by decide +kernel) hM (ρ := []) ⟨⟨124, List.mem_cons_self, rfl⟩, trivial⟩ (lk_k trivial) (fun q hq => nomatch hq)
set_option maxRecDepth 1000000 in
/-- BarberMinutesModel.where -/
theorem lk_204 {M : cm_M} (hM : ab_ok hp hN M) : cm_Call cm_ms 30 204 [.ref 124] M (lp_P 0 M) := lk_ok ck_346 (by decide) (by decide +kernel) hM (ρ := []) ⟨⟨124, List.mem_cons_self, rfl⟩, trivial⟩ (lk_k trivial) (fun q hq => nomatch hq)
set_option maxRecDepth 1000000 in
/-- BarberMinutesModel.man -/
theorem lk_221 {M : cm_M} (hM : ab_ok hp hN M) (x0 x1 : Int32) : cm_Call cm_ms 30 221 [.ref 124, .int x0, .int x1] M (lp_P 0 M) := lk_ok ck_359 (by decide) (by decide +kernel) hM (ρ := [x0, x1]) ⟨⟨124, List.mem_cons_self, rfl⟩, ⟨x0, rfl, rfl⟩, ⟨x1, rfl, rfl⟩, trivial⟩ (lk_k ⟨lu_f x0, lu_f x1, trivial⟩) (fun q hq => nomatch hq)
set_option maxRecDepth 1000000 in
/-- BarberMinutesModel.motion -/
theorem lk_223 {M : cm_M} (hM : ab_ok hp hN M) (x0 x1 : Int32) : cm_Call cm_ms 30 223 [.ref 124, .int x0, .int x1] M (lp_P 0 M) := lk_ok ck_360 (by decide) (by decide +kernel) hM (ρ := [x0, x1]) ⟨⟨124, List.mem_cons_self, rfl⟩, ⟨x0, rfl, rfl⟩, ⟨x1, rfl, rfl⟩, trivial⟩ (lk_k ⟨lu_f x0, lu_f x1, trivial⟩) (fun q hq => nomatch hq)
set_option maxRecDepth 1000000 in
/-- BarberMinutesModel.floor -/
theorem lk_224 {M : cm_M} (hM : ab_ok hp hN M) (x0 : Int32) : cm_Call cm_ms 30 224 [.ref 124, .int x0] M (lp_P 0 M) := lk_ok ck_361 (by decide) (by decide +kernel) hM (ρ := [x0]) ⟨⟨124, List.mem_cons_self, rfl⟩, ⟨x0, rfl, rfl⟩, trivial⟩ (lk_k ⟨lu_f x0, trivial⟩) (fun q hq => nomatch hq)
set_option maxRecDepth 1000000 in
/-- BarberMinutesModel.bald -/
theorem lk_225 {M : cm_M} (hM : ab_ok hp hN M) : cm_Call cm_ms 30 225 [.ref 124] M (lp_P 0 M) := lk_ok ck_362 (by decide) (by decide +kernel) hM (ρ := []) ⟨⟨124, List.mem_cons_self, rfl⟩, trivial⟩ (lk_k trivial) (fun q hq => nomatch hq)
set_option maxRecDepth 1000000 in
/-- BarberMinutesModel.longest -/
theorem lk_226 {M : cm_M} (hM : ab_ok hp hN M) : cm_Call cm_ms 30 226 [.ref 124] M (lp_P 0 M) := lk_ok ck_363 (by decide) (by decide +kernel) hM (ρ := []) ⟨⟨124, List.mem_cons_self, rfl⟩, trivial⟩ (lk_k trivial) (fun q hq => nomatch hq)
set_option maxRecDepth 1000000 in
/-- BarberMinutesModel.ready -/
theorem lk_227 {M : cm_M} (hM : ab_ok hp hN M) : cm_Call cm_ms 30 227 [.ref 124] M (lp_P 0 M) := lk_ok ck_364 (by decide) (by decide +kernel) hM (ρ := []) ⟨⟨124, List.mem_cons_self, rfl⟩, trivial⟩ (lk_k trivial) (fun q hq => nomatch hq)
set_option maxRecDepth 1000000 in
/-- BarberMinutesModel.quorum -/
theorem lk_229 {M : cm_M} (hM : ab_ok hp hN M) : cm_Call cm_ms 30 229 [.ref 124] M (lp_P 0 M) := lk_ok ck_366 (by decide) (by decide +kernel) hM (ρ := []) ⟨⟨124, List.mem_cons_self, rfl⟩, trivial⟩ (lk_k trivial) (fun q hq => nomatch hq)
set_option maxRecDepth 1000000 in
/-- BarberMinutesModel.behind -/
theorem lk_230 {M : cm_M} (hM : ab_ok hp hN M) (x0 : Int32) : cm_Call cm_ms 30 230 [.ref 124, .int x0] M (lp_P 0 M) := lk_ok ck_367 (by decide) (by decide +kernel) hM (ρ := [x0]) ⟨⟨124, List.mem_cons_self, rfl⟩, ⟨x0, rfl, rfl⟩, trivial⟩ (lk_k ⟨lu_f x0, trivial⟩) (fun q hq => nomatch hq)
set_option maxRecDepth 1000000 in
/-- BarberMinutesModel.depth -/
theorem lk_232 {M : cm_M} (hM : ab_ok hp hN M) (x0 : Int32) : cm_Call cm_ms 30 232 [.ref 124, .int x0] M (lp_P 0 M) := lk_ok ck_373 (by decide) (by decide +kernel) hM (ρ := [x0]) ⟨⟨124, List.mem_cons_self, rfl⟩, ⟨x0, rfl, rfl⟩, trivial⟩ (lk_k ⟨lu_f x0, trivial⟩) (fun q hq => nomatch hq)
set_option maxRecDepth 1000000 in
/-- BarberMinutesModel.longIn -/
theorem lk_234 {M : cm_M} (hM : ab_ok hp hN M) (x0 x1 : Int32) : cm_Call cm_ms 30 234 [.ref 124, .int x0, .int x1] M (lp_P 0 M) := lk_ok ck_374 (by decide) (by decide +kernel) hM (ρ := [x0, x1]) ⟨⟨124, List.mem_cons_self, rfl⟩, ⟨x0, rfl, rfl⟩, ⟨x1, rfl, rfl⟩, trivial⟩ (lk_k ⟨lu_f x0, lu_f x1, trivial⟩) (fun q hq => nomatch hq)
set_option maxRecDepth 1000000 in
/-- BarberMinutesModel.yesIn -/
theorem lk_235 {M : cm_M} (hM : ab_ok hp hN M) (x0 x1 : Int32) : cm_Call cm_ms 30 235 [.ref 124, .int x0, .int x1] M (lp_P 0 M) := lk_ok ck_375 (by decide) (by decide +kernel) hM (ρ := [x0, x1]) ⟨⟨124, List.mem_cons_self, rfl⟩, ⟨x0, rfl, rfl⟩, ⟨x1, rfl, rfl⟩, trivial⟩ (lk_k ⟨lu_f x0, lu_f x1, trivial⟩) (fun q hq => nomatch hq)
set_option maxRecDepth 1000000 in
/-- BarberMinutesModel.carryIn -/
theorem lk_237 {M : cm_M} (hM : ab_ok hp hN M) (x0 : Int32) : cm_Call cm_ms 30 237 [.ref 124, .int x0] M (lp_P 0 M) := lk_ok ck_377 (by decide) (by decide +kernel) hM (ρ := [x0]) ⟨⟨124, List.mem_cons_self, rfl⟩, ⟨x0, rfl, rfl⟩, trivial⟩ (lk_k ⟨lu_f x0, trivial⟩) (fun q hq => nomatch hq)
set_option maxRecDepth 1000000 in
/-- BarberMinutesModel.hairyIn -/
theorem lk_238 {M : cm_M} (hM : ab_ok hp hN M) : cm_Call cm_ms 30 238 [.ref 124] M (lp_P 0 M) := lk_ok ck_378 (by decide) (by decide +kernel) hM (ρ := []) ⟨⟨124, List.mem_cons_self, rfl⟩, trivial⟩ (lk_k trivial) (fun q hq => nomatch hq)
set_option maxRecDepth 1000000 in
/-- BarberMinutesModel.soonest -/
theorem lk_239 {M : cm_M} (hM : ab_ok hp hN M) : cm_Call cm_ms 30 239 [.ref 124] M (lp_P 0 M) := lk_ok ck_379 (by decide) (by decide +kernel) hM (ρ := []) ⟨⟨124, List.mem_cons_self, rfl⟩, trivial⟩ (lk_k trivial) (fun q hq => nomatch hq)
set_option maxRecDepth 1000000 in
/-- BarberMinutesModel.worthOf -/
theorem lk_242 {M : cm_M} (hM : ab_ok hp hN M) (x0 x1 : Int32) : cm_Call cm_ms 30 242 [.ref 124, .int x0, .int x1] M (lp_P 0 M) := lk_ok ck_381 (by decide) (by decide +kernel) hM (ρ := [x0, x1]) ⟨⟨124, List.mem_cons_self, rfl⟩, ⟨x0, rfl, rfl⟩, ⟨x1, rfl, rfl⟩, trivial⟩ (lk_k ⟨lu_f x0, lu_f x1, trivial⟩) (fun q hq => nomatch hq)
set_option maxRecDepth 1000000 in
/-- BarberMinutesModel.bestRow -/
theorem lk_245 {M : cm_M} (hM : ab_ok hp hN M) (x0 : Int32) : cm_Call cm_ms 30 245 [.ref 124, .int x0] M (lp_P 0 M) := lk_ok ck_384 (by decide) (by decide +kernel) hM (ρ := [x0]) ⟨⟨124, List.mem_cons_self, rfl⟩, ⟨x0, rfl, rfl⟩, trivial⟩ (lk_k ⟨lu_f x0, trivial⟩) (fun q hq => nomatch hq)
set_option maxRecDepth 1000000 in
/-- BarberMinutesModel.bestWorth -/
theorem lk_246 {M : cm_M} (hM : ab_ok hp hN M) (x0 : Int32) : cm_Call cm_ms 30 246 [.ref 124, .int x0] M (lp_P 0 M) := lk_ok ck_385 (by decide) (by decide +kernel) hM (ρ := [x0]) ⟨⟨124, List.mem_cons_self, rfl⟩, ⟨x0, rfl, rfl⟩, trivial⟩ (lk_k ⟨lu_f x0, trivial⟩) (fun q hq => nomatch hq)
set_option maxRecDepth 1000000 in
/-- BarberMinutesModel.bestCarried -/
theorem lk_247 {M : cm_M} (hM : ab_ok hp hN M) (x0 : Int32) : cm_Call cm_ms 30 247 [.ref 124, .int x0] M (lp_P 0 M) := lk_ok ck_386 (by decide) (by decide +kernel) hM (ρ := [x0]) ⟨⟨124, List.mem_cons_self, rfl⟩, ⟨x0, rfl, rfl⟩, trivial⟩ (lk_k ⟨lu_f x0, trivial⟩) (fun q hq => nomatch hq)
set_option maxRecDepth 1000000 in
/-- BarberMinutesModel.weeksFor -/
theorem lk_248 {M : cm_M} (hM : ab_ok hp hN M) (x0 : Int32) : cm_Call cm_ms 30 248 [.ref 124, .int x0] M (lp_P 0 M) := lk_ok ck_387 (by decide) (by decide +kernel) hM (ρ := [x0]) ⟨⟨124, List.mem_cons_self, rfl⟩, ⟨x0, rfl, rfl⟩, trivial⟩ (lk_k ⟨lu_f x0, trivial⟩) (fun q hq => nomatch hq)
set_option maxRecDepth 1000000 in
/-- BarberMinutesModel.swings -/
theorem lk_250 {M : cm_M} (hM : ab_ok hp hN M) (x0 x1 : Int32) : cm_Call cm_ms 30 250 [.ref 124, .int x0, .int x1] M (lp_P 0 M) := lk_ok ck_389 (by decide) (by decide +kernel) hM (ρ := [x0, x1]) ⟨⟨124, List.mem_cons_self, rfl⟩, ⟨x0, rfl, rfl⟩, ⟨x1, rfl, rfl⟩, trivial⟩ (lk_k ⟨lu_f x0, lu_f x1, trivial⟩) (fun q hq => nomatch hq)
set_option maxRecDepth 1000000 in
/-- BarberMinutesModel.mighty -/
theorem lk_251 {M : cm_M} (hM : ab_ok hp hN M) (x0 : Int32) : cm_Call cm_ms 30 251 [.ref 124, .int x0] M (lp_P 0 M) := lk_ok ck_390 (by decide) (by decide +kernel) hM (ρ := [x0]) ⟨⟨124, List.mem_cons_self, rfl⟩, ⟨x0, rfl, rfl⟩, trivial⟩ (lk_k ⟨lu_f x0, trivial⟩) (fun q hq => nomatch hq)
set_option maxRecDepth 1000000 in
/-- BarberMinutesModel.outvoted -/
theorem lk_252 {M : cm_M} (hM : ab_ok hp hN M) (x0 : Int32) : cm_Call cm_ms 30 252 [.ref 124, .int x0] M (lp_P 0 M) := lk_ok ck_391 (by decide) (by decide +kernel) hM (ρ := [x0]) ⟨⟨124, List.mem_cons_self, rfl⟩, ⟨x0, rfl, rfl⟩, trivial⟩ (lk_k ⟨lu_f x0, trivial⟩) (fun q hq => nomatch hq)
set_option maxRecDepth 1000000 in
/-- BarberMinutesModel.bench -/
theorem lk_253 {M : cm_M} (hM : ab_ok hp hN M) (x0 : Int32) : cm_Call cm_ms 30 253 [.ref 124, .int x0] M (lp_P 0 M) := lk_ok ck_392 (by decide) (by decide +kernel) hM (ρ := [x0]) ⟨⟨124, List.mem_cons_self, rfl⟩, ⟨x0, rfl, rfl⟩, trivial⟩ (lk_k ⟨lu_f x0, trivial⟩) (fun q hq => nomatch hq)
set_option maxRecDepth 1000000 in
/-- BarberMinutesModel.parting -/
theorem lk_256 {M : cm_M} (hM : ab_ok hp hN M) : cm_Call cm_ms 30 256 [.ref 124] M (lp_P 0 M) := lk_ok ck_395 (by decide) (by decide +kernel) hM (ρ := []) ⟨⟨124, List.mem_cons_self, rfl⟩, trivial⟩ (lk_k trivial) (fun q hq => nomatch hq)
set_option maxRecDepth 1000000 in
/-- BarberMinutesModel.left -/
theorem lk_257 {M : cm_M} (hM : ab_ok hp hN M) : cm_Call cm_ms 30 257 [.ref 124] M (lp_P 0 M) := lk_ok ck_396 (by decide) (by decide +kernel) hM (ρ := []) ⟨⟨124, List.mem_cons_self, rfl⟩, trivial⟩ (lk_k trivial) (fun q hq => nomatch hq)
set_option maxRecDepth 1000000 in
/-- BarberMinutesModel.peace -/
theorem lk_258 {M : cm_M} (hM : ab_ok hp hN M) : cm_Call cm_ms 30 258 [.ref 124] M (lp_P 0 M) := lk_ok ck_397 (by decide) (by decide +kernel) hM (ρ := []) ⟨⟨124, List.mem_cons_self, rfl⟩, trivial⟩ (lk_k trivial) (fun q hq => nomatch hq)
set_option maxRecDepth 1000000 in
/-- BarberMinutesModel.apart -/
theorem lk_260 {M : cm_M} (hM : ab_ok hp hN M) (x0 x1 : Int32) : cm_Call cm_ms 30 260 [.ref 124, .int x0, .int x1] M (lp_P 0 M) := lk_ok ck_399 (by decide) (by decide +kernel) hM (ρ := [x0, x1]) ⟨⟨124, List.mem_cons_self, rfl⟩, ⟨x0, rfl, rfl⟩, ⟨x1, rfl, rfl⟩, trivial⟩ (lk_k ⟨lu_f x0, lu_f x1, trivial⟩) (fun q hq => nomatch hq)
set_option maxRecDepth 1000000 in
/-- BarberMinutesModel.round -/
theorem lk_263 {M : cm_M} (hM : ab_ok hp hN M) : cm_Call cm_ms 30 263 [.ref 124] M (lp_P 0 M) := by
  rcases lu_127 hM with h | h | h | h | h | h
  · exact lk_ok ck_420 (by decide) (by decide +kernel) hM (ρ := []) ⟨⟨124, List.mem_cons_self, rfl⟩, trivial⟩ (lk_k trivial) (fun q hq => by rw [List.mem_singleton.mp hq]; exact congrArg some h.symm)
  · exact lk_ok ck_421 (by decide) (by decide +kernel) hM (ρ := []) ⟨⟨124, List.mem_cons_self, rfl⟩, trivial⟩ (lk_k trivial) (fun q hq => by rw [List.mem_singleton.mp hq]; exact congrArg some h.symm)
  · exact lk_ok ck_422 (by decide) (by decide +kernel) hM (ρ := []) ⟨⟨124, List.mem_cons_self, rfl⟩, trivial⟩ (lk_k trivial) (fun q hq => by rw [List.mem_singleton.mp hq]; exact congrArg some h.symm)
  · exact lk_ok ck_423 (by decide) (by decide +kernel) hM (ρ := []) ⟨⟨124, List.mem_cons_self, rfl⟩, trivial⟩ (lk_k trivial) (fun q hq => by rw [List.mem_singleton.mp hq]; exact congrArg some h.symm)
  · exact lk_ok ck_424 (by decide) (by decide +kernel) hM (ρ := []) ⟨⟨124, List.mem_cons_self, rfl⟩, trivial⟩ (lk_k trivial) (fun q hq => by rw [List.mem_singleton.mp hq]; exact congrArg some h.symm)
  · exact lk_ok ck_425 (by decide) (by decide +kernel) hM (ρ := []) ⟨⟨124, List.mem_cons_self, rfl⟩, trivial⟩ (lk_k trivial) (fun q hq => by rw [List.mem_singleton.mp hq]; exact congrArg some h.symm)
set_option maxRecDepth 1000000 in
/-- BarberMinutesModel.roundAt -/
theorem lk_264 {M : cm_M} (hM : ab_ok hp hN M) (x0 : Int32) : cm_Call cm_ms 30 264 [.ref 124, .int x0] M (lp_P 0 M) := by
  rcases lu_127 hM with h | h | h | h | h | h
  · exact lk_ok ck_426 (by decide) (by decide +kernel) hM (ρ := [x0]) ⟨⟨124, List.mem_cons_self, rfl⟩, ⟨x0, rfl, rfl⟩, trivial⟩ (lk_k ⟨lu_f x0, trivial⟩) (fun q hq => by rw [List.mem_singleton.mp hq]; exact congrArg some h.symm)
  · exact lk_ok ck_427 (by decide) (by decide +kernel) hM (ρ := [x0]) ⟨⟨124, List.mem_cons_self, rfl⟩, ⟨x0, rfl, rfl⟩, trivial⟩ (lk_k ⟨lu_f x0, trivial⟩) (fun q hq => by rw [List.mem_singleton.mp hq]; exact congrArg some h.symm)
  · exact lk_ok ck_428 (by decide) (by decide +kernel) hM (ρ := [x0]) ⟨⟨124, List.mem_cons_self, rfl⟩, ⟨x0, rfl, rfl⟩, trivial⟩ (lk_k ⟨lu_f x0, trivial⟩) (fun q hq => by rw [List.mem_singleton.mp hq]; exact congrArg some h.symm)
  · exact lk_ok ck_429 (by decide) (by decide +kernel) hM (ρ := [x0]) ⟨⟨124, List.mem_cons_self, rfl⟩, ⟨x0, rfl, rfl⟩, trivial⟩ (lk_k ⟨lu_f x0, trivial⟩) (fun q hq => by rw [List.mem_singleton.mp hq]; exact congrArg some h.symm)
  · exact lk_ok ck_430 (by decide) (by decide +kernel) hM (ρ := [x0]) ⟨⟨124, List.mem_cons_self, rfl⟩, ⟨x0, rfl, rfl⟩, trivial⟩ (lk_k ⟨lu_f x0, trivial⟩) (fun q hq => by rw [List.mem_singleton.mp hq]; exact congrArg some h.symm)
  · exact lk_ok ck_431 (by decide) (by decide +kernel) hM (ρ := [x0]) ⟨⟨124, List.mem_cons_self, rfl⟩, ⟨x0, rfl, rfl⟩, trivial⟩ (lk_k ⟨lu_f x0, trivial⟩) (fun q hq => by rw [List.mem_singleton.mp hq]; exact congrArg some h.symm)
set_option maxRecDepth 1000000 in
/-- BarberMinutesModel.fits -/
theorem lk_267 {M : cm_M} (hM : ab_ok hp hN M) : cm_Call cm_ms 30 267 [.ref 124] M (lp_P 0 M) := lk_ok ck_434 (by decide) (by decide +kernel) hM (ρ := []) ⟨⟨124, List.mem_cons_self, rfl⟩, trivial⟩ (lk_k trivial) (fun q hq => nomatch hq)
set_option maxRecDepth 1000000 in
/-- BarberMinutesModel.fitAt -/
theorem lk_268 {M : cm_M} (hM : ab_ok hp hN M) (x0 : Int32) : cm_Call cm_ms 30 268 [.ref 124, .int x0] M (lp_P 0 M) := lk_ok ck_435 (by decide) (by decide +kernel) hM (ρ := [x0]) ⟨⟨124, List.mem_cons_self, rfl⟩, ⟨x0, rfl, rfl⟩, trivial⟩ (lk_k ⟨lu_f x0, trivial⟩) (fun q hq => nomatch hq)
set_option maxRecDepth 1000000 in
/-- BarberMinutesModel.could -/
theorem lk_269 {M : cm_M} (hM : ab_ok hp hN M) : cm_Call cm_ms 30 269 [.ref 124] M (lp_P 0 M) := lk_ok ck_436 (by decide) (by decide +kernel) hM (ρ := []) ⟨⟨124, List.mem_cons_self, rfl⟩, trivial⟩ (lk_k trivial) (fun q hq => nomatch hq)
set_option maxRecDepth 1000000 in
/-- BarberMinutesModel.surely -/
theorem lk_270 {M : cm_M} (hM : ab_ok hp hN M) : cm_Call cm_ms 30 270 [.ref 124] M (lp_P 0 M) := lk_ok ck_437 (by decide) (by decide +kernel) hM (ρ := []) ⟨⟨124, List.mem_cons_self, rfl⟩, trivial⟩ (lk_k trivial) (fun q hq => nomatch hq)
set_option maxRecDepth 1000000 in
/-- BarberMinutesModel.ask -/
theorem lk_273 {M : cm_M} (hM : ab_ok hp hN M) : cm_Call cm_ms 30 273 [.ref 124] M (lp_P 0 M) := lk_ok ck_440 (by decide) (by decide +kernel) hM (ρ := []) ⟨⟨124, List.mem_cons_self, rfl⟩, trivial⟩ (lk_k trivial) (fun q hq => nomatch hq)
set_option maxRecDepth 1000000 in
/-- BarberMinutesModel.askLeaves -/
theorem lk_274 {M : cm_M} (hM : ab_ok hp hN M) : cm_Call cm_ms 30 274 [.ref 124] M (lp_P 0 M) := lk_ok ck_441 (by decide) (by decide +kernel) hM (ρ := []) ⟨⟨124, List.mem_cons_self, rfl⟩, trivial⟩ (lk_k trivial) (fun q hq => nomatch hq)
set_option maxRecDepth 1000000 in
/-- BarberMinutesModel.talk -/
theorem lk_276 {M : cm_M} (hM : ab_ok hp hN M) (x0 x1 x2 x3 : Int32) (h1 : 0 ≤ x1.toInt ∧ x1.toInt ≤ 1) (h2 : 0 ≤ x2.toInt ∧ x2.toInt ≤ 1) (h3 : 0 ≤ x3.toInt ∧ x3.toInt ≤ 1) : cm_Call cm_ms 30 276 [.ref 124, .int x0, .int x1, .int x2, .int x3] M (lp_P 0 M) := lk_ok ck_442 (by decide) (by decide +kernel) hM (ρ := [x0, x1, x2, x3]) ⟨⟨124, List.mem_cons_self, rfl⟩, ⟨x0, rfl, rfl⟩, ⟨x1, rfl, rfl⟩, ⟨x2, rfl, rfl⟩, ⟨x3, rfl, rfl⟩, trivial⟩ (lk_k ⟨lu_f x0, ⟨rfl, h1⟩, ⟨rfl, h2⟩, ⟨rfl, h3⟩, trivial⟩) (fun q hq => nomatch hq)
set_option maxRecDepth 1000000 in
/-- BarberMinutesModel.rests -/
theorem lk_279 {M : cm_M} (hM : ab_ok hp hN M) (x0 : Int32) : cm_Call cm_ms 30 279 [.ref 124, .int x0] M (lp_P 0 M) := lk_ok ck_445 (by decide) (by decide +kernel) hM (ρ := [x0]) ⟨⟨124, List.mem_cons_self, rfl⟩, ⟨x0, rfl, rfl⟩, trivial⟩ (lk_k ⟨lu_f x0, trivial⟩) (fun q hq => nomatch hq)
set_option maxRecDepth 1000000 in
/-- BarberMinutesModel.rest -/
theorem lk_280 {M : cm_M} (hM : ab_ok hp hN M) (x0 : Int32) : cm_Call cm_ms 30 280 [.ref 124, .int x0] M (lp_P 0 M) := lk_ok ck_446 (by decide) (by decide +kernel) hM (ρ := [x0]) ⟨⟨124, List.mem_cons_self, rfl⟩, ⟨x0, rfl, rfl⟩, trivial⟩ (lk_k ⟨lu_f x0, trivial⟩) (fun q hq => nomatch hq)
set_option maxRecDepth 1000000 in
/-- BarberMinutesModel.odds -/
theorem lk_282 {M : cm_M} (hM : ab_ok hp hN M) (x0 x1 : Int32) (h1 : 0 ≤ x1.toInt ∧ x1.toInt ≤ 1) : cm_Call cm_ms 30 282 [.ref 124, .int x0, .int x1] M (lp_P 1 M) := lk_ok ck_447 (by decide) (by decide +kernel) hM (ρ := [x0, x1]) ⟨⟨124, List.mem_cons_self, rfl⟩, ⟨x0, rfl, rfl⟩, ⟨x1, rfl, rfl⟩, trivial⟩ (lk_k ⟨lu_f x0, ⟨rfl, h1⟩, trivial⟩) (fun q hq => nomatch hq)
set_option maxRecDepth 1000000 in
/-- BarberMinutesModel.mean -/
theorem lk_283 {M : cm_M} (hM : ab_ok hp hN M) (x0 x1 : Int32) (h1 : 0 ≤ x1.toInt ∧ x1.toInt ≤ 1) : cm_Call cm_ms 30 283 [.ref 124, .int x0, .int x1] M (lp_P 1 M) := lk_ok ck_448 (by decide) (by decide +kernel) hM (ρ := [x0, x1]) ⟨⟨124, List.mem_cons_self, rfl⟩, ⟨x0, rfl, rfl⟩, ⟨x1, rfl, rfl⟩, trivial⟩ (lk_k ⟨lu_f x0, ⟨rfl, h1⟩, trivial⟩) (fun q hq => nomatch hq)
set_option maxRecDepth 1000000 in
/-- BarberMinutesModel.shaves -/
theorem lk_285 {M : cm_M} (hM : ab_ok hp hN M) (x0 x1 x2 : Int32) : cm_Call cm_ms 30 285 [.ref 124, .int x0, .int x1, .int x2] M (lp_P 0 M) := lk_ok ck_451 (by decide) (by decide +kernel) hM (ρ := [x0, x1, x2]) ⟨⟨124, List.mem_cons_self, rfl⟩, ⟨x0, rfl, rfl⟩, ⟨x1, rfl, rfl⟩, ⟨x2, rfl, rfl⟩, trivial⟩ (lk_k ⟨lu_f x0, lu_f x1, lu_f x2, trivial⟩) (fun q hq => nomatch hq)
set_option maxRecDepth 1000000 in
/-- BarberMinutesModel.carries -/
theorem lk_286 {M : cm_M} (hM : ab_ok hp hN M) (x0 x1 x2 : Int32) : cm_Call cm_ms 30 286 [.ref 124, .int x0, .int x1, .int x2] M (lp_P 0 M) := lk_ok ck_452 (by decide) (by decide +kernel) hM (ρ := [x0, x1, x2]) ⟨⟨124, List.mem_cons_self, rfl⟩, ⟨x0, rfl, rfl⟩, ⟨x1, rfl, rfl⟩, ⟨x2, rfl, rfl⟩, trivial⟩ (lk_k ⟨lu_f x0, lu_f x1, lu_f x2, trivial⟩) (fun q hq => nomatch hq)
set_option maxRecDepth 1000000 in
/-- BarberMinutesModel.put -/
theorem lk_288 {M : cm_M} (hM : ab_ok hp hN M) (x0 : Int32) : cm_Call cm_ms 30 288 [.ref 124, .int x0] M (lp_P 0 M) := lk_ok ck_454 (by decide) (by decide +kernel) hM (ρ := [x0]) ⟨⟨124, List.mem_cons_self, rfl⟩, ⟨x0, rfl, rfl⟩, trivial⟩ (lk_k ⟨lu_f x0, trivial⟩) (fun q hq => nomatch hq)
set_option maxRecDepth 1000000 in
/-- BarberMinutesModel.week -/
theorem lk_289 {M : cm_M} (hM : ab_ok hp hN M) : cm_Call cm_ms 30 289 [.ref 124] M (lp_P 0 M) := lk_ok ck_455 (by decide) (by decide +kernel) hM (ρ := []) ⟨⟨124, List.mem_cons_self, rfl⟩, trivial⟩ (lk_k trivial) (fun q hq => nomatch hq)
set_option maxRecDepth 1000000 in
/-- BarberMinutesModel.shave -/
theorem lk_290 {M : cm_M} (hM : ab_ok hp hN M) (x0 : Int32) : cm_Call cm_ms 30 290 [.ref 124, .int x0] M (lp_P 0 M) := lk_ok ck_456 (by decide) (by decide +kernel) hM (ρ := [x0]) ⟨⟨124, List.mem_cons_self, rfl⟩, ⟨x0, rfl, rfl⟩, trivial⟩ (lk_k ⟨lu_f x0, trivial⟩) (fun q hq => nomatch hq)
set_option maxRecDepth 1000000 in
/-- BarberMinutesModel.undo -/
theorem lk_291 {M : cm_M} (hM : ab_ok hp hN M) : cm_Call cm_ms 30 291 [.ref 124] M (lp_P 0 M) := lk_ok ck_457 (by decide) (by decide +kernel) hM (ρ := []) ⟨⟨124, List.mem_cons_self, rfl⟩, trivial⟩ (lk_k trivial) (fun q hq => nomatch hq)
set_option maxRecDepth 1000000 in
/-- BarberMinutesModel.image -/
theorem lk_292 {M : cm_M} (hM : ab_ok hp hN M) : cm_Call cm_ms 30 292 [.ref 124] M (lp_P 0 M) := lk_ok ck_458 (by decide) (by decide +kernel) hM (ρ := []) ⟨⟨124, List.mem_cons_self, rfl⟩, trivial⟩ (lk_k trivial) (fun q hq => nomatch hq)
set_option maxRecDepth 1000000 in
/-- BarberMinutesModel.back -/
theorem lk_293 {M : cm_M} (hM : ab_ok hp hN M) (x0 : Int32) : cm_Call cm_ms 30 293 [.ref 124, .int x0] M (lp_P 0 M) := lk_ok ck_459 (by decide) (by decide +kernel) hM (ρ := [x0]) ⟨⟨124, List.mem_cons_self, rfl⟩, ⟨x0, rfl, rfl⟩, trivial⟩ (lk_k ⟨lu_f x0, trivial⟩) (fun q hq => nomatch hq)
set_option maxRecDepth 1000000 in
/-- BarberMinutesModel.led -/
theorem lk_294 {M : cm_M} (hM : ab_ok hp hN M) (x0 : Int32) : cm_Call cm_ms 30 294 [.ref 124, .int x0] M (lp_P 0 M) := lk_ok ck_460 (by decide) (by decide +kernel) hM (ρ := [x0]) ⟨⟨124, List.mem_cons_self, rfl⟩, ⟨x0, rfl, rfl⟩, trivial⟩ (lk_k ⟨lu_f x0, trivial⟩) (fun q hq => nomatch hq)
set_option maxRecDepth 1000000 in
/-- BarberMinutesModel.size -/
theorem lk_295 {M : cm_M} (hM : ab_ok hp hN M) (x0 : Int32) : cm_Call cm_ms 30 295 [.ref 124, .int x0] M (lp_P 0 M) := lk_ok ck_461 (by decide) (by decide +kernel) hM (ρ := [x0]) ⟨⟨124, List.mem_cons_self, rfl⟩, ⟨x0, rfl, rfl⟩, trivial⟩ (lk_k ⟨lu_f x0, trivial⟩) (fun q hq => nomatch hq)
set_option maxRecDepth 1000000 in
/-- BarberMinutesModel.trouble -/
theorem lk_296 {M : cm_M} (hM : ab_ok hp hN M) : cm_Call cm_ms 30 296 [.ref 124] M (lp_P 0 M) := lk_ok ck_462 (by decide) (by decide +kernel) hM (ρ := []) ⟨⟨124, List.mem_cons_self, rfl⟩, trivial⟩ (lk_k trivial) (fun q hq => nomatch hq)
