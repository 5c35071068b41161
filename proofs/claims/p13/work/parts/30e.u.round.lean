/-! THE ROUND -/
abbrev RSt : Type := (Nat → Int32) × (Nat → Int32) × Int32
def upI (f : Nat → Int32) (i : Nat) (v : Int32) (j : Nat) : Int32 := if j = i then v else f j
/-- a whole order, weighed -/
def rdW (D : Int32 → Int32 → Int32) (gone : Int32) (dp : Nat) (s : RSt) : RSt := if (gone + D (s.1 (dp - 1)) 0).toInt < s.2.2.toInt then (s.1, s.1, gone + D (s.1 (dp - 1)) 0) else s
/-- all that aren't seen, one behind the other -/
def rdL (step : Nat → RSt → RSt) (seen : Nat) : Nat → RSt → RSt
  | 0, s => s
  | c + 1, s => if seen / 2 ^ (c + 1) % 2 = 0 then step (c + 1) (rdL step seen c s) else rdL step seen c s
def rdS (D : Int32 → Int32 → Int32) (rec : Nat → Nat → Int32 → RSt → RSt) (dp seen : Nat) (gone : Int32) (c : Nat) (s : RSt) : RSt := rec (dp + 1) (seen + 2 ^ c) (gone + D (s.1 (dp - 1)) (Int32.ofNat c)) (upI s.1 dp (Int32.ofNat c), s.2)
def rdF (D : Int32 → Int32 → Int32) (ch : Nat) : Nat → Nat → Nat → Int32 → RSt → RSt
  | 0, dp, _, gone, s => rdW D gone dp s
  | f + 1, dp, seen, gone, s => rdL (rdS D (rdF D ch f) dp seen gone) seen (ch - 1) s
theorem rdL_y {step : Nat → RSt → RSt} {seen c : Nat} {s : RSt} (h : seen / 2 ^ (c + 1) % 2 = 0) : rdL step seen (c + 1) s = step (c + 1) (rdL step seen c s) := if_pos h
theorem rdL_n {step : Nat → RSt → RSt} {seen c : Nat} {s : RSt} (h : ¬ seen / 2 ^ (c + 1) % 2 = 0) : rdL step seen (c + 1) s = rdL step seen c s := if_neg h
/-- the order's beginning stays -/
theorem rdL_ord {step : Nat → RSt → RSt} {seen dp : Nat} (h : ∀ c s j, j < dp → (step c s).1 j = s.1 j) : ∀ n s j, j < dp → (rdL step seen n s).1 j = s.1 j
  | 0, s, j, hj => rfl
  | n + 1, s, j, hj => by
    by_cases q : seen / 2 ^ (n + 1) % 2 = 0
    · rw [rdL_y q, h _ _ j hj]
      exact rdL_ord h n s j hj
    · rw [rdL_n q]
      exact rdL_ord h n s j hj
theorem rdF_ord {D : Int32 → Int32 → Int32} {ch : Nat} : ∀ f dp seen gone s j, j < dp → (rdF D ch f dp seen gone s).1 j = s.1 j
  | 0, dp, seen, gone, s, j, hj => by
    show (rdW D gone dp s).1 j = s.1 j
    unfold rdW
    split <;> rfl
  | f + 1, dp, seen, gone, s, j, hj => rdL_ord (fun c s j hj => by
    show (rdF D ch f (dp + 1) (seen + 2 ^ c) _ (upI s.1 dp (Int32.ofNat c), s.2)).1 j = s.1 j
    rw [rdF_ord f (dp + 1) _ _ _ j (by omega)]
    show upI s.1 dp (Int32.ofNat c) j = s.1 j
    unfold upI
    rw [if_neg (by omega)]) (ch - 1) s j hj
/-- places that are told -/
def VA (ch dp : Nat) (s : RSt) : Prop := ∀ j, j < dp → ∃ n, n < ch ∧ s.1 j = Int32.ofNat n
theorem VA_up {ch dp c : Nat} {s : RSt} (h : VA ch dp s) (hc : c < ch) : VA ch (dp + 1) (upI s.1 dp (Int32.ofNat c), s.2) := fun j hj => by
  show ∃ n, n < ch ∧ upI s.1 dp (Int32.ofNat c) j = Int32.ofNat n
  unfold upI
  by_cases e : j = dp
  · rw [if_pos e]
    exact ⟨c, hc, rfl⟩
  · rw [if_neg e]
    exact h j (by omega)
theorem VA_cg {ch dp : Nat} {s s' : RSt} (h : VA ch dp s) (e : ∀ j, j < dp → s'.1 j = s.1 j) : VA ch dp s' := fun j hj => by
  rw [e j hj]
  exact h j hj
/-- alike where it counts; both more than any round is -/
def E1 (ch : Nat) (s s' : RSt) : Prop := (∀ j, j < ch → s'.2.1 j = s.2.1 j) ∧ s'.2.2 = s.2.2
def E2 (s s' : RSt) : Prop := 250 < s.2.2.toInt ∧ 250 < s'.2.2.toInt
/-- ways are short and alike -/
def DB (ch : Nat) (D D' : Int32 → Int32 → Int32) : Prop := ∀ a b, a < ch → b < ch → D' (Int32.ofNat a) (Int32.ofNat b) = D (Int32.ofNat a) (Int32.ofNat b) ∧ 0 ≤ (D (Int32.ofNat a) (Int32.ofNat b)).toInt ∧ (D (Int32.ofNat a) (Int32.ofNat b)).toInt ≤ 50
theorem add_i {x y : Int32} (h0 : 0 ≤ x.toInt) (h1 : x.toInt ≤ 1000) (g0 : 0 ≤ y.toInt) (g1 : y.toInt ≤ 1000) : (x + y).toInt = x.toInt + y.toInt := by
  rw [Int32.toInt_add, ev_bm (by omega) (by omega)]
theorem rdW_e {ch dp : Nat} {D D' : Int32 → Int32 → Int32} {gone : Int32} {s s' : RSt} (hD : DB ch D D') (h5 : ch ≤ 5) (hd : 0 < dp) (hdc : dp = ch) (hv : VA ch dp s) (he : ∀ j, j < dp → s'.1 j = s.1 j) (g0 : 0 ≤ gone.toInt) (g1 : gone.toInt ≤ 50 * ((dp : Int) - 1)) (h : E1 ch s s' ∨ E2 s s') : E1 ch (rdW D gone dp s) (rdW D' gone dp s') := by
  obtain ⟨n, hn, en⟩ := hv (dp - 1) (by omega)
  obtain ⟨d1, d2, d3⟩ := hD n 0 hn (by omega)
  have e' : s'.1 (dp - 1) = Int32.ofNat n := (he (dp - 1) (by omega)).trans en
  have d1 : D' (Int32.ofNat n) 0 = D (Int32.ofNat n) 0 := d1
  have d2 : 0 ≤ (D (Int32.ofNat n) 0).toInt := d2
  have d3 : (D (Int32.ofNat n) 0).toInt ≤ 50 := d3
  have w := add_i g0 (by omega) d2 (by omega)
  unfold rdW
  rw [en, e', d1]
  generalize gone + D (Int32.ofNat n) 0 = x at w
  rcases h with ⟨a, b⟩ | ⟨a, b⟩
  · rw [b]
    by_cases q : x.toInt < s.2.2.toInt
    · rw [if_pos q, if_pos q]
      exact ⟨fun j hj => he j (by omega), rfl⟩
    · rw [if_neg q, if_neg q]
      exact ⟨a, b⟩
  · rw [if_pos (by omega), if_pos (by omega)]
    exact ⟨fun j hj => he j (by omega), rfl⟩
theorem seen_t : ∀ ch, ch < 6 → ∀ seen, seen < 2 ^ ch → pc seen < ch → seen % 2 = 1 → ∃ c, c < ch ∧ 0 < c ∧ seen / 2 ^ c % 2 = 0 := by
  have k : ∀ ch, ch < 6 → ∀ seen, seen < 2 ^ ch → pc seen < ch → seen % 2 = 1 → (List.range ch).any (fun c => decide (0 < c) && decide (seen / 2 ^ c % 2 = 0)) = true := by decide +kernel
  intro ch h1 seen h2 h3 h4
  obtain ⟨c, c1, c2⟩ := List.any_eq_true.mp (k ch h1 seen h2 h3 h4)
  rw [Bool.and_eq_true, decide_eq_true_eq, decide_eq_true_eq] at c2
  exact ⟨c, List.mem_range.mp c1, c2⟩
theorem odd_t : ∀ seen, seen < 64 → ∀ c, c < 6 → 0 < c → seen % 2 = 1 → seen / 2 ^ c % 2 = 0 → (seen + 2 ^ c) % 2 = 1 := by decide +kernel
theorem p2_5 : ∀ ch, ch < 6 → 2 ^ ch ≤ 64 := by decide
theorem rdL_e {ch dp seen : Nat} {st st' : Nat → RSt → RSt} {s s' : RSt} (hv : VA ch dp s) (he : ∀ j, j < dp → s'.1 j = s.1 j) (h : E1 ch s s' ∨ E2 s s') (ho : ∀ c s j, j < dp → (st c s).1 j = s.1 j) (ho' : ∀ c s j, j < dp → (st' c s).1 j = s.1 j)
    (hst : ∀ c s s', 0 < c → c < ch → seen / 2 ^ c % 2 = 0 → VA ch dp s → (∀ j, j < dp → s'.1 j = s.1 j) → (E1 ch s s' ∨ E2 s s') → E1 ch (st c s) (st' c s')) : ∀ n, n < ch → (E1 ch (rdL st seen n s) (rdL st' seen n s') ∨ E2 (rdL st seen n s) (rdL st' seen n s')) ∧ ((∃ c, c ≤ n ∧ 0 < c ∧ seen / 2 ^ c % 2 = 0) → E1 ch (rdL st seen n s) (rdL st' seen n s'))
  | 0, _ => ⟨h, fun ⟨c, c1, c2, _⟩ => absurd c1 (by omega)⟩
  | n + 1, hn => by
    obtain ⟨a, b⟩ := rdL_e hv he h ho ho' hst n (by omega)
    by_cases q : seen / 2 ^ (n + 1) % 2 = 0
    · rw [rdL_y q, rdL_y q]
      have o := rdL_ord (seen := seen) ho n s
      have o' := rdL_ord (seen := seen) ho' n s'
      have e := hst (n + 1) _ _ (by omega) hn q (VA_cg hv o) (fun j hj => by rw [o j hj, o' j hj]; exact he j hj) a
      exact ⟨Or.inl e, fun _ => e⟩
    · rw [rdL_n q, rdL_n q]
      refine ⟨a, fun ⟨c, c1, c2, c3⟩ => b ⟨c, ?_, c2, c3⟩⟩
      rcases Nat.lt_or_ge c (n + 1) with z | z
      · omega
      · have e : c = n + 1 := by omega
        rw [e] at c3
        exact absurd c3 q
theorem rdS_ord {D : Int32 → Int32 → Int32} {ch f dp seen : Nat} {gone : Int32} (c : Nat) (s : RSt) (j : Nat) (hj : j < dp) : (rdS D (rdF D ch f) dp seen gone c s).1 j = s.1 j := by
  show (rdF D ch f (dp + 1) (seen + 2 ^ c) _ (upI s.1 dp (Int32.ofNat c), s.2)).1 j = s.1 j
  rw [rdF_ord f (dp + 1) _ _ _ j (by omega)]
  show upI s.1 dp (Int32.ofNat c) j = s.1 j
  unfold upI
  rw [if_neg (by omega)]
theorem rdF_e {ch : Nat} {D D' : Int32 → Int32 → Int32} (hD : DB ch D D') (h5 : ch ≤ 5) : ∀ f dp seen gone s s', f + dp = ch → 0 < dp → seen < 2 ^ ch → pc seen = dp → seen % 2 = 1 → VA ch dp s → (∀ j, j < dp → s'.1 j = s.1 j) → 0 ≤ gone.toInt → gone.toInt ≤ 50 * ((dp : Int) - 1) → (E1 ch s s' ∨ E2 s s') → E1 ch (rdF D ch f dp seen gone s) (rdF D' ch f dp seen gone s')
  | 0, dp, seen, gone, s, s', hf, hd, hs, hp, ho, hv, he, g0, g1, h => rdW_e hD h5 hd (by omega) hv he g0 g1 h
  | f + 1, dp, seen, gone, s, s', hf, hd, hs, hp, ho, hv, he, g0, g1, h => by
    obtain ⟨c, c1, c2, c3⟩ := seen_t ch (by omega) seen hs (by omega) ho
    have p64 := p2_5 ch (by omega)
    refine (rdL_e (st := rdS D (rdF D ch f) dp seen gone) (st' := rdS D' (rdF D' ch f) dp seen gone) hv he h rdS_ord rdS_ord (fun c s s' k1 k2 k3 kv ke kh => ?_) (ch - 1) (by omega)).2 ⟨c, by omega, c2, c3⟩
    obtain ⟨b1, b2, b3⟩ := bit_s seen (by omega) c (by omega) k3
    obtain ⟨n, n1, n2⟩ := kv (dp - 1) (by omega)
    obtain ⟨d1, d2, d3⟩ := hD n c n1 k2
    have e' : s'.1 (dp - 1) = Int32.ofNat n := (ke (dp - 1) (by omega)).trans n2
    have w := add_i g0 (by omega) d2 (by omega)
    show E1 ch (rdF D ch f (dp + 1) (seen + 2 ^ c) (gone + D (s.1 (dp - 1)) (Int32.ofNat c)) (upI s.1 dp (Int32.ofNat c), s.2)) (rdF D' ch f (dp + 1) (seen + 2 ^ c) (gone + D' (s'.1 (dp - 1)) (Int32.ofNat c)) (upI s'.1 dp (Int32.ofNat c), s'.2))
    rw [n2, e', d1]
    exact rdF_e hD h5 f (dp + 1) (seen + 2 ^ c) _ _ _ (by omega) (by omega) (bit_l ch (by omega) seen hs c k2 k3) (by omega) (odd_t seen (by omega) c (by omega) k1 ho k3) (VA_up kv k2) (fun j hj => by
      show upI s'.1 dp (Int32.ofNat c) j = upI s.1 dp (Int32.ofNat c) j
      unfold upI
      by_cases q : j = dp
      · rw [if_pos q, if_pos q]
      · rw [if_neg q, if_neg q]
        exact ke j (by omega)) (by omega) (by omega) kh
/-! the class's -/
def roC (M0 M : cm_M) (s : RSt) : Prop := M.2 = M0.2 ∧ (∀ d j, d ≠ 116 → d ≠ 117 → ¬ (d = 115 ∧ j = 2) → M.1 d j = M0.1 d j) ∧ (∀ j, j < 5 → M.1 116 j = s.1 j) ∧ (∀ j, j < 5 → M.1 117 j = s.2.1 j) ∧ M.1 115 2 = s.2.2
theorem roC_o {M0 M : cm_M} {s : RSt} {i : Nat} {x : Int32} (h : roC M0 M s) : roC M0 (cm_wi M 116 i x) (upI s.1 i x, s.2) := by
  obtain ⟨a1, a2, a3, a4, a5⟩ := h
  refine ⟨a1, fun d j b1 b2 b3 => ?_, fun j hj => ?_, fun j hj => ?_, ?_⟩
  · rw [wi_n2 (by omega)]
    exact a2 d j b1 b2 b3
  · show _ = upI s.1 i x j
    unfold upI
    by_cases q : j = i
    · rw [if_pos q, q, wi_at]
    · rw [if_neg q, wi_n2 (by omega)]
      exact a3 j hj
  · rw [wi_n2 (by omega)]
    exact a4 j hj
  · rw [wi_n2 (by omega)]
    exact a5
def TOX (T' ch : Nat) (M : cm_M) : Prop := T' ≤ 19 ∧ ch ≤ 5 ∧ (M.2.2 115 0 = some 116 ∧ M.2.2 115 1 = some 117 ∧ M.2.2 T' 16 = some (T' + 11)) ∧ M.1 T' 15 = Int32.ofNat ch
def DC (T' : Nat) (M : cm_M) (a b : Int32) : Int32 := wayF (M.1 (T' + 11) a.toNatClampNeg - M.1 (T' + 11) b.toNatClampNeg)
set_option maxRecDepth 100000 in
theorem c_weigh {M0 M : cm_M} {T' ch dp : Nat} {s : RSt} (hx : TOX T' ch M0) (hs : roC M0 M s) (hv : VA ch dp s) (hd : 0 < dp) (hdc : dp ≤ ch) (gone : Int32) : cm_Lc cm_ms 52 [.ref 115, .ref T', .int (Int32.ofNat dp), .int gone] M (fun v M' => v = none ∧ roC M0 M' (rdW (DC T' M0) gone dp s)) := by
  have r0 : M.2.2 115 0 = some 116 := by rw [hs.1]; exact hx.2.2.1.1
  have r1 : M.2.2 115 1 = some 117 := by rw [hs.1]; exact hx.2.2.1.2.1
  have h16 : M.2.2 T' 16 = some (T' + 11) := by rw [hs.1]; exact hx.2.2.1.2.2
  have hT := hx.1
  have h5 := hx.2.1
  have k15 : M.1 T' 15 = Int32.ofNat ch := (hs.2.1 T' 15 (by omega) (by omega) (by omega)).trans hx.2.2.2
  have e11 : M.1 (T' + 11) = M0.1 (T' + 11) := funext fun j => hs.2.1 (T' + 11) j (by omega) (by omega) (by omega)
  have ed : (Int32.ofNat dp - 1).toNatClampNeg = dp - 1 := by
    rw [show Int32.ofNat dp - 1 = Int32.ofNat (dp - 1) from acts_m dp (by omega) hd, fn_nat (by omega)]
  have eo : M.1 116 (Int32.ofNat dp - 1).toNatClampNeg = s.1 (dp - 1) := by
    rw [ed]
    exact hs.2.2.1 (dp - 1) (by omega)
  obtain ⟨n, hn, en⟩ := hv (dp - 1) (by omega)
  have hw : cm_Lc cm_ms 21 [.ref T', .int (M.1 116 (Int32.ofNat dp - 1).toNatClampNeg), .int 0] M (fun v M' => M' = M ∧ v = some (.int (DC T' M0 (s.1 (dp - 1)) 0))) := by
    have q := c_way (M := M) (T' := T') (c := Int32.ofNat n) (o := Int32.ofNat 0) h16 (by rw [k15]; exact outB_lt hn (by omega)) (by rw [k15]; exact outB_lt (by omega) (by omega))
    rw [eo, en]
    rw [e11] at q
    exact q
  refine lb_st0 (mi := mr_52) rfl 400 ?_
  first | refine lb_to (T := (3, [(0, .ref 115), (1, .ref T'), (2, .int (Int32.ofNat dp)), (3, .int gone)], [.ref 115, .ref T', .int gone], M)) 3 [0, 1, 2, 3] rfl rfl rfl (fun J' h => h) (lb_g0 rfl rfl r0 ?_) | refine lb_to0 (T := (3, [(0, .ref 115), (1, .ref T'), (2, .int (Int32.ofNat dp)), (3, .int gone)], [.ref 115, .ref T', .int gone], M)) 3 [0, 1, 2, 3] rfl rfl rfl (fun J' h => h) (lb_g0 rfl rfl r0 ?_)
  show ∃ R, cm_Lc cm_ms 21 [.ref T', .int (M.1 116 (((Int32.ofNat dp) - 1).toNatClampNeg)), .int 0] M R ∧ ∀ v M', R v M' → _
  refine ⟨_, hw, ?_⟩
  rintro v Mz ⟨hM, rfl⟩
  subst hM
  show (ev_cmp 3 (gone + (DC T' M0 (s.1 (dp - 1)) 0)) (M.1 115 2) = true → _) ∧ (ev_cmp 3 (gone + (DC T' M0 (s.1 (dp - 1)) 0)) (M.1 115 2) = false → _)
  refine ⟨fun hc => ?_, fun hc => ?_⟩
  · have q := fn_ge hc
    rw [hs.2.2.2.2] at q
    refine ⟨rfl, ?_⟩
    unfold rdW
    rw [if_neg (show ¬ (gone + DC T' M0 (s.1 (dp - 1)) 0).toInt < s.2.2.toInt by omega)]
    exact hs
  · first | refine lb_to (T := (33, [(0, .ref 115), (1, .ref T'), (2, .int (Int32.ofNat dp)), (3, .int gone), (4, .int (gone + (DC T' M0 (s.1 (dp - 1)) 0)))], [.ref 115], cm_wi M 115 2 (gone + (DC T' M0 (s.1 (dp - 1)) 0)))) 33 [0, 1, 2, 3, 4] rfl rfl rfl (fun J' h => h) (lb_g0 rfl rfl r0 ?_) | refine lb_to0 (T := (33, [(0, .ref 115), (1, .ref T'), (2, .int (Int32.ofNat dp)), (3, .int gone), (4, .int (gone + (DC T' M0 (s.1 (dp - 1)) 0)))], [.ref 115], cm_wi M 115 2 (gone + (DC T' M0 (s.1 (dp - 1)) 0)))) 33 [0, 1, 2, 3, 4] rfl rfl rfl (fun J' h => h) (lb_g0 rfl rfl r0 ?_)
    first | refine lb_to (T := (38, [(0, .ref 115), (1, .ref T'), (2, .int (Int32.ofNat dp)), (3, .int gone), (4, .int (gone + (DC T' M0 (s.1 (dp - 1)) 0)))], [.ref 115, .int 0, .ref 116], cm_wi M 115 2 (gone + (DC T' M0 (s.1 (dp - 1)) 0)))) 38 [0, 1, 2, 3, 4] rfl rfl rfl (fun J' h => h) (lb_g0 rfl rfl r1 ?_) | refine lb_to0 (T := (38, [(0, .ref 115), (1, .ref T'), (2, .int (Int32.ofNat dp)), (3, .int gone), (4, .int (gone + (DC T' M0 (s.1 (dp - 1)) 0)))], [.ref 115, .int 0, .ref 116], cm_wi M 115 2 (gone + (DC T' M0 (s.1 (dp - 1)) 0)))) 38 [0, 1, 2, 3, 4] rfl rfl rfl (fun J' h => h) (lb_g0 rfl rfl r1 ?_)
    have q := fn_nge hc
    rw [hs.2.2.2.2] at q
    refine ⟨rfl, ?_⟩
    unfold rdW
    rw [if_pos (show (gone + DC T' M0 (s.1 (dp - 1)) 0).toInt < s.2.2.toInt from q)]
    obtain ⟨a1, a2, a3, a4, a5⟩ := hs
    refine ⟨a1, fun d j b1 b2 b3 => ?_, fun j hj => ?_, fun j hj => ?_, ?_⟩
    · show (cm_cp (cm_wi M 115 2 (gone + (DC T' M0 (s.1 (dp - 1)) 0))) 116 0 117 0 5).1 d j = _
      rw [cp_ne (by omega), wi_n2 b3]
      exact a2 d j b1 b2 b3
    · show (cm_cp (cm_wi M 115 2 (gone + (DC T' M0 (s.1 (dp - 1)) 0))) 116 0 117 0 5).1 116 j = _
      rw [cp_ne (by omega), wi_n2 (by omega)]
      exact a3 j hj
    · show (cm_cp (cm_wi M 115 2 (gone + (DC T' M0 (s.1 (dp - 1)) 0))) 116 0 117 0 5).1 117 j = _
      rw [cp_in (by omega) (by omega), wi_n2 (by omega), Nat.sub_zero, Nat.zero_add]
      exact a3 j hj
    · show (cm_cp (cm_wi M 115 2 (gone + (DC T' M0 (s.1 (dp - 1)) 0))) 116 0 117 0 5).1 115 2 = _
      rw [cp_ne (by omega)]
      exact wi_at _ _ _ _
set_option maxRecDepth 100000 in
theorem c_walk_0 {M0 M : cm_M} {T' ch dp : Nat} {s : RSt} (hx : TOX T' ch M0) (hs : roC M0 M s) (hv : VA ch dp s) (hd : 0 < dp) (hdc : dp ≤ ch) {seen : Nat} (gone : Int32) (he : dp = ch) : cm_Lc cm_ms 51 [.ref 115, .ref T', .int (Int32.ofNat dp), .int (Int32.ofNat seen), .int gone] M (fun v M' => v = none ∧ roC M0 M' (rdW (DC T' M0) gone dp s)) := by
  have r0 : M.2.2 115 0 = some 116 := by rw [hs.1]; exact hx.2.2.1.1
  have r1 : M.2.2 115 1 = some 117 := by rw [hs.1]; exact hx.2.2.1.2.1
  have h16 : M.2.2 T' 16 = some (T' + 11) := by rw [hs.1]; exact hx.2.2.1.2.2
  have hT := hx.1
  have h5 := hx.2.1
  have k15 : M.1 T' 15 = Int32.ofNat ch := (hs.2.1 T' 15 (by omega) (by omega) (by omega)).trans hx.2.2.2
  have e11 : M.1 (T' + 11) = M0.1 (T' + 11) := funext fun j => hs.2.1 (T' + 11) j (by omega) (by omega) (by omega)
  refine lb_st0 (mi := mr_51) rfl 400 ?_
  show (ev_cmp 3 (Int32.ofNat dp) (M.1 T' 15) = true → _) ∧ (ev_cmp 3 (Int32.ofNat dp) (M.1 T' 15) = false → _)
  refine ⟨fun h => ?_, fun h => ?_⟩
  · show ∃ R, cm_Lc cm_ms 52 [.ref 115, .ref T', .int (Int32.ofNat dp), .int gone] M R ∧ ∀ v M', R v M' → _
    refine ⟨_, c_weigh hx hs hv hd hdc gone, ?_⟩
    rintro v Mb ⟨rfl, hr⟩
    exact ⟨rfl, hr⟩
  · have q := fn_nge h
    rw [k15, fn_toInt (by omega), fn_toInt (by omega)] at q
    omega
set_option maxRecDepth 100000 in
theorem c_walk_s {M0 M : cm_M} {T' ch dp : Nat} {s : RSt} (hx : TOX T' ch M0) (hs : roC M0 M s) (hv : VA ch dp s) (hd : 0 < dp) (hdc : dp ≤ ch) {seen : Nat} (gone : Int32) {f : Nat} (hf : f + 1 + dp = ch) (hse : seen < 64) (ih : ∀ (M : cm_M) (s : RSt) (seen : Nat) (gone : Int32), roC M0 M s → VA ch (dp + 1) s → seen < 64 → cm_Lc cm_ms 51 [.ref 115, .ref T', .int (Int32.ofNat (dp + 1)), .int (Int32.ofNat seen), .int gone] M (fun v M' => v = none ∧ roC M0 M' (rdF (DC T' M0) ch f (dp + 1) seen gone s))) : cm_Lc cm_ms 51 [.ref 115, .ref T', .int (Int32.ofNat dp), .int (Int32.ofNat seen), .int gone] M (fun v M' => v = none ∧ roC M0 M' (rdL (rdS (DC T' M0) (rdF (DC T' M0) ch f) dp seen gone) seen (ch - 1) s)) := by
  have r0 : M.2.2 115 0 = some 116 := by rw [hs.1]; exact hx.2.2.1.1
  have r1 : M.2.2 115 1 = some 117 := by rw [hs.1]; exact hx.2.2.1.2.1
  have h16 : M.2.2 T' 16 = some (T' + 11) := by rw [hs.1]; exact hx.2.2.1.2.2
  have hT := hx.1
  have h5 := hx.2.1
  have k15 : M.1 T' 15 = Int32.ofNat ch := (hs.2.1 T' 15 (by omega) (by omega) (by omega)).trans hx.2.2.2
  have e11 : M.1 (T' + 11) = M0.1 (T' + 11) := funext fun j => hs.2.1 (T' + 11) j (by omega) (by omega) (by omega)
  have z5 : (5 : Int32) = Int32.ofNat 5 := rfl
  refine lb_of (mi := mr_51) rfl [(25, [0, 1, 2, 3, 4, 5])] (fun S => ∃ c M1, c + 1 ≤ ch ∧ roC M0 M1 (rdL (rdS (DC T' M0) (rdF (DC T' M0) ch f) dp seen gone) seen c s) ∧ S = (25, [(0, .ref 115), (1, .ref T'), (2, .int (Int32.ofNat dp)), (3, .int (Int32.ofNat seen)), (4, .int gone), (5, .int (Int32.ofNat (c + 1)))], [], M1)) 400 (fun S hS => ?_) 400 ?_
  · obtain ⟨c, M1, hcl, hs, rfl⟩ := hS
    have r0 : M1.2.2 115 0 = some 116 := by rw [hs.1]; exact hx.2.2.1.1
    have r1 : M1.2.2 115 1 = some 117 := by rw [hs.1]; exact hx.2.2.1.2.1
    have h16 : M1.2.2 T' 16 = some (T' + 11) := by rw [hs.1]; exact hx.2.2.1.2.2
    have hT := hx.1
    have h5 := hx.2.1
    have k15 : M1.1 T' 15 = Int32.ofNat ch := (hs.2.1 T' 15 (by omega) (by omega) (by omega)).trans hx.2.2.2
    have e11 : M1.1 (T' + 11) = M0.1 (T' + 11) := funext fun j => hs.2.1 (T' + 11) j (by omega) (by omega) (by omega)
    have ord := rdL_ord (step := (rdS (DC T' M0) (rdF (DC T' M0) ch f) dp seen gone)) (seen := seen) rdS_ord c s
    have hv1 := VA_cg hv ord
    show (ev_cmp 3 (Int32.ofNat (c + 1)) (M1.1 T' 15) = true → _) ∧ (ev_cmp 3 (Int32.ofNat (c + 1)) (M1.1 T' 15) = false → _)
    refine ⟨fun hL => ?_, fun hL => ?_⟩
    · have q := fn_ge hL
      rw [k15, fn_toInt (by omega), fn_toInt (by omega)] at q
      have e : c = ch - 1 := by omega
      subst e
      exact ⟨rfl, hs⟩
    · have q := fn_nge hL
      rw [k15, fn_toInt (by omega), fn_toInt (by omega)] at q
      show (ev_cmp 1 (((Int32.ofNat seen) >>> ((Int32.ofNat (c + 1)) &&& 31)) &&& 1) 0 = true → _) ∧ (ev_cmp 1 (((Int32.ofNat seen) >>> ((Int32.ofNat (c + 1)) &&& 31)) &&& 1) 0 = false → _)
      refine ⟨fun hLf => ?_, fun hLf => ?_⟩
      · show (fun (S : cm_S) => ∃ c M1, c + 1 ≤ ch ∧ roC M0 M1 (rdL (rdS (DC T' M0) (rdF (DC T' M0) ch f) dp seen gone) seen c s) ∧ S = (25, [(0, .ref 115), (1, .ref T'), (2, .int (Int32.ofNat dp)), (3, .int (Int32.ofNat seen)), (4, .int gone), (5, .int (Int32.ofNat (c + 1)))], [], M1)) (25, [(0, .ref 115), (1, .ref T'), (2, .int (Int32.ofNat dp)), (3, .int (Int32.ofNat seen)), (4, .int gone), (5, .int ((Int32.ofNat (c + 1)) + 1))], [], M1)
        have z := fn_ne hLf
        have z2 : ¬ seen / 2 ^ (c + 1) % 2 = 0 := fun w => z ((bit_t seen hse (c + 1) (by omega)).mpr w)
        exact ⟨c + 1, M1, by omega, by rw [rdL_n z2]; exact hs, by rw [ofn_s1]⟩
      · have hbit := (bit_t seen hse (c + 1) (by omega)).mp (fn_eq hLf)
        first | refine lb_to (T := (44, [(0, .ref 115), (1, .ref T'), (2, .int (Int32.ofNat dp)), (3, .int (Int32.ofNat seen)), (4, .int gone), (5, .int (Int32.ofNat (c + 1)))], [.ref 115], M1)) 44 [0, 1, 2, 3, 4, 5] rfl rfl rfl (fun J' h => h) (lb_g0 rfl rfl r0 ?_) | refine lb_to0 (T := (44, [(0, .ref 115), (1, .ref T'), (2, .int (Int32.ofNat dp)), (3, .int (Int32.ofNat seen)), (4, .int gone), (5, .int (Int32.ofNat (c + 1)))], [.ref 115], M1)) 44 [0, 1, 2, 3, 4, 5] rfl rfl rfl (fun J' h => h) (lb_g0 rfl rfl r0 ?_)
        first | refine lb_to (T := (66, [(0, .ref 115), (1, .ref T'), (2, .int (Int32.ofNat dp)), (3, .int (Int32.ofNat seen)), (4, .int gone), (5, .int (Int32.ofNat (c + 1)))], [.ref 115, .ref T', .int gone, .int ((Int32.ofNat seen) ||| (1 <<< ((Int32.ofNat (c + 1)) &&& 31))), .int ((Int32.ofNat dp) + 1), .ref T', .ref 115], cm_wi M1 116 ((Int32.ofNat dp).toNatClampNeg) (Int32.ofNat (c + 1)))) 66 [0, 1, 2, 3, 4, 5] rfl rfl rfl (fun J' h => h) (lb_g0 rfl rfl r0 ?_) | refine lb_to0 (T := (66, [(0, .ref 115), (1, .ref T'), (2, .int (Int32.ofNat dp)), (3, .int (Int32.ofNat seen)), (4, .int gone), (5, .int (Int32.ofNat (c + 1)))], [.ref 115, .ref T', .int gone, .int ((Int32.ofNat seen) ||| (1 <<< ((Int32.ofNat (c + 1)) &&& 31))), .int ((Int32.ofNat dp) + 1), .ref T', .ref 115], cm_wi M1 116 ((Int32.ofNat dp).toNatClampNeg) (Int32.ofNat (c + 1)))) 66 [0, 1, 2, 3, 4, 5] rfl rfl rfl (fun J' h => h) (lb_g0 rfl rfl r0 ?_)
        show ∃ R, cm_Lc cm_ms 21 [.ref T', .int ((cm_wi M1 116 ((Int32.ofNat dp).toNatClampNeg) (Int32.ofNat (c + 1))).1 116 (((Int32.ofNat dp) - 1).toNatClampNeg)), .int (Int32.ofNat (c + 1))] (cm_wi M1 116 ((Int32.ofNat dp).toNatClampNeg) (Int32.ofNat (c + 1))) R ∧ ∀ v M', R v M' → _
        have ed : (Int32.ofNat dp - 1).toNatClampNeg = dp - 1 := by
          rw [show Int32.ofNat dp - 1 = Int32.ofNat (dp - 1) from acts_m dp (by omega) hd, fn_nat (by omega)]
        have eo : (cm_wi M1 116 ((Int32.ofNat dp).toNatClampNeg) (Int32.ofNat (c + 1))).1 116 ((Int32.ofNat dp - 1).toNatClampNeg) = (rdL (rdS (DC T' M0) (rdF (DC T' M0) ch f) dp seen gone) seen c s).1 (dp - 1) := by
          rw [ed, fn_nat (show dp < 2147483648 by omega), wi_n2 (by omega)]
          exact hs.2.2.1 (dp - 1) (by omega)
        obtain ⟨n, hn, en⟩ := hv1 (dp - 1) (by omega)
        have hw : cm_Lc cm_ms 21 [.ref T', .int ((cm_wi M1 116 ((Int32.ofNat dp).toNatClampNeg) (Int32.ofNat (c + 1))).1 116 ((Int32.ofNat dp - 1).toNatClampNeg)), .int (Int32.ofNat (c + 1))] (cm_wi M1 116 ((Int32.ofNat dp).toNatClampNeg) (Int32.ofNat (c + 1))) (fun v M' => M' = (cm_wi M1 116 ((Int32.ofNat dp).toNatClampNeg) (Int32.ofNat (c + 1))) ∧ v = some (.int (DC T' M0 ((rdL (rdS (DC T' M0) (rdF (DC T' M0) ch f) dp seen gone) seen c s).1 (dp - 1)) (Int32.ofNat (c + 1))))) := by
          have e2 : ∀ d j, d ≠ 116 → (cm_wi M1 116 ((Int32.ofNat dp).toNatClampNeg) (Int32.ofNat (c + 1))).1 d j = M1.1 d j := fun d j q => wi_n2 (by omega)
          have q := c_way (M := cm_wi M1 116 ((Int32.ofNat dp).toNatClampNeg) (Int32.ofNat (c + 1))) (T' := T') (c := Int32.ofNat n) (o := Int32.ofNat (c + 1)) h16 (by rw [e2 _ _ (by omega), k15]; exact outB_lt hn (by omega)) (by rw [e2 _ _ (by omega), k15]; exact outB_lt (by omega) (by omega))
          rw [eo, en]
          rw [e2 _ _ (by omega), e2 _ _ (by omega), e11] at q
          exact q
        refine ⟨_, hw, ?_⟩
        rintro v Mz ⟨hM, rfl⟩
        subst hM
        show ∃ R, cm_Lc cm_ms 51 [.ref 115, .ref T', .int ((Int32.ofNat dp) + 1), .int ((Int32.ofNat seen) ||| (1 <<< ((Int32.ofNat (c + 1)) &&& 31))), .int (gone + (DC T' M0 ((rdL (rdS (DC T' M0) (rdF (DC T' M0) ch f) dp seen gone) seen c s).1 (dp - 1)) (Int32.ofNat (c + 1))))] (cm_wi M1 116 ((Int32.ofNat dp).toNatClampNeg) (Int32.ofNat (c + 1))) R ∧ ∀ v M', R v M' → _
        have hrec : cm_Lc cm_ms 51 [.ref 115, .ref T', .int (Int32.ofNat dp + 1), .int (Int32.ofNat seen ||| (1 <<< (Int32.ofNat (c + 1) &&& 31))), .int (gone + DC T' M0 ((rdL (rdS (DC T' M0) (rdF (DC T' M0) ch f) dp seen gone) seen c s).1 (dp - 1)) (Int32.ofNat (c + 1)))] (cm_wi M1 116 ((Int32.ofNat dp).toNatClampNeg) (Int32.ofNat (c + 1))) (fun v M' => v = none ∧ roC M0 M' ((rdS (DC T' M0) (rdF (DC T' M0) ch f) dp seen gone) (c + 1) (rdL (rdS (DC T' M0) (rdF (DC T' M0) ch f) dp seen gone) seen c s))) := by
          rw [fn_nat (show dp < 2147483648 by omega), ofn_s1 dp, (bit_s seen hse (c + 1) (by omega) hbit).1]
          exact ih _ _ _ _ (roC_o hs) (VA_up hv1 (show c + 1 < ch by omega)) (bit_s seen hse (c + 1) (by omega) hbit).2.2
        refine ⟨_, hrec, ?_⟩
        rintro v Mb ⟨rfl, hr⟩
        show (fun (S : cm_S) => ∃ c M1, c + 1 ≤ ch ∧ roC M0 M1 (rdL (rdS (DC T' M0) (rdF (DC T' M0) ch f) dp seen gone) seen c s) ∧ S = (25, [(0, .ref 115), (1, .ref T'), (2, .int (Int32.ofNat dp)), (3, .int (Int32.ofNat seen)), (4, .int gone), (5, .int (Int32.ofNat (c + 1)))], [], M1)) (25, [(0, .ref 115), (1, .ref T'), (2, .int (Int32.ofNat dp)), (3, .int (Int32.ofNat seen)), (4, .int gone), (5, .int ((Int32.ofNat (c + 1)) + 1))], [], Mb)
        exact ⟨c + 1, Mb, by omega, by rw [rdL_y hbit]; exact hr, by rw [ofn_s1]⟩
  · show (ev_cmp 3 (Int32.ofNat dp) (M.1 T' 15) = true → _) ∧ (ev_cmp 3 (Int32.ofNat dp) (M.1 T' 15) = false → _)
    refine ⟨fun h => ?_, fun h => ?_⟩
    · have q := fn_ge h
      rw [k15, fn_toInt (by omega), fn_toInt (by omega)] at q
      omega
    · show (ev_cmp 2 (Int32.ofNat dp) 5 = true → _) ∧ (ev_cmp 2 (Int32.ofNat dp) 5 = false → _)
      refine ⟨fun hf => ?_, fun hf => ?_⟩
      · show (fun (S : cm_S) => ∃ c M1, c + 1 ≤ ch ∧ roC M0 M1 (rdL (rdS (DC T' M0) (rdF (DC T' M0) ch f) dp seen gone) seen c s) ∧ S = (25, [(0, .ref 115), (1, .ref T'), (2, .int (Int32.ofNat dp)), (3, .int (Int32.ofNat seen)), (4, .int gone), (5, .int (Int32.ofNat (c + 1)))], [], M1)) (25, [(0, .ref 115), (1, .ref T'), (2, .int (Int32.ofNat dp)), (3, .int (Int32.ofNat seen)), (4, .int gone), (5, .int 1)], [], M)
        exact ⟨0, M, by omega, hs, rfl⟩
      · have q := fn_nlt hf
        rw [z5, fn_toInt (by omega), fn_toInt (by omega)] at q
        omega
theorem c_walk {M0 : cm_M} {T' ch : Nat} (hx : TOX T' ch M0) : ∀ f dp (M : cm_M) (s : RSt) (seen : Nat) (gone : Int32), f + dp = ch → 0 < dp → roC M0 M s → VA ch dp s → seen < 64 → cm_Lc cm_ms 51 [.ref 115, .ref T', .int (Int32.ofNat dp), .int (Int32.ofNat seen), .int gone] M (fun v M' => v = none ∧ roC M0 M' (rdF (DC T' M0) ch f dp seen gone s))
  | 0, dp, M, s, seen, gone, hf, hd, hs, hv, hse => c_walk_0 hx hs hv hd (by omega) gone (by omega)
  | f + 1, dp, M, s, seen, gone, hf, hd, hs, hv, hse => c_walk_s hx hs hv hd (by omega) gone hf hse (fun M s seen gone h1 h2 h3 => c_walk hx f (dp + 1) M s seen gone (by omega) (by omega) h1 h2 h3)
/-- where the order begins -/
def rd0 (f g : Nat → Int32) (x : Int32) : RSt := (upI f 0 0, g, x)
set_option maxRecDepth 100000 in
theorem c_tfind {M : cm_M} {T' ch : Nat} (hx : TOX T' ch M) (h0 : 0 < ch) : cm_Lc cm_ms 50 [.ref 115, .ref T'] M (fun v M' => v = none ∧ roC M M' (rdF (DC T' M) ch (ch - 1) 1 1 0 (rd0 (M.1 116) (M.1 117) 500))) := by
  have r0 := hx.2.2.1.1
  have hT := hx.1
  have h5 := hx.2.1
  have z0 : (0 : Int32).toInt = 0 := by decide
  have k15 : ∀ x, (cm_wi M 115 2 x).1 T' 15 = Int32.ofNat ch := fun x => (wi_n2 (by omega)).trans hx.2.2.2
  refine lb_st0 (mi := mr_50) rfl 400 ?_
  show (ev_cmp 5 ((cm_wi M 115 2 0).1 T' 15) 0 = true → _) ∧ (ev_cmp 5 ((cm_wi M 115 2 0).1 T' 15) 0 = false → _)
  refine ⟨fun h => ?_, fun h => ?_⟩
  · have q := fn_le h
    rw [k15, z0, fn_toInt (by omega)] at q
    omega
  · first | refine lb_to (T := (20, [(0, .ref 115), (1, .ref T')], [.ref 115], cm_wi (cm_wi M 115 2 0) 115 2 500)) 20 [0, 1] rfl rfl rfl (fun J' h => h) (lb_g0 rfl rfl r0 ?_) | refine lb_to0 (T := (20, [(0, .ref 115), (1, .ref T')], [.ref 115], cm_wi (cm_wi M 115 2 0) 115 2 500)) 20 [0, 1] rfl rfl rfl (fun J' h => h) (lb_g0 rfl rfl r0 ?_)
    show ∃ R, cm_Lc cm_ms 51 [.ref 115, .ref T', .int 1, .int 1, .int 0] (cm_wi (cm_wi (cm_wi M 115 2 0) 115 2 500) 116 0 0) R ∧ ∀ v M', R v M' → _
    have hst : roC M (cm_wi (cm_wi (cm_wi M 115 2 0) 115 2 500) 116 0 0) (rd0 (M.1 116) (M.1 117) 500) := by
      refine ⟨rfl, fun d j b1 b2 b3 => ?_, fun j hj => ?_, fun j hj => ?_, ?_⟩
      · rw [wi_n2 (by omega), wi_n2 b3, wi_n2 b3]
      · show _ = upI (M.1 116) 0 0 j
        unfold upI
        by_cases q : j = 0
        · rw [if_pos q, q, wi_at]
        · rw [if_neg q, wi_n2 (by omega), wi_n2 (by omega), wi_n2 (by omega)]
      · rw [wi_n2 (by omega), wi_n2 (by omega), wi_n2 (by omega)]
        rfl
      · rw [wi_n2 (by omega)]
        exact wi_at _ _ _ _
    have hw := c_walk hx (ch - 1) 1 _ _ 1 0 (by omega) (by omega) hst (fun j hj => ⟨0, h0, by
      have e : j = 0 := by omega
      subst e
      rfl⟩) (by omega)
    refine ⟨_, hw, ?_⟩
    rintro v Mb ⟨rfl, hr⟩
    exact ⟨rfl, hr⟩
theorem c_tfind_0 {M : cm_M} {T' ch : Nat} (hx : TOX T' ch M) (h0 : ch = 0) : cm_Lc cm_ms 50 [.ref 115, .ref T'] M (fun v M' => v = none ∧ M' = cm_wi M 115 2 0) := by
  have hT := hx.1
  have z0 : (0 : Int32).toInt = 0 := by decide
  have k15 : ∀ x, (cm_wi M 115 2 x).1 T' 15 = Int32.ofNat ch := fun x => (wi_n2 (by omega)).trans hx.2.2.2
  refine lb_st0 (mi := mr_50) rfl 400 ?_
  show (ev_cmp 5 ((cm_wi M 115 2 0).1 T' 15) 0 = true → _) ∧ (ev_cmp 5 ((cm_wi M 115 2 0).1 T' 15) 0 = false → _)
  refine ⟨fun h => ?_, fun h => ?_⟩
  · exact ⟨rfl, rfl⟩
  · have q := fn_nle h
    rw [k15, z0, h0, fn_toInt (by omega)] at q
    omega
theorem c_round_no {M : cm_M} {T' me mo : Nat} (hx : CTX T' me mo M) (h0 : me = 0) : cm_Lc cm_ms 129 [.ref 0] M (fun v _ => v = some (.int (-1))) := by
  have hl := c_noTown hx.2.1.1
  rw [hx.2.2.2.2.1.1, h0, show decide (Int32.ofNat 0 = 0) = true from rfl] at hl
  refine lb_st0 (mi := mr_129) rfl 400 ?_
  show ∃ R, cm_Lc cm_ms 160 [.ref 0] M R ∧ ∀ v M', R v M' → _
  refine ⟨_, hl, ?_⟩
  rintro v M' ⟨hM, rfl⟩
  subst M'
  show (ev_cmp 0 (bi true) 0 = true → _) ∧ (ev_cmp 0 (bi true) 0 = false → _)
  refine ⟨fun hc => ?_, fun hc => ?_⟩
  · exact absurd hc (by decide)
  · show ∃ R, cm_Lc cm_ms 157 [.ref 0, .int 1] M R ∧ ∀ v M', R v M' → _
    refine ⟨_, c_refused 1 M, ?_⟩
    rintro v M' ⟨hM, rfl⟩
    subst M'
    exact rfl
set_option maxRecDepth 100000 in
theorem c_round_k {M : cm_M} {T' me mo : Nat} (hx : CTX T' me mo M) {ch : Nat} (ht : TOX T' ch M) (h9 : M.2.2 0 9 = some 115) (h0 : 0 < me) (hch : 0 < ch) : cm_Lc cm_ms 129 [.ref 0] M (fun v _ => v = some (.int ((rdF (DC T' M) ch (ch - 1) 1 1 0 (rd0 (M.1 116) (M.1 117) 500)).2.2))) := by
  have r3 := hx.2.1.1
  have r9 := h9
  have hme6 := hx.2.2.2.2.2.1
  have hmo5 := hx.2.2.2.2.2.2
  have hl := c_noTown hx.2.1.1
  rw [hx.2.2.2.2.1.1, decide_eq_false (show ¬ Int32.ofNat me = 0 from fun q => by
    rw [ofn_0 (by omega)] at q
    omega)] at hl
  refine lb_st0 (mi := mr_129) rfl 400 ?_
  show ∃ R, cm_Lc cm_ms 160 [.ref 0] M R ∧ ∀ v M', R v M' → _
  refine ⟨_, hl, ?_⟩
  rintro v M' ⟨hM, rfl⟩
  subst M'
  show (ev_cmp 0 (bi false) 0 = true → _) ∧ (ev_cmp 0 (bi false) 0 = false → _)
  refine ⟨fun hc => ?_, fun hc => ?_⟩
  · first | refine lb_to (T := (14, [(0, .ref 0)], [.ref 0], M)) 14 [0] rfl rfl rfl (fun J' h => h) (lb_g0 rfl rfl r9 ?_) | refine lb_to0 (T := (14, [(0, .ref 0)], [.ref 0], M)) 14 [0] rfl rfl rfl (fun J' h => h) (lb_g0 rfl rfl r9 ?_)
    first | refine lb_to (T := (18, [(0, .ref 0)], [.ref 0, .ref 115], M)) 18 [0] rfl rfl rfl (fun J' h => h) (lb_g0 rfl rfl r3 ?_) | refine lb_to0 (T := (18, [(0, .ref 0)], [.ref 0, .ref 115], M)) 18 [0] rfl rfl rfl (fun J' h => h) (lb_g0 rfl rfl r3 ?_)
    show ∃ R, cm_Lc cm_ms 50 [.ref 115, .ref T'] M R ∧ ∀ v M', R v M' → _
    refine ⟨_, c_tfind ht hch, ?_⟩
    rintro v Mb ⟨rfl, hs⟩
    have r9 : Mb.2.2 0 9 = some 115 := by rw [hs.1]; exact h9
    first | refine lb_to (T := (26, [(0, .ref 0)], [.ref 0, .ref 0], Mb)) 26 [0] rfl rfl rfl (fun J' h => h) (lb_g0 rfl rfl r9 ?_) | refine lb_to0 (T := (26, [(0, .ref 0)], [.ref 0, .ref 0], Mb)) 26 [0] rfl rfl rfl (fun J' h => h) (lb_g0 rfl rfl r9 ?_)
    show ∃ R, cm_Lc cm_ms 159 [.ref 0, .int (Mb.1 115 2)] Mb R ∧ ∀ v M', R v M' → _
    refine ⟨_, c_granted _ _, ?_⟩
    rintro v Mc ⟨hG, rfl⟩
    exact congrArg (fun b => some (Value.int b)) hs.2.2.2.2
  · exact absurd hc (by decide)
set_option maxRecDepth 100000 in
theorem c_round_0 {M : cm_M} {T' me mo : Nat} (hx : CTX T' me mo M) {ch : Nat} (ht : TOX T' ch M) (h9 : M.2.2 0 9 = some 115) (h0 : 0 < me) (hch : ch = 0) : cm_Lc cm_ms 129 [.ref 0] M (fun v _ => v = some (.int (0))) := by
  have r3 := hx.2.1.1
  have r9 := h9
  have hme6 := hx.2.2.2.2.2.1
  have hmo5 := hx.2.2.2.2.2.2
  have hl := c_noTown hx.2.1.1
  rw [hx.2.2.2.2.1.1, decide_eq_false (show ¬ Int32.ofNat me = 0 from fun q => by
    rw [ofn_0 (by omega)] at q
    omega)] at hl
  refine lb_st0 (mi := mr_129) rfl 400 ?_
  show ∃ R, cm_Lc cm_ms 160 [.ref 0] M R ∧ ∀ v M', R v M' → _
  refine ⟨_, hl, ?_⟩
  rintro v M' ⟨hM, rfl⟩
  subst M'
  show (ev_cmp 0 (bi false) 0 = true → _) ∧ (ev_cmp 0 (bi false) 0 = false → _)
  refine ⟨fun hc => ?_, fun hc => ?_⟩
  · first | refine lb_to (T := (14, [(0, .ref 0)], [.ref 0], M)) 14 [0] rfl rfl rfl (fun J' h => h) (lb_g0 rfl rfl r9 ?_) | refine lb_to0 (T := (14, [(0, .ref 0)], [.ref 0], M)) 14 [0] rfl rfl rfl (fun J' h => h) (lb_g0 rfl rfl r9 ?_)
    first | refine lb_to (T := (18, [(0, .ref 0)], [.ref 0, .ref 115], M)) 18 [0] rfl rfl rfl (fun J' h => h) (lb_g0 rfl rfl r3 ?_) | refine lb_to0 (T := (18, [(0, .ref 0)], [.ref 0, .ref 115], M)) 18 [0] rfl rfl rfl (fun J' h => h) (lb_g0 rfl rfl r3 ?_)
    show ∃ R, cm_Lc cm_ms 50 [.ref 115, .ref T'] M R ∧ ∀ v M', R v M' → _
    refine ⟨_, c_tfind_0 ht hch, ?_⟩
    rintro v Mb ⟨rfl, hM⟩
    have r9 : Mb.2.2 0 9 = some 115 := by rw [hM]; exact h9
    first | refine lb_to (T := (26, [(0, .ref 0)], [.ref 0, .ref 0], Mb)) 26 [0] rfl rfl rfl (fun J' h => h) (lb_g0 rfl rfl r9 ?_) | refine lb_to0 (T := (26, [(0, .ref 0)], [.ref 0, .ref 0], Mb)) 26 [0] rfl rfl rfl (fun J' h => h) (lb_g0 rfl rfl r9 ?_)
    show ∃ R, cm_Lc cm_ms 159 [.ref 0, .int (Mb.1 115 2)] Mb R ∧ ∀ v M', R v M' → _
    refine ⟨_, c_granted _ _, ?_⟩
    rintro v Mc ⟨hG, rfl⟩
    show some (Value.int (Mb.1 115 2)) = _
    rw [hM, wi_at]
  · exact absurd hc (by decide)
theorem c_roundAt_out {M : cm_M} {T' me mo : Nat} (hx : CTX T' me mo M) {ch : Nat} (ht : TOX T' ch M) (h9 : M.2.2 0 9 = some 115) (h15 : M.1 T' 15 = Int32.ofNat ch) (x : Int32) (ho : outB x (Int32.ofNat ch) = true) : cm_Lc cm_ms 130 [.ref 0, .int x] M (fun v _ => v = some (.int (-1))) := by
  have hl := c_lacksChair hx.2.1.1 x
  rw [h15, ho] at hl
  refine lb_st0 (mi := mr_130) rfl 400 ?_
  show ∃ R, cm_Lc cm_ms 163 [.ref 0, .int x] M R ∧ ∀ v M', R v M' → _
  refine ⟨_, hl, ?_⟩
  rintro v M' ⟨hM, rfl⟩
  subst M'
  show (ev_cmp 0 (bi true) 0 = true → _) ∧ (ev_cmp 0 (bi true) 0 = false → _)
  refine ⟨fun hc => ?_, fun hc => ?_⟩
  · exact absurd hc (by decide)
  · show ∃ R, cm_Lc cm_ms 157 [.ref 0, .int 1] M R ∧ ∀ v M', R v M' → _
    refine ⟨_, c_refused 1 M, ?_⟩
    rintro v M' ⟨hM, rfl⟩
    subst M'
    exact rfl
set_option maxRecDepth 100000 in
theorem c_roundAt_k {M : cm_M} {T' me mo : Nat} (hx : CTX T' me mo M) {ch : Nat} (ht : TOX T' ch M) (h9 : M.2.2 0 9 = some 115) (h15 : M.1 T' 15 = Int32.ofNat ch) {i : Nat} (hi : i < ch) : cm_Lc cm_ms 130 [.ref 0, .int (Int32.ofNat i)] M (fun v _ => v = some (.int ((rdF (DC T' M) ch (ch - 1) 1 1 0 (rd0 (M.1 116) (M.1 117) 500)).2.1 i))) := by
  have r3 := hx.2.1.1
  have r9 := h9
  have h5 := ht.2.1
  have hl := c_lacksChair hx.2.1.1 (Int32.ofNat i)
  rw [h15, outB_lt hi (by omega)] at hl
  refine lb_st0 (mi := mr_130) rfl 400 ?_
  show ∃ R, cm_Lc cm_ms 163 [.ref 0, .int (Int32.ofNat i)] M R ∧ ∀ v M', R v M' → _
  refine ⟨_, hl, ?_⟩
  rintro v M' ⟨hM, rfl⟩
  subst M'
  show (ev_cmp 0 (bi false) 0 = true → _) ∧ (ev_cmp 0 (bi false) 0 = false → _)
  refine ⟨fun hc => ?_, fun hc => ?_⟩
  · first | refine lb_to (T := (15, [(0, .ref 0), (1, .int (Int32.ofNat i))], [.ref 0], M)) 15 [0, 1] rfl rfl rfl (fun J' h => h) (lb_g0 rfl rfl r9 ?_) | refine lb_to0 (T := (15, [(0, .ref 0), (1, .int (Int32.ofNat i))], [.ref 0], M)) 15 [0, 1] rfl rfl rfl (fun J' h => h) (lb_g0 rfl rfl r9 ?_)
    first | refine lb_to (T := (19, [(0, .ref 0), (1, .int (Int32.ofNat i))], [.ref 0, .ref 115], M)) 19 [0, 1] rfl rfl rfl (fun J' h => h) (lb_g0 rfl rfl r3 ?_) | refine lb_to0 (T := (19, [(0, .ref 0), (1, .int (Int32.ofNat i))], [.ref 0, .ref 115], M)) 19 [0, 1] rfl rfl rfl (fun J' h => h) (lb_g0 rfl rfl r3 ?_)
    show ∃ R, cm_Lc cm_ms 50 [.ref 115, .ref T'] M R ∧ ∀ v M', R v M' → _
    refine ⟨_, c_tfind ht (by omega), ?_⟩
    rintro v Mb ⟨rfl, hs⟩
    have r9 : Mb.2.2 0 9 = some 115 := by rw [hs.1]; exact h9
    have r1 : Mb.2.2 115 1 = some 117 := by rw [hs.1]; exact ht.2.2.1.2.1
    first | refine lb_to (T := (27, [(0, .ref 0), (1, .int (Int32.ofNat i))], [.ref 0, .ref 0], Mb)) 27 [0, 1] rfl rfl rfl (fun J' h => h) (lb_g0 rfl rfl r9 ?_) | refine lb_to0 (T := (27, [(0, .ref 0), (1, .int (Int32.ofNat i))], [.ref 0, .ref 0], Mb)) 27 [0, 1] rfl rfl rfl (fun J' h => h) (lb_g0 rfl rfl r9 ?_)
    first | refine lb_to (T := (30, [(0, .ref 0), (1, .int (Int32.ofNat i))], [.ref 115, .ref 0], Mb)) 30 [0, 1] rfl rfl rfl (fun J' h => h) (lb_g0 rfl rfl r1 ?_) | refine lb_to0 (T := (30, [(0, .ref 0), (1, .int (Int32.ofNat i))], [.ref 115, .ref 0], Mb)) 30 [0, 1] rfl rfl rfl (fun J' h => h) (lb_g0 rfl rfl r1 ?_)
    show ∃ R, cm_Lc cm_ms 159 [.ref 0, .int (Mb.1 117 ((Int32.ofNat i).toNatClampNeg))] Mb R ∧ ∀ v M', R v M' → _
    refine ⟨_, c_granted _ _, ?_⟩
    rintro v Mc ⟨hG, rfl⟩
    show some (Value.int (Mb.1 117 (Int32.ofNat i).toNatClampNeg)) = _
    rw [fn_nat (show i < 2147483648 by omega)]
    exact congrArg (fun b => some (Value.int b)) (hs.2.2.2.1 i (by omega))
  · exact absurd hc (by decide)
/-! the reference's -/
def roM (M0 M : cm_M) (s : RSt) : Prop := M.2 = M0.2 ∧ (∀ d j, d ≠ 133 → d ≠ 134 → ¬ (d = 124 ∧ j = 25) → M.1 d j = M0.1 d j) ∧ (∀ j, j < 5 → M.1 133 j = s.1 j) ∧ (∀ j, j < 5 → M.1 134 j = s.2.1 j) ∧ M.1 124 25 = s.2.2
theorem roM_o {M0 M : cm_M} {s : RSt} {i : Nat} {x : Int32} (h : roM M0 M s) : roM M0 (cm_wi M 133 i x) (upI s.1 i x, s.2) := by
  obtain ⟨a1, a2, a3, a4, a5⟩ := h
  refine ⟨a1, fun d j b1 b2 b3 => ?_, fun j hj => ?_, fun j hj => ?_, ?_⟩
  · rw [wi_n2 (by omega)]
    exact a2 d j b1 b2 b3
  · show _ = upI s.1 i x j
    unfold upI
    by_cases q : j = i
    · rw [if_pos q, q, wi_at]
    · rw [if_neg q, wi_n2 (by omega)]
      exact a3 j hj
  · rw [wi_n2 (by omega)]
    exact a4 j hj
  · rw [wi_n2 (by omega)]
    exact a5
def TMX (ch : Nat) (M : cm_M) : Prop := ch ≤ 5 ∧ (M.2.2 124 15 = some 127 ∧ M.2.2 124 23 = some 133 ∧ M.2.2 124 24 = some 134) ∧ M.1 127 8 = Int32.ofNat ch
def DM (M : cm_M) (a b : Int32) : Int32 := wayM (M.1 127 (61 + a).toNatClampNeg - M.1 127 (61 + b).toNatClampNeg)
/-- a whole order of the reference, weighed -/
def rdV (D : Int32 → Int32 → Int32) (gone : Int32) (dp : Nat) (s : RSt) : RSt := if (gone + D (s.1 (dp - 1)) (s.1 0)).toInt < s.2.2.toInt then (s.1, s.1, gone + D (s.1 (dp - 1)) (s.1 0)) else s
theorem rdV_W {D : Int32 → Int32 → Int32} {gone : Int32} {dp : Nat} {s : RSt} (h : s.1 0 = 0) : rdV D gone dp s = rdW D gone dp s := by
  unfold rdV rdW
  rw [h]
set_option maxRecDepth 100000 in
theorem m_try_0 {M0 M : cm_M} {ch dp : Nat} {s : RSt} (hx : TMX ch M0) (hs : roM M0 M s) (hd : 0 < dp) (hdc : dp ≤ ch) {seen : Nat} (gone : Int32) (he : dp = ch) : cm_Lc cm_ms 261 [.ref 124, .int (Int32.ofNat dp), .int (Int32.ofNat seen), .int gone] M (fun v M' => v = none ∧ roM M0 M' (rdV (DM M0) gone dp s)) := by
  have h15 : M.2.2 124 15 = some 127 := by rw [hs.1]; exact hx.2.1.1
  have h23 : M.2.2 124 23 = some 133 := by rw [hs.1]; exact hx.2.1.2.1
  have h24 : M.2.2 124 24 = some 134 := by rw [hs.1]; exact hx.2.1.2.2
  have h5 := hx.1
  have k8 : M.1 127 8 = Int32.ofNat ch := (hs.2.1 127 8 (by omega) (by omega) (by omega)).trans hx.2.2
  have e127 : M.1 127 = M0.1 127 := funext fun j => hs.2.1 127 j (by omega) (by omega) (by omega)
  have ed : (Int32.ofNat dp - 1).toNatClampNeg = dp - 1 := by
    rw [show Int32.ofNat dp - 1 = Int32.ofNat (dp - 1) from acts_m dp (by omega) hd, fn_nat (by omega)]
  have ea : cm_Lc cm_ms 259 [.ref 124, .int (M.1 133 (Int32.ofNat dp - 1).toNatClampNeg), .int (M.1 133 0)] M (fun v M' => M' = M ∧ v = some (.int (DM M0 (s.1 (dp - 1)) (s.1 0)))) := by
    have q := m_apartOf (M := M) h15 (s.1 (dp - 1)) (s.1 0)
    rw [ed, hs.2.2.1 (dp - 1) (by omega), hs.2.2.1 0 (by omega)]
    rw [e127] at q
    exact q
  refine lb_st0 (mi := mr_261) rfl 400 ?_
  first | refine lb_to (T := (2, [(0, .ref 124), (1, .int (Int32.ofNat dp)), (2, .int (Int32.ofNat seen)), (3, .int gone)], [.ref 124, .int (Int32.ofNat dp)], M)) 2 [0, 1, 2, 3] rfl rfl rfl (fun J' h => h) (lb_g0 rfl rfl h15 ?_) | refine lb_to0 (T := (2, [(0, .ref 124), (1, .int (Int32.ofNat dp)), (2, .int (Int32.ofNat seen)), (3, .int gone)], [.ref 124, .int (Int32.ofNat dp)], M)) 2 [0, 1, 2, 3] rfl rfl rfl (fun J' h => h) (lb_g0 rfl rfl h15 ?_)
  show (ev_cmp 1 (Int32.ofNat dp) (M.1 127 8) = true → _) ∧ (ev_cmp 1 (Int32.ofNat dp) (M.1 127 8) = false → _)
  refine ⟨fun h => ?_, fun h => ?_⟩
  · have q := fn_ne h
    exact absurd (by rw [k8, he]) q
  · first | refine lb_to (T := (14, [(0, .ref 124), (1, .int (Int32.ofNat dp)), (2, .int (Int32.ofNat seen)), (3, .int gone)], [.ref 124, .ref 124, .int gone], M)) 14 [0, 1, 2, 3] rfl rfl rfl (fun J' h => h) (lb_g0 rfl rfl h23 ?_) | refine lb_to0 (T := (14, [(0, .ref 124), (1, .int (Int32.ofNat dp)), (2, .int (Int32.ofNat seen)), (3, .int gone)], [.ref 124, .ref 124, .int gone], M)) 14 [0, 1, 2, 3] rfl rfl rfl (fun J' h => h) (lb_g0 rfl rfl h23 ?_)
    first | refine lb_to (T := (22, [(0, .ref 124), (1, .int (Int32.ofNat dp)), (2, .int (Int32.ofNat seen)), (3, .int gone)], [.ref 124, .int (M.1 133 (((Int32.ofNat dp) - 1).toNatClampNeg)), .ref 124, .int gone], M)) 22 [0, 1, 2, 3] rfl rfl rfl (fun J' h => h) (lb_g0 rfl rfl h23 ?_) | refine lb_to0 (T := (22, [(0, .ref 124), (1, .int (Int32.ofNat dp)), (2, .int (Int32.ofNat seen)), (3, .int gone)], [.ref 124, .int (M.1 133 (((Int32.ofNat dp) - 1).toNatClampNeg)), .ref 124, .int gone], M)) 22 [0, 1, 2, 3] rfl rfl rfl (fun J' h => h) (lb_g0 rfl rfl h23 ?_)
    show ∃ R, cm_Lc cm_ms 259 [.ref 124, .int (M.1 133 (((Int32.ofNat dp) - 1).toNatClampNeg)), .int (M.1 133 0)] M R ∧ ∀ v M', R v M' → _
    refine ⟨_, ea, ?_⟩
    rintro v Mz ⟨hM, rfl⟩
    subst hM
    show (ev_cmp 2 (gone + (DM M0 (s.1 (dp - 1)) (s.1 0))) (M.1 124 25) = true → _) ∧ (ev_cmp 2 (gone + (DM M0 (s.1 (dp - 1)) (s.1 0))) (M.1 124 25) = false → _)
    refine ⟨fun hfc => ?_, fun hfc => ?_⟩
    · first | refine lb_to (T := (50, [(0, .ref 124), (1, .int (Int32.ofNat dp)), (2, .int (Int32.ofNat seen)), (3, .int gone), (4, .int (gone + (DM M0 (s.1 (dp - 1)) (s.1 0))))], [.ref 124], cm_wi M 124 25 (gone + (DM M0 (s.1 (dp - 1)) (s.1 0))))) 50 [0, 1, 2, 3, 4] rfl rfl rfl (fun J' h => h) (lb_g0 rfl rfl h23 ?_) | refine lb_to0 (T := (50, [(0, .ref 124), (1, .int (Int32.ofNat dp)), (2, .int (Int32.ofNat seen)), (3, .int gone), (4, .int (gone + (DM M0 (s.1 (dp - 1)) (s.1 0))))], [.ref 124], cm_wi M 124 25 (gone + (DM M0 (s.1 (dp - 1)) (s.1 0))))) 50 [0, 1, 2, 3, 4] rfl rfl rfl (fun J' h => h) (lb_g0 rfl rfl h23 ?_)
      first | refine lb_to (T := (55, [(0, .ref 124), (1, .int (Int32.ofNat dp)), (2, .int (Int32.ofNat seen)), (3, .int gone), (4, .int (gone + (DM M0 (s.1 (dp - 1)) (s.1 0))))], [.ref 124, .int 0, .ref 133], cm_wi M 124 25 (gone + (DM M0 (s.1 (dp - 1)) (s.1 0))))) 55 [0, 1, 2, 3, 4] rfl rfl rfl (fun J' h => h) (lb_g0 rfl rfl h24 ?_) | refine lb_to0 (T := (55, [(0, .ref 124), (1, .int (Int32.ofNat dp)), (2, .int (Int32.ofNat seen)), (3, .int gone), (4, .int (gone + (DM M0 (s.1 (dp - 1)) (s.1 0))))], [.ref 124, .int 0, .ref 133], cm_wi M 124 25 (gone + (DM M0 (s.1 (dp - 1)) (s.1 0))))) 55 [0, 1, 2, 3, 4] rfl rfl rfl (fun J' h => h) (lb_g0 rfl rfl h24 ?_)
      show ∃ R, cm_Lc cm_ms 170 [.ref 133, .int 0, .ref 134, .int 0, .int 5] (cm_wi M 124 25 (gone + (DM M0 (s.1 (dp - 1)) (s.1 0)))) R ∧ ∀ v M', R v M' → _
      refine ⟨_, m_copyR (a := 133) (b := 134) (x := 0) (y := 0) (n := 5) (by decide) (by omega) (by omega), ?_⟩
      rintro v Mb ⟨rfl, hM⟩
      have q := fn_lt hfc
      rw [hs.2.2.2.2] at q
      refine ⟨rfl, ?_⟩
      unfold rdV
      rw [if_pos (show (gone + DM M0 (s.1 (dp - 1)) (s.1 0)).toInt < s.2.2.toInt from q)]
      obtain ⟨a1, a2, a3, a4, a5⟩ := hs
      subst hM
      refine ⟨a1, fun d j b1 b2 b3 => ?_, fun j hj => ?_, fun j hj => ?_, ?_⟩
      · rw [cp_ne (by omega), wi_n2 b3]
        exact a2 d j b1 b2 b3
      · rw [cp_ne (by omega), wi_n2 (by omega)]
        exact a3 j hj
      · rw [cp_in (by omega) (by omega), wi_n2 (by omega), Nat.sub_zero, Nat.zero_add]
        exact a3 j hj
      · rw [cp_ne (by omega)]
        exact wi_at _ _ _ _
    · have q := fn_nlt hfc
      rw [hs.2.2.2.2] at q
      refine ⟨rfl, ?_⟩
      unfold rdV
      rw [if_neg (show ¬ (gone + DM M0 (s.1 (dp - 1)) (s.1 0)).toInt < s.2.2.toInt by omega)]
      exact hs
def rdG (D : Int32 → Int32 → Int32) (ch : Nat) : Nat → Nat → Nat → Int32 → RSt → RSt
  | 0, dp, _, gone, s => rdV D gone dp s
  | f + 1, dp, seen, gone, s => rdL (rdS D (rdG D ch f) dp seen gone) seen (ch - 1) s
theorem upI_0 {f : Nat → Int32} {dp : Nat} {x : Int32} (hd : 0 < dp) : upI f dp x 0 = f 0 := by
  unfold upI
  rw [if_neg (by omega)]
theorem rdL_q {step step' : Nat → RSt → RSt} {seen : Nat} {Q : RSt → Prop} (h : ∀ c s, Q s → step' c s = step c s ∧ Q (step c s)) : ∀ n s, Q s → rdL step' seen n s = rdL step seen n s ∧ Q (rdL step seen n s)
  | 0, s, q => ⟨rfl, q⟩
  | n + 1, s, q => by
    obtain ⟨a, b⟩ := rdL_q (seen := seen) h n s q
    by_cases z : seen / 2 ^ (n + 1) % 2 = 0
    · rw [rdL_y z, rdL_y z, a]
      exact h _ _ b
    · rw [rdL_n z, rdL_n z]
      exact ⟨a, b⟩
theorem rdG_F {D : Int32 → Int32 → Int32} {ch : Nat} : ∀ f dp seen gone s, 0 < dp → s.1 0 = 0 → rdG D ch f dp seen gone s = rdF D ch f dp seen gone s
  | 0, dp, seen, gone, s, hd, h => rdV_W h
  | f + 1, dp, seen, gone, s, hd, h => (rdL_q (Q := fun s => s.1 0 = 0) (fun c s q => ⟨rdG_F f (dp + 1) _ _ _ (by omega) ((upI_0 hd).trans q), (rdS_ord c s 0 hd).trans q⟩) (ch - 1) s h).1
set_option maxRecDepth 100000 in
theorem m_try_s {M0 M : cm_M} {ch dp : Nat} {s : RSt} (hx : TMX ch M0) (hs : roM M0 M s) (hd : 0 < dp) (hdc : dp ≤ ch) {seen : Nat} (gone : Int32) {f : Nat} (hf : f + 1 + dp = ch) (hse : seen < 64) (ih : ∀ (M : cm_M) (s : RSt) (seen : Nat) (gone : Int32), roM M0 M s → seen < 64 → cm_Lc cm_ms 261 [.ref 124, .int (Int32.ofNat (dp + 1)), .int (Int32.ofNat seen), .int gone] M (fun v M' => v = none ∧ roM M0 M' (rdG (DM M0) ch f (dp + 1) seen gone s))) : cm_Lc cm_ms 261 [.ref 124, .int (Int32.ofNat dp), .int (Int32.ofNat seen), .int gone] M (fun v M' => v = none ∧ roM M0 M' (rdL (rdS (DM M0) (rdG (DM M0) ch f) dp seen gone) seen (ch - 1) s)) := by
  have h15 : M.2.2 124 15 = some 127 := by rw [hs.1]; exact hx.2.1.1
  have h23 : M.2.2 124 23 = some 133 := by rw [hs.1]; exact hx.2.1.2.1
  have h24 : M.2.2 124 24 = some 134 := by rw [hs.1]; exact hx.2.1.2.2
  have h5 := hx.1
  have k8 : M.1 127 8 = Int32.ofNat ch := (hs.2.1 127 8 (by omega) (by omega) (by omega)).trans hx.2.2
  have e127 : M.1 127 = M0.1 127 := funext fun j => hs.2.1 127 j (by omega) (by omega) (by omega)
  refine lb_of (mi := mr_261) rfl [(67, [0, 1, 2, 3, 4])] (fun S => ∃ c M1, c + 1 ≤ ch ∧ roM M0 M1 (rdL (rdS (DM M0) (rdG (DM M0) ch f) dp seen gone) seen c s) ∧ S = (67, [(0, .ref 124), (1, .int (Int32.ofNat dp)), (2, .int (Int32.ofNat seen)), (3, .int gone), (4, .int (Int32.ofNat (c + 1)))], [], M1)) 400 (fun S hS => ?_) 400 ?_
  · obtain ⟨c, M1, hcl, hs, rfl⟩ := hS
    have h15 : M1.2.2 124 15 = some 127 := by rw [hs.1]; exact hx.2.1.1
    have h23 : M1.2.2 124 23 = some 133 := by rw [hs.1]; exact hx.2.1.2.1
    have h24 : M1.2.2 124 24 = some 134 := by rw [hs.1]; exact hx.2.1.2.2
    have h5 := hx.1
    have k8 : M1.1 127 8 = Int32.ofNat ch := (hs.2.1 127 8 (by omega) (by omega) (by omega)).trans hx.2.2
    have e127 : M1.1 127 = M0.1 127 := funext fun j => hs.2.1 127 j (by omega) (by omega) (by omega)
    have ed : (Int32.ofNat dp - 1).toNatClampNeg = dp - 1 := by
      rw [show Int32.ofNat dp - 1 = Int32.ofNat (dp - 1) from acts_m dp (by omega) hd, fn_nat (by omega)]
    first | refine lb_to (T := (70, [(0, .ref 124), (1, .int (Int32.ofNat dp)), (2, .int (Int32.ofNat seen)), (3, .int gone), (4, .int (Int32.ofNat (c + 1)))], [.ref 124, .int (Int32.ofNat (c + 1))], M1)) 70 [0, 1, 2, 3, 4] rfl rfl rfl (fun J' h => h) (lb_g0 rfl rfl h15 ?_) | refine lb_to0 (T := (70, [(0, .ref 124), (1, .int (Int32.ofNat dp)), (2, .int (Int32.ofNat seen)), (3, .int gone), (4, .int (Int32.ofNat (c + 1)))], [.ref 124, .int (Int32.ofNat (c + 1))], M1)) 70 [0, 1, 2, 3, 4] rfl rfl rfl (fun J' h => h) (lb_g0 rfl rfl h15 ?_)
    show (ev_cmp 3 (Int32.ofNat (c + 1)) (M1.1 127 8) = true → _) ∧ (ev_cmp 3 (Int32.ofNat (c + 1)) (M1.1 127 8) = false → _)
    refine ⟨fun hL => ?_, fun hL => ?_⟩
    · have q := fn_ge hL
      rw [k8, fn_toInt (by omega), fn_toInt (by omega)] at q
      have e : c = ch - 1 := by omega
      subst e
      exact ⟨rfl, hs⟩
    · have q := fn_nge hL
      rw [k8, fn_toInt (by omega), fn_toInt (by omega)] at q
      show ∃ R, cm_Lc cm_ms 168 [.int (Int32.ofNat seen), .int (Int32.ofNat (c + 1))] M1 R ∧ ∀ v M', R v M' → _
      refine ⟨_, m_hasBit (Int32.ofNat seen) (Int32.ofNat (c + 1)) M1, ?_⟩
      rintro v Mz ⟨rfl, hM⟩
      subst hM
      show (ev_cmp 0 (bi (hb (Int32.ofNat seen) (c + 1))) 0 = true → _) ∧ (ev_cmp 0 (bi (hb (Int32.ofNat seen) (c + 1))) 0 = false → _)
      refine ⟨fun hLfc => ?_, fun hLfc => ?_⟩
      · have hbit : seen / 2 ^ (c + 1) % 2 = 0 := by
          have z := bi_0 hLfc
          unfold hb at z
          rcases bit_o seen hse (c + 1) (by omega) with w | w
          · exact (bit_t seen hse (c + 1) (by omega)).mp w
          · rw [w] at z
            exact absurd z (by decide)
        first | refine lb_to (T := (92, [(0, .ref 124), (1, .int (Int32.ofNat dp)), (2, .int (Int32.ofNat seen)), (3, .int gone), (4, .int (Int32.ofNat (c + 1)))], [.ref 124], M1)) 92 [0, 1, 2, 3, 4] rfl rfl rfl (fun J' h => h) (lb_g0 rfl rfl h23 ?_) | refine lb_to0 (T := (92, [(0, .ref 124), (1, .int (Int32.ofNat dp)), (2, .int (Int32.ofNat seen)), (3, .int gone), (4, .int (Int32.ofNat (c + 1)))], [.ref 124], M1)) 92 [0, 1, 2, 3, 4] rfl rfl rfl (fun J' h => h) (lb_g0 rfl rfl h23 ?_)
        first | refine lb_to (T := (112, [(0, .ref 124), (1, .int (Int32.ofNat dp)), (2, .int (Int32.ofNat seen)), (3, .int gone), (4, .int (Int32.ofNat (c + 1)))], [.ref 124, .ref 124, .int gone, .int ((Int32.ofNat seen) ||| (1 <<< ((Int32.ofNat (c + 1)) &&& 31))), .int ((Int32.ofNat dp) + 1), .ref 124], cm_wi M1 133 ((Int32.ofNat dp).toNatClampNeg) (Int32.ofNat (c + 1)))) 112 [0, 1, 2, 3, 4] rfl rfl rfl (fun J' h => h) (lb_g0 rfl rfl h23 ?_) | refine lb_to0 (T := (112, [(0, .ref 124), (1, .int (Int32.ofNat dp)), (2, .int (Int32.ofNat seen)), (3, .int gone), (4, .int (Int32.ofNat (c + 1)))], [.ref 124, .ref 124, .int gone, .int ((Int32.ofNat seen) ||| (1 <<< ((Int32.ofNat (c + 1)) &&& 31))), .int ((Int32.ofNat dp) + 1), .ref 124], cm_wi M1 133 ((Int32.ofNat dp).toNatClampNeg) (Int32.ofNat (c + 1)))) 112 [0, 1, 2, 3, 4] rfl rfl rfl (fun J' h => h) (lb_g0 rfl rfl h23 ?_)
        show ∃ R, cm_Lc cm_ms 259 [.ref 124, .int ((cm_wi M1 133 ((Int32.ofNat dp).toNatClampNeg) (Int32.ofNat (c + 1))).1 133 (((Int32.ofNat dp) - 1).toNatClampNeg)), .int (Int32.ofNat (c + 1))] (cm_wi M1 133 ((Int32.ofNat dp).toNatClampNeg) (Int32.ofNat (c + 1))) R ∧ ∀ v M', R v M' → _
        have ea : cm_Lc cm_ms 259 [.ref 124, .int ((cm_wi M1 133 ((Int32.ofNat dp).toNatClampNeg) (Int32.ofNat (c + 1))).1 133 ((Int32.ofNat dp - 1).toNatClampNeg)), .int (Int32.ofNat (c + 1))] (cm_wi M1 133 ((Int32.ofNat dp).toNatClampNeg) (Int32.ofNat (c + 1))) (fun v M' => M' = (cm_wi M1 133 ((Int32.ofNat dp).toNatClampNeg) (Int32.ofNat (c + 1))) ∧ v = some (.int (DM M0 ((rdL (rdS (DM M0) (rdG (DM M0) ch f) dp seen gone) seen c s).1 (dp - 1)) (Int32.ofNat (c + 1))))) := by
          have q := m_apartOf (M := (cm_wi M1 133 ((Int32.ofNat dp).toNatClampNeg) (Int32.ofNat (c + 1)))) h15 ((rdL (rdS (DM M0) (rdG (DM M0) ch f) dp seen gone) seen c s).1 (dp - 1)) (Int32.ofNat (c + 1))
          rw [show (cm_wi M1 133 ((Int32.ofNat dp).toNatClampNeg) (Int32.ofNat (c + 1))).1 127 = M0.1 127 from (funext fun j => wi_n2 (by omega)).trans e127] at q
          rw [ed, show (cm_wi M1 133 ((Int32.ofNat dp).toNatClampNeg) (Int32.ofNat (c + 1))).1 133 (dp - 1) = (rdL (rdS (DM M0) (rdG (DM M0) ch f) dp seen gone) seen c s).1 (dp - 1) from by
            rw [fn_nat (show dp < 2147483648 by omega), wi_n2 (by omega)]
            exact hs.2.2.1 (dp - 1) (by omega)]
          exact q
        refine ⟨_, ea, ?_⟩
        rintro v Mz ⟨hM, rfl⟩
        subst hM
        show ∃ R, cm_Lc cm_ms 261 [.ref 124, .int ((Int32.ofNat dp) + 1), .int ((Int32.ofNat seen) ||| (1 <<< ((Int32.ofNat (c + 1)) &&& 31))), .int (gone + (DM M0 ((rdL (rdS (DM M0) (rdG (DM M0) ch f) dp seen gone) seen c s).1 (dp - 1)) (Int32.ofNat (c + 1))))] (cm_wi M1 133 ((Int32.ofNat dp).toNatClampNeg) (Int32.ofNat (c + 1))) R ∧ ∀ v M', R v M' → _
        have hrec : cm_Lc cm_ms 261 [.ref 124, .int (Int32.ofNat dp + 1), .int (Int32.ofNat seen ||| (1 <<< (Int32.ofNat (c + 1) &&& 31))), .int (gone + DM M0 ((rdL (rdS (DM M0) (rdG (DM M0) ch f) dp seen gone) seen c s).1 (dp - 1)) (Int32.ofNat (c + 1)))] (cm_wi M1 133 ((Int32.ofNat dp).toNatClampNeg) (Int32.ofNat (c + 1))) (fun v M' => v = none ∧ roM M0 M' ((rdS (DM M0) (rdG (DM M0) ch f) dp seen gone) (c + 1) (rdL (rdS (DM M0) (rdG (DM M0) ch f) dp seen gone) seen c s))) := by
          rw [fn_nat (show dp < 2147483648 by omega), ofn_s1 dp, (bit_s seen hse (c + 1) (by omega) hbit).1]
          exact ih _ _ _ _ (roM_o hs) (bit_s seen hse (c + 1) (by omega) hbit).2.2
        refine ⟨_, hrec, ?_⟩
        rintro v Mb ⟨rfl, hr⟩
        show (fun (S : cm_S) => ∃ c M1, c + 1 ≤ ch ∧ roM M0 M1 (rdL (rdS (DM M0) (rdG (DM M0) ch f) dp seen gone) seen c s) ∧ S = (67, [(0, .ref 124), (1, .int (Int32.ofNat dp)), (2, .int (Int32.ofNat seen)), (3, .int gone), (4, .int (Int32.ofNat (c + 1)))], [], M1)) (67, [(0, .ref 124), (1, .int (Int32.ofNat dp)), (2, .int (Int32.ofNat seen)), (3, .int gone), (4, .int ((Int32.ofNat (c + 1)) + 1))], [], Mb)
        exact ⟨c + 1, Mb, by omega, by rw [rdL_y hbit]; exact hr, by rw [ofn_s1]⟩
      · show (fun (S : cm_S) => ∃ c M1, c + 1 ≤ ch ∧ roM M0 M1 (rdL (rdS (DM M0) (rdG (DM M0) ch f) dp seen gone) seen c s) ∧ S = (67, [(0, .ref 124), (1, .int (Int32.ofNat dp)), (2, .int (Int32.ofNat seen)), (3, .int gone), (4, .int (Int32.ofNat (c + 1)))], [], M1)) (67, [(0, .ref 124), (1, .int (Int32.ofNat dp)), (2, .int (Int32.ofNat seen)), (3, .int gone), (4, .int ((Int32.ofNat (c + 1)) + 1))], [], M1)
        have z2 : ¬ seen / 2 ^ (c + 1) % 2 = 0 := fun w => by
          have z := bi_1 hLfc
          unfold hb at z
          rw [(bit_t seen hse (c + 1) (by omega)).mpr w] at z
          exact absurd z (by decide)
        exact ⟨c + 1, M1, by omega, by rw [rdL_n z2]; exact hs, by rw [ofn_s1]⟩
  · first | refine lb_to (T := (2, [(0, .ref 124), (1, .int (Int32.ofNat dp)), (2, .int (Int32.ofNat seen)), (3, .int gone)], [.ref 124, .int (Int32.ofNat dp)], M)) 2 [0, 1, 2, 3] rfl rfl rfl (fun J' h => h) (lb_g0 rfl rfl h15 ?_) | refine lb_to0 (T := (2, [(0, .ref 124), (1, .int (Int32.ofNat dp)), (2, .int (Int32.ofNat seen)), (3, .int gone)], [.ref 124, .int (Int32.ofNat dp)], M)) 2 [0, 1, 2, 3] rfl rfl rfl (fun J' h => h) (lb_g0 rfl rfl h15 ?_)
    show (ev_cmp 1 (Int32.ofNat dp) (M.1 127 8) = true → _) ∧ (ev_cmp 1 (Int32.ofNat dp) (M.1 127 8) = false → _)
    refine ⟨fun h => ?_, fun h => ?_⟩
    · show (fun (S : cm_S) => ∃ c M1, c + 1 ≤ ch ∧ roM M0 M1 (rdL (rdS (DM M0) (rdG (DM M0) ch f) dp seen gone) seen c s) ∧ S = (67, [(0, .ref 124), (1, .int (Int32.ofNat dp)), (2, .int (Int32.ofNat seen)), (3, .int gone), (4, .int (Int32.ofNat (c + 1)))], [], M1)) (67, [(0, .ref 124), (1, .int (Int32.ofNat dp)), (2, .int (Int32.ofNat seen)), (3, .int gone), (4, .int 1)], [], M)
      exact ⟨0, M, by omega, hs, rfl⟩
    · have q := fn_eq h
      rw [k8] at q
      have := ofn_inj (by omega) (by omega) q
      omega
theorem m_try {M0 : cm_M} {ch : Nat} (hx : TMX ch M0) : ∀ f dp (M : cm_M) (s : RSt) (seen : Nat) (gone : Int32), f + dp = ch → 0 < dp → roM M0 M s → seen < 64 → cm_Lc cm_ms 261 [.ref 124, .int (Int32.ofNat dp), .int (Int32.ofNat seen), .int gone] M (fun v M' => v = none ∧ roM M0 M' (rdG (DM M0) ch f dp seen gone s))
  | 0, dp, M, s, seen, gone, hf, hd, hs, hse => m_try_0 hx hs hd (by omega) gone (by omega)
  | f + 1, dp, M, s, seen, gone, hf, hd, hs, hse => m_try_s hx hs hd (by omega) gone hf hse (fun M s seen gone h1 h3 => m_try hx f (dp + 1) M s seen gone (by omega) (by omega) h1 h3)
set_option maxRecDepth 100000 in
theorem m_seek {M : cm_M} {ch : Nat} (hx : TMX ch M) (h0 : 0 < ch) : cm_Lc cm_ms 262 [.ref 124] M (fun v M' => v = none ∧ roM M M' (rdG (DM M) ch (ch - 1) 1 1 0 (rd0 (M.1 133) (M.1 134) 1000000))) := by
  have h23 := hx.2.1.2.1
  have h5 := hx.1
  refine lb_st0 (mi := mr_262) rfl 400 ?_
  first | refine lb_to (T := (8, [(0, .ref 124)], [.ref 124], cm_wi M 124 25 1000000)) 8 [0] rfl rfl rfl (fun J' h => h) (lb_g0 rfl rfl h23 ?_) | refine lb_to0 (T := (8, [(0, .ref 124)], [.ref 124], cm_wi M 124 25 1000000)) 8 [0] rfl rfl rfl (fun J' h => h) (lb_g0 rfl rfl h23 ?_)
  show ∃ R, cm_Lc cm_ms 261 [.ref 124, .int 1, .int 1, .int 0] (cm_wi (cm_wi M 124 25 1000000) 133 0 0) R ∧ ∀ v M', R v M' → _
  have hst : roM M (cm_wi (cm_wi M 124 25 1000000) 133 0 0) (rd0 (M.1 133) (M.1 134) 1000000) := by
    refine ⟨rfl, fun d j b1 b2 b3 => ?_, fun j hj => ?_, fun j hj => ?_, ?_⟩
    · rw [wi_n2 (by omega), wi_n2 b3]
    · show _ = upI (M.1 133) 0 0 j
      unfold upI
      by_cases q : j = 0
      · rw [if_pos q, q, wi_at]
      · rw [if_neg q, wi_n2 (by omega), wi_n2 (by omega)]
    · rw [wi_n2 (by omega), wi_n2 (by omega)]
      rfl
    · rw [wi_n2 (by omega)]
      exact wi_at _ _ _ _
  have hw := m_try hx (ch - 1) 1 _ _ 1 0 (by omega) (by omega) hst (by omega)
  refine ⟨_, hw, ?_⟩
  rintro v Mb ⟨rfl, hr⟩
  exact ⟨rfl, hr⟩
theorem m_round_no {a : Bool} {me mo : Nat} {M : cm_M} (hx : MTX a me mo M) (ha : a = false) : cm_Lc cm_ms 263 [.ref 124] M (fun v _ => v = some (.int (-1))) := by
  refine lb_st0 (mi := mr_263) rfl 400 ?_
  show ∃ R, cm_Lc cm_ms 164 [.ref 124] M R ∧ ∀ v M', R v M' → _
  refine ⟨_, m_goodG M, ?_⟩
  rintro v M' ⟨rfl, rfl⟩
  have hg := MTX_gd hx
  show (ev_cmp 1 ((gdM M).1 124 14) 0 = true → _) ∧ (ev_cmp 1 ((gdM M).1 124 14) 0 = false → _)
  refine ⟨fun hc => ?_, fun hc => ?_⟩
  · have q := fn_ne hc
    rw [gd_n (by omega), hx.1, ha] at q
    exact absurd rfl q
  · show ∃ R, cm_Lc cm_ms 165 [.ref 124, .int 1] (gdM M) R ∧ ∀ v M', R v M' → _
    refine ⟨_, m_noG 1 (gdM M), ?_⟩
    rintro v Mz ⟨hG, rfl⟩
    exact rfl
theorem TMX_gd {ch : Nat} {M : cm_M} (h : TMX ch M) : TMX ch (gdM M) := ⟨h.1, h.2.1, (gd_n (by omega)).trans h.2.2⟩
set_option maxRecDepth 100000 in
theorem m_round_k {a : Bool} {me mo : Nat} {M : cm_M} (hx : MTX a me mo M) {ch : Nat} (ht : TMX ch M) (ha : a = true) (hch : 2 ≤ ch) : cm_Lc cm_ms 263 [.ref 124] M (fun v _ => v = some (.int ((rdG (DM M) ch (ch - 1) 1 1 0 (rd0 (M.1 133) (M.1 134) 1000000)).2.2))) := by
  refine lb_st0 (mi := mr_263) rfl 400 ?_
  show ∃ R, cm_Lc cm_ms 164 [.ref 124] M R ∧ ∀ v M', R v M' → _
  refine ⟨_, m_goodG M, ?_⟩
  rintro v M' ⟨rfl, rfl⟩
  have hg := MTX_gd hx
  have k8 : (gdM M).1 127 8 = Int32.ofNat ch := (gd_n (by omega)).trans ht.2.2
  have h5 := ht.1
  have h15 := ht.2.1.1
  have z2 : (2 : Int32).toInt = 2 := by decide
  have e127 : (gdM M).1 127 = M.1 127 := funext fun j => gd_n (by omega)
  have e133 : (gdM M).1 133 = M.1 133 := funext fun j => gd_n (by omega)
  have e134 : (gdM M).1 134 = M.1 134 := funext fun j => gd_n (by omega)
  show (ev_cmp 1 ((gdM M).1 124 14) 0 = true → _) ∧ (ev_cmp 1 ((gdM M).1 124 14) 0 = false → _)
  refine ⟨fun hc => ?_, fun hc => ?_⟩
  · first | refine lb_to (T := (18, [(0, .ref 124)], [.ref 124], (gdM M))) 18 [0] rfl rfl rfl (fun J' h => h) (lb_g0 rfl rfl h15 ?_) | refine lb_to0 (T := (18, [(0, .ref 124)], [.ref 124], (gdM M))) 18 [0] rfl rfl rfl (fun J' h => h) (lb_g0 rfl rfl h15 ?_)
    show (ev_cmp 3 ((gdM M).1 127 8) 2 = true → _) ∧ (ev_cmp 3 ((gdM M).1 127 8) 2 = false → _)
    refine ⟨fun hct => ?_, fun hct => ?_⟩
    · show ∃ R, cm_Lc cm_ms 262 [.ref 124] (gdM M) R ∧ ∀ v M', R v M' → _
      have hsk : cm_Lc cm_ms 262 [.ref 124] (gdM M) (fun v M' => v = none ∧ roM (gdM M) M' (rdG (DM M) ch (ch - 1) 1 1 0 (rd0 (M.1 133) (M.1 134) 1000000))) := by
        have q := m_seek (M := gdM M) (TMX_gd ht) (by omega)
        have ed : DM (gdM M) = DM M := by
          unfold DM
          rw [e127]
        rw [ed, e133, e134] at q
        exact q
      refine ⟨_, hsk, ?_⟩
      rintro v Mb ⟨rfl, hs⟩
      exact congrArg (fun b => some (Value.int b)) hs.2.2.2.2
    · have q := fn_nge hct
      rw [k8, z2, fn_toInt (by omega)] at q
      omega
  · have q := fn_eq hc
    rw [gd_n (by omega), hx.1, ha] at q
    exact absurd q (by decide)
set_option maxRecDepth 100000 in
theorem m_round_0 {a : Bool} {me mo : Nat} {M : cm_M} (hx : MTX a me mo M) {ch : Nat} (ht : TMX ch M) (ha : a = true) (hch : ch < 2) : cm_Lc cm_ms 263 [.ref 124] M (fun v _ => v = some (.int (0))) := by
  refine lb_st0 (mi := mr_263) rfl 400 ?_
  show ∃ R, cm_Lc cm_ms 164 [.ref 124] M R ∧ ∀ v M', R v M' → _
  refine ⟨_, m_goodG M, ?_⟩
  rintro v M' ⟨rfl, rfl⟩
  have hg := MTX_gd hx
  have k8 : (gdM M).1 127 8 = Int32.ofNat ch := (gd_n (by omega)).trans ht.2.2
  have h5 := ht.1
  have h15 := ht.2.1.1
  have z2 : (2 : Int32).toInt = 2 := by decide
  have e127 : (gdM M).1 127 = M.1 127 := funext fun j => gd_n (by omega)
  have e133 : (gdM M).1 133 = M.1 133 := funext fun j => gd_n (by omega)
  have e134 : (gdM M).1 134 = M.1 134 := funext fun j => gd_n (by omega)
  show (ev_cmp 1 ((gdM M).1 124 14) 0 = true → _) ∧ (ev_cmp 1 ((gdM M).1 124 14) 0 = false → _)
  refine ⟨fun hc => ?_, fun hc => ?_⟩
  · first | refine lb_to (T := (18, [(0, .ref 124)], [.ref 124], (gdM M))) 18 [0] rfl rfl rfl (fun J' h => h) (lb_g0 rfl rfl h15 ?_) | refine lb_to0 (T := (18, [(0, .ref 124)], [.ref 124], (gdM M))) 18 [0] rfl rfl rfl (fun J' h => h) (lb_g0 rfl rfl h15 ?_)
    show (ev_cmp 3 ((gdM M).1 127 8) 2 = true → _) ∧ (ev_cmp 3 ((gdM M).1 127 8) 2 = false → _)
    refine ⟨fun hct => ?_, fun hct => ?_⟩
    · have q := fn_ge hct
      rw [k8, z2, fn_toInt (by omega)] at q
      omega
    · exact rfl
  · have q := fn_eq hc
    rw [gd_n (by omega), hx.1, ha] at q
    exact absurd q (by decide)
set_option maxRecDepth 100000 in
theorem m_roundAt_out {a : Bool} {me mo : Nat} {M : cm_M} (hx : MTX a me mo M) {ch : Nat} (ht : TMX ch M) (h0 : a = false → ch = 0) (x : Int32) (ho : outB x (Int32.ofNat ch) = true) : cm_Lc cm_ms 264 [.ref 124, .int x] M (fun v _ => v = some (.int (-1))) := by
  refine lb_st0 (mi := mr_264) rfl 400 ?_
  show ∃ R, cm_Lc cm_ms 164 [.ref 124] M R ∧ ∀ v M', R v M' → _
  refine ⟨_, m_goodG M, ?_⟩
  rintro v M' ⟨rfl, rfl⟩
  have hg := MTX_gd hx
  have k8 : (gdM M).1 127 8 = Int32.ofNat ch := (gd_n (by omega)).trans ht.2.2
  have h5 := ht.1
  have h15 := ht.2.1.1
  have z2 : (2 : Int32).toInt = 2 := by decide
  have e127 : (gdM M).1 127 = M.1 127 := funext fun j => gd_n (by omega)
  have e133 : (gdM M).1 133 = M.1 133 := funext fun j => gd_n (by omega)
  have e134 : (gdM M).1 134 = M.1 134 := funext fun j => gd_n (by omega)
  show ∃ R, cm_Lc cm_ms 207 [.ref 124, .int x] (gdM M) R ∧ ∀ v M', R v M' → _
  have hl := m_isChair hg.1 h15 x
  rw [k8, in_t (by omega) h0] at hl
  rw [ho, Bool.not_true] at hl
  refine ⟨_, hl, ?_⟩
  rintro v M' ⟨hM, rfl⟩
  subst M'
  show (ev_cmp 1 (bi false) 0 = true → _) ∧ (ev_cmp 1 (bi false) 0 = false → _)
  refine ⟨fun hcc => ?_, fun hcc => ?_⟩
  · exact absurd hcc (by decide)
  · show ∃ R, cm_Lc cm_ms 165 [.ref 124, .int 1] (gdM M) R ∧ ∀ v M', R v M' → _
    refine ⟨_, m_noG 1 (gdM M), ?_⟩
    rintro v Mz ⟨hG, rfl⟩
    exact rfl
set_option maxRecDepth 100000 in
theorem m_roundAt_k {a : Bool} {me mo : Nat} {M : cm_M} (hx : MTX a me mo M) {ch : Nat} (ht : TMX ch M) (h0 : a = false → ch = 0) {i : Nat} (hi : i < ch) : cm_Lc cm_ms 264 [.ref 124, .int (Int32.ofNat i)] M (fun v _ => v = some (.int ((rdG (DM M) ch (ch - 1) 1 1 0 (rd0 (M.1 133) (M.1 134) 1000000)).2.1 i))) := by
  refine lb_st0 (mi := mr_264) rfl 400 ?_
  show ∃ R, cm_Lc cm_ms 164 [.ref 124] M R ∧ ∀ v M', R v M' → _
  refine ⟨_, m_goodG M, ?_⟩
  rintro v M' ⟨rfl, rfl⟩
  have hg := MTX_gd hx
  have k8 : (gdM M).1 127 8 = Int32.ofNat ch := (gd_n (by omega)).trans ht.2.2
  have h5 := ht.1
  have h15 := ht.2.1.1
  have z2 : (2 : Int32).toInt = 2 := by decide
  have e127 : (gdM M).1 127 = M.1 127 := funext fun j => gd_n (by omega)
  have e133 : (gdM M).1 133 = M.1 133 := funext fun j => gd_n (by omega)
  have e134 : (gdM M).1 134 = M.1 134 := funext fun j => gd_n (by omega)
  show ∃ R, cm_Lc cm_ms 207 [.ref 124, .int (Int32.ofNat i)] (gdM M) R ∧ ∀ v M', R v M' → _
  have hl := m_isChair hg.1 h15 (Int32.ofNat i)
  rw [k8, in_t (by omega) h0] at hl
  rw [outB_lt hi (by omega), Bool.not_false] at hl
  refine ⟨_, hl, ?_⟩
  rintro v M' ⟨hM, rfl⟩
  subst M'
  show (ev_cmp 1 (bi true) 0 = true → _) ∧ (ev_cmp 1 (bi true) 0 = false → _)
  refine ⟨fun hcc => ?_, fun hcc => ?_⟩
  · show ∃ R, cm_Lc cm_ms 262 [.ref 124] (gdM M) R ∧ ∀ v M', R v M' → _
    have hsk : cm_Lc cm_ms 262 [.ref 124] (gdM M) (fun v M' => v = none ∧ roM (gdM M) M' (rdG (DM M) ch (ch - 1) 1 1 0 (rd0 (M.1 133) (M.1 134) 1000000))) := by
      have q := m_seek (M := gdM M) (TMX_gd ht) (by omega)
      have ed : DM (gdM M) = DM M := by
        unfold DM
        rw [e127]
      rw [ed, e133, e134] at q
      exact q
    refine ⟨_, hsk, ?_⟩
    rintro v Mb ⟨rfl, hs⟩
    have h24 : Mb.2.2 124 24 = some 134 := by rw [hs.1]; exact ht.2.1.2.2
    first | refine lb_to (T := (23, [(0, .ref 124), (1, .int (Int32.ofNat i))], [.ref 124], Mb)) 23 [0, 1] rfl rfl rfl (fun J' h => h) (lb_g0 rfl rfl h24 ?_) | refine lb_to0 (T := (23, [(0, .ref 124), (1, .int (Int32.ofNat i))], [.ref 124], Mb)) 23 [0, 1] rfl rfl rfl (fun J' h => h) (lb_g0 rfl rfl h24 ?_)
    show some (Value.int (Mb.1 134 (Int32.ofNat i).toNatClampNeg)) = _
    rw [fn_nat (show i < 2147483648 by omega)]
    exact congrArg (fun b => some (Value.int b)) (hs.2.2.2.1 i (by omega))
  · exact absurd hcc (by decide)
