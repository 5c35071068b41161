/-! THE TWO TOWNS while they are read -/
/-- how many bits -/
def pc (x : Nat) : Nat := x % 2 + x / 2 % 2 + x / 4 % 2 + x / 8 % 2 + x / 16 % 2 + x / 32 % 2
def su (f : Nat → Nat) : Nat → Nat
  | 0 => 0
  | n + 1 => su f n + pc (f n)
def up (f : Nat → Nat) (i v : Nat) (j : Nat) : Nat := if j = i then v else f j
theorem su_cg {f g : Nat → Nat} : ∀ n, (∀ j, j < n → f j = g j) → su f n = su g n
  | 0, _ => rfl
  | n + 1, h => by
    unfold su
    rw [su_cg n (fun j hj => h j (by omega)), h n (by omega)]
theorem su_up {f : Nat → Nat} {i v : Nat} (hp : pc v = pc (f i) + 1) : ∀ n, i < n → su (up f i v) n = su f n + 1
  | 0, h => by omega
  | n + 1, h => by
    unfold su
    rcases Nat.lt_or_ge i n with hi | hi
    · rw [su_up hp n hi]
      have : up f i v n = f n := by unfold up; rw [if_neg (by omega)]
      rw [this]
      omega
    · have e : i = n := by omega
      subst e
      have h1 : su (up f i v) i = su f i := su_cg i (fun j hj => by unfold up; rw [if_neg (by omega)])
      have h2 : up f i v i = v := by unfold up; rw [if_pos rfl]
      rw [h1, h2, hp]
      omega
set_option maxRecDepth 100000 in
theorem bit_t : ∀ a, a < 64 → ∀ k, k < 6 → (((Int32.ofNat a >>> (Int32.ofNat k &&& 31)) &&& 1 = 0) ↔ a / 2 ^ k % 2 = 0) := by decide +kernel
set_option maxRecDepth 100000 in
theorem bit_o : ∀ a, a < 64 → ∀ k, k < 6 → ((Int32.ofNat a >>> (Int32.ofNat k &&& 31)) &&& 1 = 0 ∨ (Int32.ofNat a >>> (Int32.ofNat k &&& 31)) &&& 1 = 1) := by decide +kernel
set_option maxRecDepth 100000 in
theorem bit_s : ∀ a, a < 64 → ∀ k, k < 6 → a / 2 ^ k % 2 = 0 → (Int32.ofNat a ||| ((1 : Int32) <<< (Int32.ofNat k &&& 31)) = Int32.ofNat (a + 2 ^ k)) ∧ pc (a + 2 ^ k) = pc a + 1 ∧ a + 2 ^ k < 64 := by decide +kernel
set_option maxRecDepth 100000 in
theorem bit_l : ∀ m, m < 7 → ∀ a, a < 2 ^ m → ∀ k, k < m → a / 2 ^ k % 2 = 0 → a + 2 ^ k < 2 ^ m := by decide +kernel
/-- each quarrel stands with both, none with oneself -/
def sy (qu : Nat → Nat) : Prop := ∀ m, m < 6 → ∀ o, o < 6 → (qu m / 2 ^ o % 2 = qu o / 2 ^ m % 2) ∧ (m = o → qu m / 2 ^ o % 2 = 0)
/-- heaps -/
def hR (hb : Nat) (A : Nat → Int32) (F : Nat → Int32) : Prop := ∀ c, c < 3 → (hb / 2 ^ c % 2 = 0 → F (66 + c) = 0) ∧ (hb / 2 ^ c % 2 ≠ 0 → F (66 + c) = A c + 1 ∧ 0 ≤ (A c).toInt ∧ (A c).toInt ≤ 999)
/-- the data of the two towns -/
def DR (me mo ch : Nat) (td : Int32) (A : Nat → Nat → Int32) (F : Nat → Int32) : Prop :=
  ((td = 0 ∨ td = 1) ∧ F 10 = td ∧ (td = 1 → A 0 0 = F 0 ∧ A 0 1 = F 1 ∧ A 0 2 = F 2)) ∧
  (A 0 3 = Int32.ofNat me ∧ F 3 = Int32.ofNat me ∧ A 0 9 = Int32.ofNat mo ∧ F 4 = Int32.ofNat mo ∧ A 0 15 = Int32.ofNat ch ∧ F 8 = Int32.ofNat ch) ∧
  (∀ m, m < me → A 1 m = F (11 + 3 * m) ∧ A 2 m = F (12 + 3 * m) ∧ A 3 m = F (13 + 3 * m) ∧ A 4 m = F (44 + m) ∧ A 5 m = F (55 + m)) ∧
  (∀ k, k < mo → A 6 k = F (29 + 3 * k) ∧ A 7 k = F (30 + 3 * k) ∧ A 8 k = F (31 + 3 * k) ∧ A 9 k = F (50 + k)) ∧
  (∀ c, c < ch → A 11 c = F (61 + c)) ∧
  (∃ ag am qu : Nat → Nat, (∀ m, m < 6 → ag m < 32 ∧ F (44 + m) = Int32.ofNat (ag m) ∧ qu m < 64 ∧ F (55 + m) = Int32.ofNat (qu m)) ∧ (∀ m, me ≤ m → ag m = 0 ∧ qu m = 0) ∧ (∀ k, k < 5 → am k < 2 ^ k ∧ F (50 + k) = Int32.ofNat (am k)) ∧ (∀ k, mo ≤ k → am k = 0) ∧ F 5 = Int32.ofNat (su ag 6) ∧ F 6 = Int32.ofNat (su am 5) ∧ (∃ q, F 7 = Int32.ofNat q ∧ su qu 6 = 2 * q ∧ sy qu)) ∧
  (∃ hb, hb < 8 ∧ A 0 18 = Int32.ofNat hb ∧ F 9 = Int32.ofNat (pc hb) ∧ hR hb (A 12) F)
def DA (T : Nat) (C : cm_M) (i j : Nat) : Int32 := C.1 (T + i) j
def DT (T me mo ch : Nat) (C : cm_M) (F : Nat → Int32) : Prop := NC (me + mo + ch) me mo ch C F ∧ DR me mo ch (C.1 2 8) (DA T C) F
theorem DA_cg {T : Nat} {C C' : cm_M} (hT : 6 ≤ T) (h : KC C C') : DA T C' = DA T C := funext fun i => funext fun j => h.1 _ _ (by omega)
/-- the data stays, where the places that count do -/
theorem DR_cg {me mo ch : Nat} {td : Int32} {A A' : Nat → Nat → Int32} {F F' : Nat → Int32} (h1 : me ≤ 6) (h2 : mo ≤ 5) (h3 : ch ≤ 5) (hA : A' = A) (hF : ∀ j, j < 69 → ¬ (11 + 3 * me ≤ j ∧ j < 29) → ¬ (29 + 3 * mo ≤ j ∧ j < 44) → ¬ (61 + ch ≤ j ∧ j < 66) → F' j = F j) (h : DR me mo ch td A F) : DR me mo ch td A' F' := by
  subst hA
  obtain ⟨⟨a1, a2, a3⟩, ⟨b1, b2, b3, b4, b5, b6⟩, c, d, e, ⟨ag, am, qu, f1, f2, f3, f4, f5, f6, q, f7, f8⟩, hb, g1, g2, g3, g4⟩ := h
  refine ⟨⟨a1, ?_, fun q => ?_⟩, ⟨b1, ?_, b3, ?_, b5, ?_⟩, fun m hm => ?_, fun k hk => ?_, fun x hx => ?_, ⟨ag, am, qu, fun m hm => ?_, f2, fun k hk => ?_, f4, ?_, ?_, q, ?_, f8⟩, hb, g1, g2, ?_, fun x hx => ?_⟩
  · rw [hF 10 (by omega) (by omega) (by omega) (by omega)]; exact a2
  · rw [hF 0 (by omega) (by omega) (by omega) (by omega), hF 1 (by omega) (by omega) (by omega) (by omega), hF 2 (by omega) (by omega) (by omega) (by omega)]; exact a3 q
  · rw [hF 3 (by omega) (by omega) (by omega) (by omega)]; exact b2
  · rw [hF 4 (by omega) (by omega) (by omega) (by omega)]; exact b4
  · rw [hF 8 (by omega) (by omega) (by omega) (by omega)]; exact b6
  · rw [hF (11 + 3 * m) (by omega) (by omega) (by omega) (by omega), hF (12 + 3 * m) (by omega) (by omega) (by omega) (by omega), hF (13 + 3 * m) (by omega) (by omega) (by omega) (by omega), hF (44 + m) (by omega) (by omega) (by omega) (by omega), hF (55 + m) (by omega) (by omega) (by omega) (by omega)]; exact c m hm
  · rw [hF (29 + 3 * k) (by omega) (by omega) (by omega) (by omega), hF (30 + 3 * k) (by omega) (by omega) (by omega) (by omega), hF (31 + 3 * k) (by omega) (by omega) (by omega) (by omega), hF (50 + k) (by omega) (by omega) (by omega) (by omega)]; exact d k hk
  · rw [hF (61 + x) (by omega) (by omega) (by omega) (by omega)]; exact e x hx
  · rw [hF (44 + m) (by omega) (by omega) (by omega) (by omega), hF (55 + m) (by omega) (by omega) (by omega) (by omega)]; exact f1 m hm
  · rw [hF (50 + k) (by omega) (by omega) (by omega) (by omega)]; exact f3 k hk
  · rw [hF 5 (by omega) (by omega) (by omega) (by omega)]; exact f5
  · rw [hF 6 (by omega) (by omega) (by omega) (by omega)]; exact f6
  · rw [hF 7 (by omega) (by omega) (by omega) (by omega)]; exact f7
  · rw [hF 9 (by omega) (by omega) (by omega) (by omega)]; exact g3
  · rw [hF (66 + x) (by omega) (by omega) (by omega) (by omega)]; exact g4 x hx
theorem NR_cg {nam me mo ch : Nat} {nw : Nat → Int64} {so nu : Nat → Int32} {F F' : Nat → Int32} (h1 : me ≤ 6) (h2 : mo ≤ 5) (h3 : ch ≤ 5) (hF : ∀ j, 69 ≤ j → j < 213 → F' j = F j) (h : NR nam me mo ch nw so nu F) : NR nam me mo ch nw so nu F' := by
  obtain ⟨a, b, c⟩ := h
  refine ⟨fun i hi => ?_, fun n hn hz => ?_, c⟩
  · obtain ⟨p1, ns, p2, p3, p4, p5, p6⟩ := a i hi
    have hs := nsl_16 p1 h1 h2 h3
    refine ⟨p1, ns, p2, ?_, p4, fun j hj => ?_, ?_⟩
    · rw [hF _ (by omega) (by omega)]; exact p3
    · have := p5 j hj
      dsimp only at this ⊢
      rw [hF _ (by omega) (by omega)]
      exact this
    · rw [p6]
      refine tk_w_cg ns (fun j hj => ?_)
      rw [hF _ (by omega) (by omega)]
  · rw [hF _ (by omega) (by omega)] at hz
    exact b n hn hz
/-- a name more -/
theorem NR_new {nam me mo ch me' mo' ch' n ns : Nat} {nw nw' : Nat → Int64} {so nu so' nu' : Nat → Int32} {F F' L : Nat → Int32} {W : Int64} {s a : Int32} (h1 : me ≤ 6) (h2 : mo ≤ 5) (h3 : ch ≤ 5) (l1 : me ≤ me') (l2 : mo ≤ mo') (l3 : ch ≤ ch') (h : NR nam me mo ch nw so nu F) (hn : n < 16) (hsl : nsl s a = n) (hv : nmv me' mo' ch' s a) (hfree : F (69 + n) = 0) (hpos : 0 < ns) (hw : wrep W L ns) (hnew : ∀ i, i < nam → nw i ≠ W) (e1 : ∀ i, nw' i = if i = nam then W else nw i) (e2 : ∀ i, so' i = if i = nam then s else so i) (e3 : ∀ i, nu' i = if i = nam then a else nu i) (hF : ∀ j, 69 ≤ j → j < 213 → F' j = nnF F L n ns j) : NR (nam + 1) me' mo' ch' nw' so' nu' F' := by
  obtain ⟨p, q, r⟩ := h
  have hn8 := hw.1
  have old : ∀ i, i < nam → nw' i = nw i ∧ so' i = so i ∧ nu' i = nu i := fun i hi => by
    rw [e1, e2, e3, if_neg (by omega), if_neg (by omega), if_neg (by omega)]
    exact ⟨rfl, rfl, rfl⟩
  have new : nw' nam = W ∧ so' nam = s ∧ nu' nam = a := by
    rw [e1, e2, e3, if_pos rfl, if_pos rfl, if_pos rfl]
    exact ⟨rfl, rfl, rfl⟩
  refine ⟨fun i hi => ?_, fun m hm hz => ?_, fun i j hi hj he => ?_⟩
  · rcases Nat.lt_or_ge i nam with hc | hc
    · obtain ⟨o1, o2, o3⟩ := old i hc
      rw [o1, o2, o3]
      obtain ⟨p1, ns', p2, p3, p4, p5, p6⟩ := p i hc
      have hs := nsl_16 p1 h1 h2 h3
      have hne : nsl (so i) (nu i) ≠ n := fun hh => by
        rw [hh, hfree] at p3
        have := ofn_inj (a := 0) (b := ns') (by omega) (by omega) p3
        omega
      have hk : ∀ k, k < 8 → F' (85 + 8 * nsl (so i) (nu i) + k) = F (85 + 8 * nsl (so i) (nu i) + k) := fun k hk => by
        rw [hF _ (by omega) (by omega)]
        unfold nnF
        rw [if_neg (by omega), if_neg (by omega)]
      refine ⟨nmv_up p1 l1 l2 l3, ns', p2, ?_, p4, fun j hj => ?_, ?_⟩
      · rw [hF _ (by omega) (by omega)]
        unfold nnF
        rw [if_neg (by omega), if_neg (by omega)]
        exact p3
      · have := p5 j hj
        dsimp only at this ⊢
        rw [hk j (by omega)]
        exact this
      · rw [p6]
        refine tk_w_cg ns' (fun j hj => ?_)
        rw [hk j (by omega)]
    · have : i = nam := by omega
      subst this
      obtain ⟨o1, o2, o3⟩ := new
      rw [o1, o2, o3, hsl]
      have hk : ∀ k, k < ns → F' (85 + 8 * n + k) = L k := fun k hk => by
        rw [hF _ (by omega) (by omega)]
        unfold nnF
        rw [if_neg (by omega), if_pos (by omega), Nat.add_sub_cancel_left]
      refine ⟨hv, ns, hpos, ?_, hn8, fun j hj => ?_, ?_⟩
      · rw [hF _ (by omega) (by omega)]
        unfold nnF
        rw [if_pos rfl]
      · dsimp only
        rw [hk j hj]
        exact hw.2.1 j hj
      · rw [hw.2.2]
        refine tk_w_cg ns (fun j hj => ?_)
        rw [hk j hj]
  · by_cases hmn : m = n
    · exact ⟨nam, by omega, by rw [new.2.1, new.2.2, hsl, hmn]⟩
    · rw [hF _ (by omega) (by omega)] at hz
      unfold nnF at hz
      rw [if_neg (by omega), if_neg (by omega)] at hz
      obtain ⟨i, hi, hin⟩ := q m hm hz
      exact ⟨i, by omega, by rw [(old i hi).2.1, (old i hi).2.2]; exact hin⟩
  · rcases Nat.lt_or_ge i nam with ci | ci
    · rcases Nat.lt_or_ge j nam with cj | cj
      · rw [(old i ci).1, (old j cj).1] at he
        exact r i j ci cj he
      · have : j = nam := by omega
        subst this
        rw [(old i ci).1, new.1] at he
        exact absurd he (hnew i ci)
    · have : i = nam := by omega
      subst this
      rcases Nat.lt_or_ge j i with cj | cj
      · rw [(old j cj).1, new.1] at he
        exact absurd he.symm (hnew j cj)
      · omega
