noncomputable def mR (me c : Nat) (M : cm_M) (row : Nat → Int32) : Prop := (∀ m, m < me → M.1 (c + 1) m = row m) ∧ (∀ q, q < 3 → M.1 (c + 2) q = row (6 + q)) ∧ M.1 c 2 = row 9 ∧ M.1 c 3 = row 10 ∧ ∃ w, w ≤ 999 ∧ row 10 = Int32.ofNat w
theorem mR_cg {me c : Nat} {M M' : cm_M} {row row' : Nat → Int32} (h : mR me c M row) (hme : me ≤ 6) (h1 : ∀ j, j < 6 → M'.1 (c + 1) j = M.1 (c + 1) j) (h2 : ∀ q, q < 3 → M'.1 (c + 2) q = M.1 (c + 2) q) (h3 : M'.1 c 2 = M.1 c 2) (h4 : M'.1 c 3 = M.1 c 3) (hr : ∀ j, j < 11 → row' j = row j) : mR me c M' row' := by
  obtain ⟨a, b, c1, d, w, w1, w2⟩ := h
  exact ⟨fun m hm => by rw [h1 m (by omega), hr m (by omega)]; exact a m hm, fun q hq => by rw [h2 q hq, hr _ (by omega)]; exact b q hq, by rw [h3, hr 9 (by omega)]; exact c1, by rw [h4, hr 10 (by omega)]; exact d, w, w1, by rw [hr 10 (by omega)]; exact w2⟩
/-- another object of minutes that holds the same -/
theorem mR_to {me c e : Nat} {M M' : cm_M} {row row' : Nat → Int32} (h : mR me c M row) (hme : me ≤ 6) (h1 : ∀ j, j < 6 → M'.1 (e + 1) j = M.1 (c + 1) j) (h2 : ∀ q, q < 3 → M'.1 (e + 2) q = M.1 (c + 2) q) (h3 : M'.1 e 2 = M.1 c 2) (h4 : M'.1 e 3 = M.1 c 3) (hr : ∀ j, j < 11 → row' j = row j) : mR me e M' row' := by
  obtain ⟨a, b, c1, d, w, w1, w2⟩ := h
  exact ⟨fun m hm => by rw [h1 m (by omega), hr m (by omega)]; exact a m hm, fun q hq => by rw [h2 q hq, hr _ (by omega)]; exact b q hq, by rw [h3, hr 9 (by omega)]; exact c1, by rw [h4, hr 10 (by omega)]; exact d, w, w1, by rw [hr 10 (by omega)]; exact w2⟩
/-- where the ring's entry of the i-th act is -/
noncomputable def rg (nx u i : Nat) : Nat := (nx + 16 - u + i) % 16
noncomputable def SQ (me nx u gi : Nat) (M : cm_M) : Prop := mR me 32 M (M.1 129) ∧ (nx < 16 ∧ u ≤ 16 ∧ gi ≤ 3) ∧ (M.1 38 2 = Int32.ofNat nx ∧ M.1 38 3 = Int32.ofNat u ∧ M.1 124 20 = Int32.ofNat u ∧ M.1 38 4 = Int32.ofNat gi ∧ M.1 124 21 = Int32.ofNat gi) ∧ (∀ i, i < u → mR me (41 + 3 * rg nx u i) M (fun j => M.1 130 (11 * i + j))) ∧ ∀ i, i < gi → mR me (89 + 3 * i) M (fun j => M.1 131 (11 * i + j))
noncomputable def ST (me : Nat) (M : cm_M) : Prop := ∃ nx u gi, SQ me nx u gi M
/-- cells of the class's state, of the reference's -/
noncomputable def sc_C (d : Nat) : Prop := (32 ≤ d ∧ d ≤ 34) ∨ (41 ≤ d ∧ d ≤ 97)
theorem SQ_cg {me nx u gi : Nat} {M M' : cm_M} (h : SQ me nx u gi M) (hme : me ≤ 6) (h1 : ∀ d j, sc_C d → M'.1 d j = M.1 d j) (h2 : ∀ j, M'.1 129 j = M.1 129 j ∧ M'.1 130 j = M.1 130 j ∧ M'.1 131 j = M.1 131 j) (h3 : M'.1 38 2 = M.1 38 2 ∧ M'.1 38 3 = M.1 38 3 ∧ M'.1 38 4 = M.1 38 4) (h4 : M'.1 124 20 = M.1 124 20 ∧ M'.1 124 21 = M.1 124 21) : SQ me nx u gi M' := by
  obtain ⟨a, b, ⟨c1, c2, c3, c4, c5⟩, d, e⟩ := h
  have k : ∀ c row row', mR me c M row → (sc_C c ∧ sc_C (c + 1) ∧ sc_C (c + 2)) → (∀ j, j < 11 → row' j = row j) → mR me c M' row' := fun c row row' hr hc hrr => mR_cg hr hme (fun j _ => h1 _ j hc.2.1) (fun q _ => h1 _ q hc.2.2) (h1 _ 2 hc.1) (h1 _ 3 hc.1) hrr
  refine ⟨k _ _ _ a (by unfold sc_C; omega) (fun j _ => (h2 j).1), b, ⟨h3.1.trans c1, h3.2.1.trans c2, h4.1.trans c3, h3.2.2.trans c4, h4.2.trans c5⟩, fun i hi => k _ _ _ (d i hi) ?_ (fun j _ => (h2 _).2.1), fun i hi => k _ _ _ (e i hi) ?_ (fun j _ => (h2 _).2.2)⟩
  · have : rg nx u i < 16 := Nat.mod_lt _ (by decide)
    unfold sc_C
    omega
  · unfold sc_C
    omega
/-- an act on both sides -/
theorem SQ_act {me nx u gi : Nat} {M M1 M2 : cm_M} {H F R : Nat → Int32} {ca we : Int32} (h : SQ me nx u gi M) (hme : me ≤ 6) (hC : actC nx u M M1 H F ca we) (hD : actM u M1 M2 R) (hH : ∀ m, m < me → H m = R m) (hF : ∀ q, q < 3 → F q = R (6 + q)) (hca : ca = R 9) (hwe : we = R 10) (hw : ∃ w, w ≤ 999 ∧ R 10 = Int32.ofNat w) : SQ me ((nx + 1) % 16) (min 16 (u + 1)) gi M2 := by
  obtain ⟨a, ⟨b1, b2, b3⟩, ⟨c1, c2, c3, c4, c5⟩, d, e⟩ := h
  obtain ⟨p1, p2, ⟨p3, p4, p5, p6⟩, ⟨p7, p8, p9, p10⟩, p11, p12, p13⟩ := hC
  obtain ⟨q1, q2, q3, q4, q5, q6, q7⟩ := hD
  have hm16 : (nx + 1) % 16 < 16 := Nat.mod_lt _ (by decide)
  -- the class's cells behind both
  have kc : ∀ x j, x < 124 → M2.1 x j = M1.1 x j := fun x j hx => q2 x j (by omega) (by omega) (by omega)
  have kd : ∀ x j, 127 ≤ x → M1.1 x j = M.1 x j := fun x j hx => p2 x j (by omega) (by omega) (by omega) (by omega) (by omega) (by omega) (by omega) (by omega)
  have old : ∀ c, 41 ≤ c → c ≤ 95 → (c - 41) % 3 = 0 → c ≠ 41 + 3 * nx → ∀ row row', mR me c M row → (∀ j, j < 11 → row' j = row j) → mR me c M2 row' := fun c h1 h2 h3 h4 row row' hr hrr =>
    mR_cg hr hme (fun j _ => (kc _ j (by omega)).trans (p2 _ j (by omega) (by omega) (by omega) (by omega) (by omega) (by omega) (by omega) (by omega))) (fun q _ => (kc _ q (by omega)).trans (p2 _ q (by omega) (by omega) (by omega) (by omega) (by omega) (by omega) (by omega) (by omega))) ((kc _ 2 (by omega)).trans (p2 _ 2 (by omega) (by omega) (by omega) (by omega) (by omega) (by omega) (by omega) (by omega))) ((kc _ 3 (by omega)).trans (p2 _ 3 (by omega) (by omega) (by omega) (by omega) (by omega) (by omega) (by omega) (by omega))) hrr
  refine ⟨⟨fun m hm => ?_, fun q hq => ?_, ?_, ?_, ?_⟩, ⟨hm16, by omega, b3⟩, ⟨?_, ?_, q4, ?_, ?_⟩, fun i hi => ?_, fun i hi => ?_⟩
  · rw [kc _ _ (by omega), p7 m (by omega), q7 m (by omega)]
    exact hH m hm
  · rw [kc _ _ (by omega), p8 q hq, q7 _ (by omega)]
    exact hF q hq
  · rw [kc _ _ (by omega), p9, q7 9 (by omega)]
    exact hca
  · rw [kc _ _ (by omega), p10, q7 10 (by omega)]
    exact hwe
  · obtain ⟨w, w1, w2⟩ := hw
    exact ⟨w, w1, (q7 10 (by omega)).trans w2⟩
  · rw [kc _ _ (by omega)]
    exact p11
  · rw [kc _ _ (by omega)]
    exact p12
  · rw [kc _ _ (by omega), p13]
    exact c4
  · rw [q2 124 21 (by omega) (by omega) (by omega), p2 124 21 (by omega) (by omega) (by omega) (by omega) (by omega) (by omega) (by omega) (by omega)]
    exact c5
  · rcases Nat.lt_or_ge i (min u 15) with hs | hs
    · have e1 : rg ((nx + 1) % 16) (min 16 (u + 1)) i = rg nx u (i + (u + 1 - min 16 (u + 1))) := by
        unfold rg
        omega
      have e2 : rg nx u (i + (u + 1 - min 16 (u + 1))) ≠ nx := by
        unfold rg
        omega
      have e3 : rg nx u (i + (u + 1 - min 16 (u + 1))) < 16 := Nat.mod_lt _ (by decide)
      rw [e1]
      refine old _ (by omega) (by omega) (by omega) (by omega) _ _ (d _ (by omega)) (fun j hj => ?_)
      try dsimp only
      rw [q5 i j hs hj]
      exact kd 130 _ (by omega)
    · have ei : i = min u 15 := by omega
      have e1 : rg ((nx + 1) % 16) (min 16 (u + 1)) i = nx := by
        unfold rg
        omega
      rw [e1]
      refine mR_to a hme (fun j hj => ?_) (fun q hq => ?_) ?_ ?_ (fun j hj => ?_)
      · rw [kc _ _ (by omega)]
        exact p3 j hj
      · rw [kc _ _ (by omega)]
        exact p4 q hq
      · rw [kc _ _ (by omega)]
        exact p5
      · rw [kc _ _ (by omega)]
        exact p6
      · try dsimp only
        rw [ei, q6 j hj]
        exact kd 129 _ (by omega)
  · refine old _ (by omega) (by omega) (by omega) (by omega) _ _ (e i hi) (fun j hj => ?_)
    try dsimp only
    rw [q2 131 _ (by omega) (by omega) (by omega)]
    exact kd 131 _ (by omega)
/-- an act undone on both sides -/
theorem SQ_undo {me nx u gi : Nat} {M Mb M2 : cm_M} (h : SQ me nx u gi M) (hme : me ≤ 6) (hu : u ≠ 0) (hC : nowR (41 + 3 * ((nx + 15) % 16)) M Mb) (h2 : Mb.1 38 2 = Int32.ofNat ((nx + 15) % 16)) (h3 : Mb.1 38 3 = Int32.ofNat (u - 1)) (h4 : Mb.1 38 4 = M.1 38 4) (hD : stM 130 (11 * (u - 1)) (cm_wi Mb 0 14 0) M2) (h20 : M2.1 124 20 = Int32.ofNat (u - 1)) : SQ me ((nx + 15) % 16) (u - 1) gi M2 := by
  obtain ⟨a, ⟨b1, b2, b3⟩, ⟨c1, c2, c3, c4, c5⟩, d, e⟩ := h
  obtain ⟨p1, p2, p3, p4, p5, p6⟩ := hC
  obtain ⟨q1, q2, q3, q4⟩ := hD
  have hm16 : (nx + 15) % 16 < 16 := Nat.mod_lt _ (by decide)
  have kc : ∀ x j, x ≠ 129 → ¬ (x = 124 ∧ (j = 0 ∨ j = 11 ∨ j = 20)) → ¬ (x = 0 ∧ j = 14) → M2.1 x j = Mb.1 x j := fun x j h1 h2 h3 => (q2 x j h1 h2).trans (wi_n2 h3)
  have km : ∀ x j, x ≠ 38 → x ≠ 32 → x ≠ 33 → x ≠ 34 → x ≠ 129 → x ≠ 124 → x ≠ 0 → M2.1 x j = M.1 x j := fun x j h1 h2 h3 h4 h5 h6 h7 => (kc x j h5 (by omega) (by omega)).trans (p2 x j h1 h2 h3 h4)
  have kr : ∀ j, (cm_wi Mb 0 14 0).1 130 j = M.1 130 j := fun j => (wi_n2 (by omega)).trans (p2 130 j (by omega) (by omega) (by omega) (by omega))
  have el : rg nx u (u - 1) = (nx + 15) % 16 := by
    unfold rg
    omega
  have dl := d (u - 1) (by omega)
  rw [el] at dl
  refine ⟨?_, ⟨hm16, by omega, b3⟩, ⟨?_, ?_, h20, ?_, ?_⟩, fun i hi => ?_, fun i hi => ?_⟩
  · refine mR_to dl hme (fun j hj => ?_) (fun q hq => ?_) ?_ ?_ (fun j hj => ?_)
    · rw [kc _ _ (by omega) (by omega) (by omega)]
      exact p3 j hj
    · rw [kc _ _ (by omega) (by omega) (by omega)]
      exact p4 q hq
    · rw [kc _ _ (by omega) (by omega) (by omega)]
      exact p5
    · rw [kc _ _ (by omega) (by omega) (by omega)]
      exact p6
    · rw [q4 j hj]
      exact kr _
  · rw [kc _ _ (by omega) (by omega) (by omega)]
    exact h2
  · rw [kc _ _ (by omega) (by omega) (by omega)]
    exact h3
  · rw [kc _ _ (by omega) (by omega) (by omega), h4]
    exact c4
  · rw [kc _ _ (by omega) (by omega) (by omega), p2 _ _ (by omega) (by omega) (by omega) (by omega)]
    exact c5
  · have e1 : rg ((nx + 15) % 16) (u - 1) i = rg nx u i := by
      unfold rg
      omega
    have e3 : rg nx u i < 16 := Nat.mod_lt _ (by decide)
    rw [e1]
    exact mR_cg (d i (by omega)) hme (fun j _ => km _ j (by omega) (by omega) (by omega) (by omega) (by omega) (by omega) (by omega)) (fun q _ => km _ q (by omega) (by omega) (by omega) (by omega) (by omega) (by omega) (by omega)) (km _ 2 (by omega) (by omega) (by omega) (by omega) (by omega) (by omega) (by omega)) (km _ 3 (by omega) (by omega) (by omega) (by omega) (by omega) (by omega) (by omega)) (fun j _ => km 130 _ (by omega) (by omega) (by omega) (by omega) (by omega) (by omega) (by omega))
  · exact mR_cg (e i hi) hme (fun j _ => km _ j (by omega) (by omega) (by omega) (by omega) (by omega) (by omega) (by omega)) (fun q _ => km _ q (by omega) (by omega) (by omega) (by omega) (by omega) (by omega) (by omega)) (km _ 2 (by omega) (by omega) (by omega) (by omega) (by omega) (by omega) (by omega)) (km _ 3 (by omega) (by omega) (by omega) (by omega) (by omega) (by omega) (by omega)) (fun j _ => km 131 _ (by omega) (by omega) (by omega) (by omega) (by omega) (by omega) (by omega))
/-- gone back to an image on both sides -/
theorem SQ_back {me nx u gi i : Nat} {M Mb M2 : cm_M} (h : SQ me nx u gi M) (hme : me ≤ 6) (hi : i < gi) (hC : nowR (89 + 3 * i) M Mb) (h2 : Mb.1 38 2 = M.1 38 2) (h3 : Mb.1 38 3 = 0) (h4 : Mb.1 38 4 = M.1 38 4) (hD : stM 131 (11 * i) (cm_wi Mb 0 14 0) M2) (h20 : M2.1 124 20 = 0) : SQ me nx 0 gi M2 := by
  obtain ⟨a, ⟨b1, b2, b3⟩, ⟨c1, c2, c3, c4, c5⟩, d, e⟩ := h
  obtain ⟨p1, p2, p3, p4, p5, p6⟩ := hC
  obtain ⟨q1, q2, q3, q4⟩ := hD
  have kc : ∀ x j, x ≠ 129 → ¬ (x = 124 ∧ (j = 0 ∨ j = 11 ∨ j = 20)) → ¬ (x = 0 ∧ j = 14) → M2.1 x j = Mb.1 x j := fun x j h1 h2 h3 => (q2 x j h1 h2).trans (wi_n2 h3)
  have km : ∀ x j, x ≠ 38 → x ≠ 32 → x ≠ 33 → x ≠ 34 → x ≠ 129 → x ≠ 124 → x ≠ 0 → M2.1 x j = M.1 x j := fun x j h1 h2 h3 h4 h5 h6 h7 => (kc x j h5 (by omega) (by omega)).trans (p2 x j h1 h2 h3 h4)
  have kr : ∀ j, (cm_wi Mb 0 14 0).1 131 j = M.1 131 j := fun j => (wi_n2 (by omega)).trans (p2 131 j (by omega) (by omega) (by omega) (by omega))
  refine ⟨?_, ⟨b1, by omega, b3⟩, ⟨?_, ?_, h20, ?_, ?_⟩, fun i hi => absurd hi (Nat.not_lt_zero i), fun i hi => ?_⟩
  · refine mR_to (e i hi) hme (fun j hj => ?_) (fun q hq => ?_) ?_ ?_ (fun j hj => ?_)
    · rw [kc _ _ (by omega) (by omega) (by omega)]
      exact p3 j hj
    · rw [kc _ _ (by omega) (by omega) (by omega)]
      exact p4 q hq
    · rw [kc _ _ (by omega) (by omega) (by omega)]
      exact p5
    · rw [kc _ _ (by omega) (by omega) (by omega)]
      exact p6
    · rw [q4 j hj]
      exact kr _
  · rw [kc _ _ (by omega) (by omega) (by omega), h2]
    exact c1
  · rw [kc _ _ (by omega) (by omega) (by omega)]
    exact h3
  · rw [kc _ _ (by omega) (by omega) (by omega), h4]
    exact c4
  · rw [kc _ _ (by omega) (by omega) (by omega), p2 _ _ (by omega) (by omega) (by omega) (by omega)]
    exact c5
  · exact mR_cg (e i hi) hme (fun j _ => km _ j (by omega) (by omega) (by omega) (by omega) (by omega) (by omega) (by omega)) (fun q _ => km _ q (by omega) (by omega) (by omega) (by omega) (by omega) (by omega) (by omega)) (km _ 2 (by omega) (by omega) (by omega) (by omega) (by omega) (by omega) (by omega)) (km _ 3 (by omega) (by omega) (by omega) (by omega) (by omega) (by omega) (by omega)) (fun j _ => km 131 _ (by omega) (by omega) (by omega) (by omega) (by omega) (by omega) (by omega))
/-- an image more on both sides -/
theorem SQ_draw {me nx u gi : Nat} {M Mb M2 : cm_M} (h : SQ me nx u gi M) (hme : me ≤ 6) (hg : gi < 3) (hC : drawR gi M Mb) (hD : drawM gi (cm_wi Mb 0 14 0) M2) : SQ me nx u (gi + 1) M2 := by
  obtain ⟨a, ⟨b1, b2, b3⟩, ⟨c1, c2, c3, c4, c5⟩, d, e⟩ := h
  obtain ⟨p1, p2, p3, p4, ⟨p5, p6⟩, p7⟩ := hC
  obtain ⟨q1, q2, q3, q4, q5, q6⟩ := hD
  have kc : ∀ x j, x ≠ 131 → ¬ (x = 124 ∧ (j = 0 ∨ j = 11 ∨ j = 21)) → ¬ (x = 0 ∧ j = 14) → M2.1 x j = Mb.1 x j := fun x j h1 h2 h3 => (q2 x j h1 h2).trans (wi_n2 h3)
  have km : ∀ x j, ¬ (x = 38 ∧ j = 4) → x ≠ 89 + 3 * gi → x ≠ 89 + 3 * gi + 1 → x ≠ 89 + 3 * gi + 2 → x ≠ 131 → x ≠ 124 → x ≠ 0 → M2.1 x j = M.1 x j := fun x j h1 h2 h3 h4 h5 h6 h7 => (kc x j h5 (by omega) (by omega)).trans (p2 x j h1 h2 h3 h4)
  have kr : ∀ x j, 125 ≤ x → (cm_wi Mb 0 14 0).1 x j = M.1 x j := fun x j hx => (wi_n2 (by omega)).trans (p2 x j (by omega) (by omega) (by omega) (by omega))
  have old : ∀ c, 32 ≤ c → (c = 32 ∨ (41 ≤ c ∧ c + 2 < 89 + 3 * gi)) → ∀ row row', mR me c M row → (∀ j, j < 11 → row' j = row j) → mR me c M2 row' := fun c h1 h2 row row' hr hrr =>
    mR_cg hr hme (fun j _ => km _ j (by omega) (by omega) (by omega) (by omega) (by omega) (by omega) (by omega)) (fun q _ => km _ q (by omega) (by omega) (by omega) (by omega) (by omega) (by omega) (by omega)) (km _ 2 (by omega) (by omega) (by omega) (by omega) (by omega) (by omega) (by omega)) (km _ 3 (by omega) (by omega) (by omega) (by omega) (by omega) (by omega) (by omega)) hrr
  refine ⟨old 32 (by omega) (by omega) _ _ a (fun j _ => km 129 _ (by omega) (by omega) (by omega) (by omega) (by omega) (by omega) (by omega)), ⟨b1, b2, by omega⟩, ⟨?_, ?_, ?_, ?_, q4⟩, fun i hi => ?_, fun i hi => ?_⟩
  · rw [km _ _ (by omega) (by omega) (by omega) (by omega) (by omega) (by omega) (by omega)]
    exact c1
  · rw [km _ _ (by omega) (by omega) (by omega) (by omega) (by omega) (by omega) (by omega)]
    exact c2
  · rw [kc _ _ (by omega) (by omega) (by omega), p2 _ _ (by omega) (by omega) (by omega) (by omega)]
    exact c3
  · rw [kc _ _ (by omega) (by omega) (by omega)]
    exact p7
  · have e3 : rg nx u i < 16 := Nat.mod_lt _ (by decide)
    exact old _ (by omega) (by omega) _ _ (d i hi) (fun j _ => km 130 _ (by omega) (by omega) (by omega) (by omega) (by omega) (by omega) (by omega))
  · rcases Nat.lt_or_ge i gi with hs | hs
    · refine old _ (by omega) (by omega) _ _ (e i hs) (fun j hj => ?_)
      try dsimp only
      rw [q5 i j hs hj]
      exact kr 131 _ (by omega)
    · have ei : i = gi := by omega
      subst ei
      refine mR_to a hme (fun j hj => ?_) (fun q hq => ?_) ?_ ?_ (fun j hj => ?_)
      · rw [kc _ _ (by omega) (by omega) (by omega)]
        exact p3 j hj
      · rw [kc _ _ (by omega) (by omega) (by omega)]
        exact p4 q hq
      · rw [kc _ _ (by omega) (by omega) (by omega)]
        exact p5
      · rw [kc _ _ (by omega) (by omega) (by omega)]
        exact p6
      · try dsimp only
        rw [q6 j hj]
        exact kr 129 _ (by omega)
