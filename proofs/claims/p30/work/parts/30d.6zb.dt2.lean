/-! THE TWO TOWNS: a motion, a chair more; the town's own line -/
theorem DT_motion {T N me mo ch ns : Nat} {C C7 : cm_M} {F F' L : Nat → Int32} {c hh vv : Int32} (hT : 6 ≤ T) (hd : DT T me mo ch C F) (hmo : mo < 5) (y0 : C.1 2 9 = 0) (y1 : cF_newChk C = C) (y2 : cF_name C = -1) (hK : KN (cF_newName N 2 (C.1 T 9) C) C7) (hKC : KC C C7) (hpos : 0 < ns) (hw : wrep (C.2.1 2 6) L ns) (hF : ∀ j, j < 213 → F' j = if j = 4 then Int32.ofNat (mo + 1) else if j = 31 + 3 * mo then vv else if j = 30 + 3 * mo then hh else if j = 29 + 3 * mo then c else nnF F L (6 + mo) ns j) : DT T me (mo + 1) ch (cF_addMotion T c hh vv C7) F' := by
  obtain ⟨hN, hR⟩ := hd
  have hN' := hN
  obtain ⟨c1, c2, c3, c4, c5, c6⟩ := hN'
  have hR' := hR
  obtain ⟨⟨a1, a2, a3⟩, ⟨b1, b2, b3, b4, b5, b6⟩, d1, d2, d3, ⟨ag, am, qu, f1, f2, f3, f4, f5, f6, q, f7, f8⟩, hb, g1, g2, g3, g4⟩ := hR'
  have m0 : C.1 T 9 = Int32.ofNat mo := b3
  have m7 : C7.1 T 9 = Int32.ofNat mo := (hKC.1 T 9 hT).trans m0
  have e := addMotion_eq (c := c) (h0 := hh) (v0 := vv) m7 hmo
  have hlo : ∀ x j, x < 6 → (cF_addMotion T c hh vv C7).1 x j = C7.1 x j := fun x j hx => by
    rw [e]
    show (if x = T ∧ j = 9 then _ else if x = T + 9 ∧ j = mo then _ else if x = T + 8 ∧ j = mo then _ else if x = T + 7 ∧ j = mo then _ else if x = T + 6 ∧ j = mo then _ else _) = _
    rw [if_neg (by omega), if_neg (by omega), if_neg (by omega), if_neg (by omega), if_neg (by omega)]
  have h2 : (cF_addMotion T c hh vv C7).2 = C7.2 := by rw [e]; rfl
  have old : ∀ i j, ¬ (i = 0 ∧ j = 9) → ¬ (6 ≤ i ∧ i ≤ 9 ∧ j = mo) → DA T (cF_addMotion T c hh vv C7) i j = DA T C i j := fun i j p1 p2 => by
    rw [e]
    show (if T + i = T ∧ j = 9 then _ else if T + i = T + 9 ∧ j = mo then _ else if T + i = T + 8 ∧ j = mo then _ else if T + i = T + 7 ∧ j = mo then _ else if T + i = T + 6 ∧ j = mo then _ else C7.1 (T + i) j) = _
    rw [if_neg (by omega), if_neg (by omega), if_neg (by omega), if_neg (by omega), if_neg (by omega)]
    exact hKC.1 _ _ (by omega)
  have n0 : DA T (cF_addMotion T c hh vv C7) 0 9 = Int32.ofNat (mo + 1) := by
    rw [e]
    show (if T + 0 = T ∧ 9 = 9 then _ else _) = _
    rw [if_pos ⟨rfl, rfl⟩]
  have nx : ∀ i, 6 ≤ i → i ≤ 9 → DA T (cF_addMotion T c hh vv C7) i mo = if i = 9 then 0 else if i = 8 then vv else if i = 7 then hh else c := fun i p1 p2 => by
    rw [e]
    show (if T + i = T ∧ mo = 9 then _ else if T + i = T + 9 ∧ mo = mo then _ else if T + i = T + 8 ∧ mo = mo then _ else if T + i = T + 7 ∧ mo = mo then _ else if T + i = T + 6 ∧ mo = mo then _ else C7.1 (T + i) mo) = _
    rw [if_neg (by omega)]
    by_cases q4 : i = 9
    · rw [if_pos ⟨by omega, rfl⟩, if_pos q4]
    · rw [if_neg (by omega), if_neg q4]
      by_cases q3 : i = 8
      · rw [if_pos ⟨by omega, rfl⟩, if_pos q3]
      · rw [if_neg (by omega), if_neg q3]
        by_cases q2 : i = 7
        · rw [if_pos ⟨by omega, rfl⟩, if_pos q2]
        · rw [if_neg (by omega), if_neg q2, if_pos ⟨by omega, rfl⟩]
  have hFo : ∀ j, j < 69 → j ≠ 4 → ¬ (29 + 3 * mo ≤ j ∧ j < 32 + 3 * mo) → F' j = F j := fun j j1 j2 j3 => by
    rw [hF j (by omega), if_neg j2, if_neg (by omega), if_neg (by omega), if_neg (by omega)]
    unfold nnF
    rw [if_neg (by omega), if_neg (by omega)]
  have f50 := (f3 mo (by omega)).2
  rw [f4 mo (by omega)] at f50
  refine ⟨?_, ?_⟩
  · have hn := NC_new (N := N) (C' := cF_addMotion T c hh vv C7) (F' := F') (n := 6 + mo) (me' := me) (mo' := mo + 1) (ch' := ch) (s := 2) (a := C.1 T 9) hN (by omega) y0 y1 y2 (KN_tr hK ⟨hlo 2 10 (by omega), by rw [h2], funext fun j => hlo 4 j (by omega), funext fun j => hlo 5 j (by omega)⟩) (by omega) (by omega) (by omega) (by omega) (by omega) (by omega) (by omega) (by rw [m0, nsl_2 (by omega)]) (Or.inr (Or.inl ⟨rfl, mo, by omega, m0⟩)) (NR_free c3 c4 c5 c6 (Or.inr (Or.inl ⟨rfl, hmo⟩))) hpos hw (fun j j1 j2 => by rw [hF j j2, if_neg (by omega), if_neg (by omega), if_neg (by omega), if_neg (by omega)])
    rw [show me + (mo + 1) + ch = me + mo + ch + 1 by omega]
    exact hn
  · rw [show (cF_addMotion T c hh vv C7).1 2 8 = C.1 2 8 from (hlo 2 8 (by omega)).trans hKC.2]
    refine ⟨⟨a1, ?_, fun q => ?_⟩, ⟨?_, ?_, n0, ?_, ?_, ?_⟩, fun m hm => ?_, fun k hk => ?_, fun x hx => ?_, ⟨ag, am, qu, fun m hm => ?_, f2, fun k hk => ?_, fun k hk => f4 k (by omega), ?_, ?_, q, ?_, f8⟩, hb, g1, ?_, ?_, fun x hx => ?_⟩
    · rw [hFo 10 (by omega) (by omega) (by omega)]; exact a2
    · rw [old 0 0 (by omega) (by omega), old 0 1 (by omega) (by omega), old 0 2 (by omega) (by omega), hFo 0 (by omega) (by omega) (by omega), hFo 1 (by omega) (by omega) (by omega), hFo 2 (by omega) (by omega) (by omega)]; exact a3 q
    · rw [old 0 3 (by omega) (by omega)]; exact b1
    · rw [hFo 3 (by omega) (by omega) (by omega)]; exact b2
    · rw [hF 4 (by omega), if_pos rfl]
    · rw [old 0 15 (by omega) (by omega)]; exact b5
    · rw [hFo 8 (by omega) (by omega) (by omega)]; exact b6
    · rw [old 1 m (by omega) (by omega), old 2 m (by omega) (by omega), old 3 m (by omega) (by omega), old 4 m (by omega) (by omega), old 5 m (by omega) (by omega), hFo (11 + 3 * m) (by omega) (by omega) (by omega), hFo (12 + 3 * m) (by omega) (by omega) (by omega), hFo (13 + 3 * m) (by omega) (by omega) (by omega), hFo (44 + m) (by omega) (by omega) (by omega), hFo (55 + m) (by omega) (by omega) (by omega)]; exact d1 m hm
    · rcases Nat.lt_or_ge k mo with hc | hc
      · rw [old 6 k (by omega) (by omega), old 7 k (by omega) (by omega), old 8 k (by omega) (by omega), old 9 k (by omega) (by omega), hFo (29 + 3 * k) (by omega) (by omega) (by omega), hFo (30 + 3 * k) (by omega) (by omega) (by omega), hFo (31 + 3 * k) (by omega) (by omega) (by omega), hFo (50 + k) (by omega) (by omega) (by omega)]; exact d2 k hc
      · have : k = mo := by omega
        subst this
        rw [nx 6 (by omega) (by omega), nx 7 (by omega) (by omega), nx 8 (by omega) (by omega), nx 9 (by omega) (by omega), hFo (50 + k) (by omega) (by omega) (by omega), hF (29 + 3 * k) (by omega), hF (30 + 3 * k) (by omega), hF (31 + 3 * k) (by omega), f50]
        refine ⟨?_, ?_, ?_, rfl⟩
        · rw [if_neg (by omega), if_neg (by omega), if_neg (by omega), if_neg (by omega), if_neg (by omega), if_neg (by omega), if_pos rfl]
        · rw [if_neg (by omega), if_neg (by omega), if_pos rfl, if_neg (by omega), if_neg (by omega), if_pos rfl]
        · rw [if_neg (by omega), if_pos rfl, if_neg (by omega), if_pos rfl]
    · rw [old 11 x (by omega) (by omega), hFo (61 + x) (by omega) (by omega) (by omega)]; exact d3 x hx
    · rw [hFo (44 + m) (by omega) (by omega) (by omega), hFo (55 + m) (by omega) (by omega) (by omega)]; exact f1 m hm
    · rw [hFo (50 + k) (by omega) (by omega) (by omega)]; exact f3 k hk
    · rw [hFo 5 (by omega) (by omega) (by omega)]; exact f5
    · rw [hFo 6 (by omega) (by omega) (by omega)]; exact f6
    · rw [hFo 7 (by omega) (by omega) (by omega)]; exact f7
    · rw [old 0 18 (by omega) (by omega)]; exact g2
    · rw [hFo 9 (by omega) (by omega) (by omega)]; exact g3
    · rw [old 12 x (by omega) (by omega), hFo (66 + x) (by omega) (by omega) (by omega)]; exact g4 x hx
theorem DT_chair {T N me mo ch ns : Nat} {C C7 : cm_M} {F F' L : Nat → Int32} {c : Int32} (hT : 6 ≤ T) (hd : DT T me mo ch C F) (hch : ch < 5) (y0 : C.1 2 9 = 0) (y1 : cF_newChk C = C) (y2 : cF_name C = -1) (hK : KN (cF_newName N 6 (C.1 T 15) C) C7) (hKC : KC C C7) (hpos : 0 < ns) (hw : wrep (C.2.1 2 6) L ns) (hF : ∀ j, j < 213 → F' j = if j = 8 then Int32.ofNat (ch + 1) else if j = 61 + ch then c else nnF F L (11 + ch) ns j) : DT T me mo (ch + 1) (cF_addChair T c C7) F' := by
  obtain ⟨hN, hR⟩ := hd
  have hN' := hN
  obtain ⟨c1, c2, c3, c4, c5, c6⟩ := hN'
  have hR' := hR
  obtain ⟨⟨a1, a2, a3⟩, ⟨b1, b2, b3, b4, b5, b6⟩, d1, d2, d3, ⟨ag, am, qu, f1, f2, f3, f4, f5, f6, q, f7, f8⟩, hb, g1, g2, g3, g4⟩ := hR'
  have m0 : C.1 T 15 = Int32.ofNat ch := b5
  have m7 : C7.1 T 15 = Int32.ofNat ch := (hKC.1 T 15 hT).trans m0
  have e := addChair_eq (c := c) m7 hch
  have hlo : ∀ x j, x < 6 → (cF_addChair T c C7).1 x j = C7.1 x j := fun x j hx => by
    rw [e]
    show (if x = T ∧ j = 15 then _ else if x = T + 11 ∧ j = ch then _ else _) = _
    rw [if_neg (by omega), if_neg (by omega)]
  have h2 : (cF_addChair T c C7).2 = C7.2 := by rw [e]; rfl
  have old : ∀ i j, ¬ (i = 0 ∧ j = 15) → ¬ (i = 11 ∧ j = ch) → DA T (cF_addChair T c C7) i j = DA T C i j := fun i j p1 p2 => by
    rw [e]
    show (if T + i = T ∧ j = 15 then _ else if T + i = T + 11 ∧ j = ch then _ else C7.1 (T + i) j) = _
    rw [if_neg (by omega), if_neg (by omega)]
    exact hKC.1 _ _ (by omega)
  have n0 : DA T (cF_addChair T c C7) 0 15 = Int32.ofNat (ch + 1) := by
    rw [e]
    show (if T + 0 = T ∧ 15 = 15 then _ else _) = _
    rw [if_pos ⟨rfl, rfl⟩]
  have nx : DA T (cF_addChair T c C7) 11 ch = c := by
    rw [e]
    show (if T + 11 = T ∧ ch = 15 then _ else if T + 11 = T + 11 ∧ ch = ch then _ else C7.1 (T + 11) ch) = _
    rw [if_neg (by omega), if_pos ⟨rfl, rfl⟩]
  have hFo : ∀ j, j < 69 → j ≠ 8 → j ≠ 61 + ch → F' j = F j := fun j j1 j2 j3 => by
    rw [hF j (by omega), if_neg j2, if_neg j3]
    unfold nnF
    rw [if_neg (by omega), if_neg (by omega)]
  refine ⟨?_, ?_⟩
  · have hn := NC_new (N := N) (C' := cF_addChair T c C7) (F' := F') (n := 11 + ch) (me' := me) (mo' := mo) (ch' := ch + 1) (s := 6) (a := C.1 T 15) hN (by omega) y0 y1 y2 (KN_tr hK ⟨hlo 2 10 (by omega), by rw [h2], funext fun j => hlo 4 j (by omega), funext fun j => hlo 5 j (by omega)⟩) (by omega) (by omega) (by omega) (by omega) (by omega) (by omega) (by omega) (by rw [m0, nsl_6 (by omega)]) (Or.inr (Or.inr ⟨rfl, ch, by omega, m0⟩)) (NR_free c3 c4 c5 c6 (Or.inr (Or.inr ⟨rfl, hch⟩))) hpos hw (fun j j1 j2 => by rw [hF j j2, if_neg (by omega), if_neg (by omega)])
    rw [show me + mo + (ch + 1) = me + mo + ch + 1 by omega]
    exact hn
  · rw [show (cF_addChair T c C7).1 2 8 = C.1 2 8 from (hlo 2 8 (by omega)).trans hKC.2]
    refine ⟨⟨a1, ?_, fun q => ?_⟩, ⟨?_, ?_, ?_, ?_, n0, ?_⟩, fun m hm => ?_, fun k hk => ?_, fun x hx => ?_, ⟨ag, am, qu, fun m hm => ?_, f2, fun k hk => ?_, f4, ?_, ?_, q, ?_, f8⟩, hb, g1, ?_, ?_, fun x hx => ?_⟩
    · rw [hFo 10 (by omega) (by omega) (by omega)]; exact a2
    · rw [old 0 0 (by omega) (by omega), old 0 1 (by omega) (by omega), old 0 2 (by omega) (by omega), hFo 0 (by omega) (by omega) (by omega), hFo 1 (by omega) (by omega) (by omega), hFo 2 (by omega) (by omega) (by omega)]; exact a3 q
    · rw [old 0 3 (by omega) (by omega)]; exact b1
    · rw [hFo 3 (by omega) (by omega) (by omega)]; exact b2
    · rw [old 0 9 (by omega) (by omega)]; exact b3
    · rw [hFo 4 (by omega) (by omega) (by omega)]; exact b4
    · rw [hF 8 (by omega), if_pos rfl]
    · rw [old 1 m (by omega) (by omega), old 2 m (by omega) (by omega), old 3 m (by omega) (by omega), old 4 m (by omega) (by omega), old 5 m (by omega) (by omega), hFo (11 + 3 * m) (by omega) (by omega) (by omega), hFo (12 + 3 * m) (by omega) (by omega) (by omega), hFo (13 + 3 * m) (by omega) (by omega) (by omega), hFo (44 + m) (by omega) (by omega) (by omega), hFo (55 + m) (by omega) (by omega) (by omega)]; exact d1 m hm
    · rw [old 6 k (by omega) (by omega), old 7 k (by omega) (by omega), old 8 k (by omega) (by omega), old 9 k (by omega) (by omega), hFo (29 + 3 * k) (by omega) (by omega) (by omega), hFo (30 + 3 * k) (by omega) (by omega) (by omega), hFo (31 + 3 * k) (by omega) (by omega) (by omega), hFo (50 + k) (by omega) (by omega) (by omega)]; exact d2 k hk
    · rcases Nat.lt_or_ge x ch with hc | hc
      · rw [old 11 x (by omega) (by omega), hFo (61 + x) (by omega) (by omega) (by omega)]; exact d3 x hc
      · have : x = ch := by omega
        subst this
        rw [nx, hF (61 + x) (by omega), if_neg (by omega), if_pos rfl]
    · rw [hFo (44 + m) (by omega) (by omega) (by omega), hFo (55 + m) (by omega) (by omega) (by omega)]; exact f1 m hm
    · rw [hFo (50 + k) (by omega) (by omega) (by omega)]; exact f3 k hk
    · rw [hFo 5 (by omega) (by omega) (by omega)]; exact f5
    · rw [hFo 6 (by omega) (by omega) (by omega)]; exact f6
    · rw [hFo 7 (by omega) (by omega) (by omega)]; exact f7
    · rw [old 0 18 (by omega) (by omega)]; exact g2
    · rw [hFo 9 (by omega) (by omega) (by omega)]; exact g3
    · rw [old 12 x (by omega) (by omega), hFo (66 + x) (by omega) (by omega) (by omega)]; exact g4 x hx
/-- the data, where the cells that changed are told -/
theorem NC_cg {nam me mo ch : Nat} {C C' : cm_M} {F F' : Nat → Int32} (h : NC nam me mo ch C F) (hK : KN C C') (hF : ∀ j, 69 ≤ j → j < 213 → F' j = F j) : NC nam me mo ch C' F' := by
  obtain ⟨c1, c2, c3, c4, c5, c6⟩ := h
  obtain ⟨k1, k2, k3, k4⟩ := hK
  refine ⟨k1.trans c1, c2, c3, c4, c5, ?_⟩
  rw [k2, k3, k4]
  exact NR_cg c3 c4 c5 hF c6
theorem DT_cg {T me mo ch : Nat} {C C' : cm_M} {F : Nat → Int32} (hT : 6 ≤ T) (h : DT T me mo ch C F) (hK : KC C C' ∧ KN C C') : DT T me mo ch C' F := by
  refine ⟨NC_cg h.1 hK.2 (fun _ _ _ => rfl), ?_⟩
  rw [DA_cg hT hK.1, hK.1.2]
  exact h.2
theorem DT_town {T me mo ch : Nat} {C C' : cm_M} {F F' : Nat → Int32} {x y z : Int32} (hd : DT T me mo ch C F) (hK : KN C C') (h8 : C'.1 2 8 = 1) (a0 : DA T C' 0 0 = x) (a1 : DA T C' 0 1 = y) (a2 : DA T C' 0 2 = z) (old : ∀ i j, ¬ (i = 0 ∧ j < 3) → DA T C' i j = DA T C i j) (hF : ∀ j, j < 213 → F' j = if j = 10 then 1 else if j = 2 then z else if j = 1 then y else if j = 0 then x else F j) : DT T me mo ch C' F' := by
  obtain ⟨hN, ⟨-, -, -⟩, ⟨b1, b2, b3, b4, b5, b6⟩, d1, d2, d3, ⟨ag, am, qu, f1, f2, f3, f4, f5, f6, q, f7, f8⟩, hb, g1, g2, g3, g4⟩ := hd
  obtain ⟨-, -, c3, c4, c5, -⟩ := id hN
  have hFo : ∀ j, j < 213 → j ≠ 10 → ¬ j < 3 → F' j = F j := fun j j1 j2 j3 => by
    rw [hF j j1, if_neg j2, if_neg (by omega), if_neg (by omega), if_neg (by omega)]
  refine ⟨NC_cg hN hK (fun j j1 j2 => hFo j j2 (by omega) (by omega)), ?_⟩
  rw [h8]
  refine ⟨⟨Or.inr rfl, ?_, fun _ => ⟨?_, ?_, ?_⟩⟩, ⟨?_, ?_, ?_, ?_, ?_, ?_⟩, fun m hm => ?_, fun k hk => ?_, fun x hx => ?_, ⟨ag, am, qu, fun m hm => ?_, f2, fun k hk => ?_, f4, ?_, ?_, q, ?_, f8⟩, hb, g1, ?_, ?_, fun x hx => ?_⟩
  · rw [hF 10 (by omega), if_pos rfl]
  · rw [a0, hF 0 (by omega), if_neg (by omega), if_neg (by omega), if_neg (by omega), if_pos rfl]
  · rw [a1, hF 1 (by omega), if_neg (by omega), if_neg (by omega), if_pos rfl]
  · rw [a2, hF 2 (by omega), if_neg (by omega), if_pos rfl]
  · rw [old 0 3 (by omega)]; exact b1
  · rw [hFo 3 (by omega) (by omega) (by omega)]; exact b2
  · rw [old 0 9 (by omega)]; exact b3
  · rw [hFo 4 (by omega) (by omega) (by omega)]; exact b4
  · rw [old 0 15 (by omega)]; exact b5
  · rw [hFo 8 (by omega) (by omega) (by omega)]; exact b6
  · rw [old 1 m (by omega), old 2 m (by omega), old 3 m (by omega), old 4 m (by omega), old 5 m (by omega), hFo (11 + 3 * m) (by omega) (by omega) (by omega), hFo (12 + 3 * m) (by omega) (by omega) (by omega), hFo (13 + 3 * m) (by omega) (by omega) (by omega), hFo (44 + m) (by omega) (by omega) (by omega), hFo (55 + m) (by omega) (by omega) (by omega)]; exact d1 m hm
  · rw [old 6 k (by omega), old 7 k (by omega), old 8 k (by omega), old 9 k (by omega), hFo (29 + 3 * k) (by omega) (by omega) (by omega), hFo (30 + 3 * k) (by omega) (by omega) (by omega), hFo (31 + 3 * k) (by omega) (by omega) (by omega), hFo (50 + k) (by omega) (by omega) (by omega)]; exact d2 k hk
  · rw [old 11 x (by omega), hFo (61 + x) (by omega) (by omega) (by omega)]; exact d3 x hx
  · rw [hFo (44 + m) (by omega) (by omega) (by omega), hFo (55 + m) (by omega) (by omega) (by omega)]; exact f1 m hm
  · rw [hFo (50 + k) (by omega) (by omega) (by omega)]; exact f3 k hk
  · rw [hFo 5 (by omega) (by omega) (by omega)]; exact f5
  · rw [hFo 6 (by omega) (by omega) (by omega)]; exact f6
  · rw [hFo 7 (by omega) (by omega) (by omega)]; exact f7
  · rw [old 0 18 (by omega)]; exact g2
  · rw [hFo 9 (by omega) (by omega) (by omega)]; exact g3
  · have ex : DA T C' 12 = DA T C 12 := funext fun j => old 12 j (by omega)
    rw [ex, hFo (66 + x) (by omega) (by omega) (by omega)]; exact g4 x hx
