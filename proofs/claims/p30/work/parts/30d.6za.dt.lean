/-! THE TWO TOWNS: a man, a motion, a chair more -/
theorem Rq_w {N : Nat} {C D : cm_M} {i : Nat} {x : Int32} (h : Rq N C D) : Rq N C (cm_wi D 128 i x) := Rq_D h (fun c j hc => by
  show (if c = 128 ∧ j = i then _ else _) = _
  rw [if_neg (fun q => hc q.1)])
theorem wF (D : cm_M) (i j : Nat) (x : Int32) : (cm_wi D 128 i x).1 128 j = if j = i then x else D.1 128 j := by
  show (if 128 = 128 ∧ j = i then x else D.1 128 j) = _
  by_cases h : j = i
  · rw [if_pos ⟨rfl, h⟩, if_pos h]
  · rw [if_neg (fun q => h q.2), if_neg h]
theorem Rq_C {N : Nat} {C C' D : cm_M} (h : Rq N C D) (h1 : ∀ c j, c < 6 ∨ 124 ≤ c → C'.1 c j = C.1 c j) (h2 : C'.2 = C.2) : Rq N C' D := by
  have e : ∀ j, C'.1 2 j = C.1 2 j := fun j => h1 2 j (by omega)
  obtain ⟨⟨a1, ⟨b1, b2, b3, k, b4, b5⟩, a3, a4, a5, a6⟩, f⟩ := h
  refine ⟨⟨fun j hj => ?_, ⟨?_, ?_, b3, k, b4, ?_⟩, a3, ?_, ?_, ?_⟩, ?_⟩
  · rw [h1 1 j (by omega)]
    exact a1 j hj
  · rw [h2]; exact b1
  · rw [e]; exact b2
  · rw [e]; exact b5
  · rw [e]; exact a4
  · rw [e]; exact a5
  · unfold tw
    rw [e, e, h2]
    exact a6
  · unfold fl
    rw [e, e]
    exact ⟨f.1, f.2.1, fun c j q => (f.2.2 c j q).trans (h1 c j (by unfold prC at q; omega)).symm⟩
theorem z_word {N t : Nat} {C : cm_M} (h : (cF_takeWord N t C).1 2 9 = 0) : C.1 2 9 = 0 := by
  by_cases hc : C.1 2 9 = 0
  · exact hc
  · rw [tkw_id hc] at h
    exact h
theorem z_whole {N : Nat} {lo hi : Int32} {C : cm_M} (h : (cF_takeWhole N lo hi C).1 2 9 = 0) : C.1 2 9 = 0 := by
  by_cases hc : C.1 2 9 = 0
  · exact hc
  · rw [tkn_id hc] at h
    exact h
theorem z_step {N : Nat} {C : cm_M} (h : (cF_step N C).1 2 9 = 0) : C.1 2 9 = 0 := by
  rw [cF_step_9] at h
  exact h
theorem z_col {C : cm_M} (h : (cF_colour C).1 2 9 = 0) : C.1 2 9 = 0 := by
  by_cases hc : C.1 2 9 = 0
  · exact hc
  · exfalso
    have : cF_colour C = C := by
      unfold cF_colour
      split
      · rfl
      · split
        · rfl
        · split
          · rfl
          · exact cF_fail_id hc
    rw [this] at h
    exact hc h
theorem z_told {so : Int32} {C : cm_M} (h : (cF_told so C).1 2 9 = 0) : C.1 2 9 = 0 := by
  by_cases hc : C.1 2 9 = 0
  · exact hc
  · rw [told_id hc] at h
    exact h
theorem chk_1 {C : cm_M} (h0 : C.1 2 9 = 0) (h : cF_newChk C = C) : C.1 2 3 = 1 := by
  by_cases hk : C.1 2 3 = 1 ∧ cF_line C = -1
  · exact hk.1
  · exfalso
    unfold cF_newChk at h
    rw [if_neg hk] at h
    have := cF_fail_9n (x := 1) (C := C) (by decide)
    rw [h] at this
    exact this h0
/-- names behind a new one -/
theorem NC_new {N nam me mo ch me' mo' ch' n ns : Nat} {C C' : cm_M} {F F' L : Nat → Int32} {s a : Int32} (hN : NC nam me mo ch C F) (hn16 : nam < 16) (h0 : C.1 2 9 = 0) (h1 : cF_newChk C = C) (h2 : cF_name C = -1) (hK : KN (cF_newName N s a C) C') (l1 : me ≤ me') (l2 : mo ≤ mo') (l3 : ch ≤ ch') (m1 : me' ≤ 6) (m2 : mo' ≤ 5) (m3 : ch' ≤ 5) (hn : n < 16) (hsl : nsl s a = n) (hv : nmv me' mo' ch' s a) (hfree : F (69 + n) = 0) (hpos : 0 < ns) (hw : wrep (C.2.1 2 6) L ns) (hF : ∀ j, 69 ≤ j → j < 213 → F' j = nnF F L n ns j) : NC (nam + 1) me' mo' ch' C' F' := by
  obtain ⟨c1, c2, c3, c4, c5, c6⟩ := hN
  obtain ⟨k1, k2, k3, k4⟩ := hK
  have hk := chk_1 h0 h1
  have e : cF_newName N s a C = cF_step N (cm_wi (cm_wi (cm_wi (cm_wl C 3 nam (C.2.1 2 6)) 4 nam s) 5 nam a) 2 10 (C.1 2 10 + 1)) := by
    unfold cF_newName
    rw [h1]
    unfold cF_put
    rw [if_pos ⟨h0, by rw [c1, fn_toInt (by omega)]; omega⟩, c1, fn_nat (by omega)]
  obtain ⟨-, s1, s2, s3, s4⟩ := K_step N (cm_wi (cm_wi (cm_wi (cm_wl C 3 nam (C.2.1 2 6)) 4 nam s) 5 nam a) 2 10 (C.1 2 10 + 1))
  rw [e] at k1 k2 k3 k4
  have t1 := k1.trans s1
  have t2 := k2.trans s2
  have t3 := k3.trans s3
  have t4 := k4.trans s4
  refine ⟨?_, by omega, m1, m2, m3, NR_new c3 c4 c5 l1 l2 l3 c6 hn hsl hv hfree hpos hw (fun i hi => ?_) (fun i => ?_) (fun i => ?_) (fun i => ?_) hF⟩
  · rw [t1]
    show C.1 2 10 + 1 = _
    rw [c1, fn_succ]
  · have hnm : cF_name C = nm_f C nam 0 := by
      unfold cF_name
      rw [c1, fn_nat (by omega)]
    rw [hnm] at h2
    rcases nm_sp hk nam 0 with ⟨p, q⟩ | ⟨j, p, q, r, t⟩
    · exact q i (by omega) (by omega)
    · rw [r] at h2
      exact absurd h2 (of_m1 (by omega))
  · rw [t2]
    show (if 3 = 3 ∧ i = nam then C.2.1 2 6 else C.2.1 3 i) = _
    by_cases hi : i = nam
    · rw [if_pos ⟨rfl, hi⟩, if_pos hi]
    · rw [if_neg (fun q => hi q.2), if_neg hi]
  · rw [t3]
    show (if 4 = 2 ∧ i = 10 then C.1 2 10 + 1 else if 4 = 5 ∧ i = nam then a else if 4 = 4 ∧ i = nam then s else C.1 4 i) = _
    rw [if_neg (fun q => by omega), if_neg (fun q => by omega)]
    by_cases hi : i = nam
    · rw [if_pos ⟨rfl, hi⟩, if_pos hi]
    · rw [if_neg (fun q => hi q.2), if_neg hi]
  · rw [t4]
    show (if 5 = 2 ∧ i = 10 then C.1 2 10 + 1 else if 5 = 5 ∧ i = nam then a else if 5 = 4 ∧ i = nam then s else C.1 5 i) = _
    rw [if_neg (fun q => by omega)]
    by_cases hi : i = nam
    · rw [if_pos ⟨rfl, hi⟩, if_pos hi]
    · rw [if_neg (fun q => hi q.2), if_neg (fun q => by omega), if_neg hi]
/-- a slot beyond those that are told is free -/
theorem NR_free {nam me mo ch n : Nat} {nw : Nat → Int64} {so nu F : Nat → Int32} (h1 : me ≤ 6) (h2 : mo ≤ 5) (h3 : ch ≤ 5) (h : NR nam me mo ch nw so nu F) (hn : (n = me ∧ me < 6) ∨ (n = 6 + mo ∧ mo < 5) ∨ (n = 11 + ch ∧ ch < 5)) : F (69 + n) = 0 := by
  by_cases hz : F (69 + n) = 0
  · exact hz
  · exfalso
    obtain ⟨i, hi, hs⟩ := h.2.1 n (by omega) hz
    rcases (h.1 i hi).1 with ⟨a, b, c, d⟩ | ⟨a, b, c, d⟩ | ⟨a, b, c, d⟩
    · rw [a, d, nsl_1 (by omega)] at hs
      omega
    · rw [a, d, nsl_2 (by omega)] at hs
      omega
    · rw [a, d, nsl_6 (by omega)] at hs
      omega
section ADD
variable {T me : Nat} {c h0 v0 : Int32} {C : cm_M}
theorem addMan_eq (hm : C.1 T 3 = Int32.ofNat me) (h6 : me < 6) : cF_addMan T c h0 v0 C = cm_wi (cm_wi (cm_wi (cm_wi (cm_wi (cm_wi C (T + 1) me c) (T + 2) me h0) (T + 3) me v0) (T + 4) me 0) (T + 5) me 0) T 3 (Int32.ofNat (me + 1)) := by
  unfold cF_addMan
  rw [if_neg (by rw [hm, fn_toInt (by omega)]; omega), hm, fn_nat (by omega), fn_succ]
theorem addMotion_eq (hm : C.1 T 9 = Int32.ofNat me) (h6 : me < 5) : cF_addMotion T c h0 v0 C = cm_wi (cm_wi (cm_wi (cm_wi (cm_wi C (T + 6) me c) (T + 7) me h0) (T + 8) me v0) (T + 9) me 0) T 9 (Int32.ofNat (me + 1)) := by
  unfold cF_addMotion
  rw [if_neg (by rw [hm, fn_toInt (by omega)]; omega), hm, fn_nat (by omega), fn_succ]
theorem addChair_eq (hm : C.1 T 15 = Int32.ofNat me) (h6 : me < 5) : cF_addChair T c C = cm_wi (cm_wi C (T + 11) me c) T 15 (Int32.ofNat (me + 1)) := by
  unfold cF_addChair
  rw [if_neg (by rw [hm, fn_toInt (by omega)]; omega), hm, fn_nat (by omega), fn_succ]
end ADD
theorem up_same {f : Nat → Nat} {i v j : Nat} (h : j ≠ i) : up f i v j = f j := if_neg h
theorem DT_man {T N me mo ch ns : Nat} {C C7 : cm_M} {F F' L : Nat → Int32} {c hh vv : Int32} (hT : 6 ≤ T) (hd : DT T me mo ch C F) (hme : me < 6) (y0 : C.1 2 9 = 0) (y1 : cF_newChk C = C) (y2 : cF_name C = -1) (hK : KN (cF_newName N 1 (C.1 T 3) C) C7) (hKC : KC C C7) (hpos : 0 < ns) (hw : wrep (C.2.1 2 6) L ns) (hF : ∀ j, j < 213 → F' j = if j = 3 then Int32.ofNat (me + 1) else if j = 13 + 3 * me then vv else if j = 12 + 3 * me then hh else if j = 11 + 3 * me then c else nnF F L me ns j) : DT T (me + 1) mo ch (cF_addMan T c hh vv C7) F' := by
  obtain ⟨hN, hR⟩ := hd
  have hN' := hN
  obtain ⟨c1, c2, c3, c4, c5, c6⟩ := hN'
  have hR' := hR
  obtain ⟨⟨a1, a2, a3⟩, ⟨b1, b2, b3, b4, b5, b6⟩, d1, d2, d3, ⟨ag, am, qu, f1, f2, f3, f4, f5, f6, q, f7, f8⟩, hb, g1, g2, g3, g4⟩ := hR'
  have m0 : C.1 T 3 = Int32.ofNat me := b1
  have m7 : C7.1 T 3 = Int32.ofNat me := (hKC.1 T 3 hT).trans m0
  have e := addMan_eq (c := c) (h0 := hh) (v0 := vv) m7 hme
  have hlo : ∀ x j, x < 6 → (cF_addMan T c hh vv C7).1 x j = C7.1 x j := fun x j hx => by
    rw [e]
    show (if x = T ∧ j = 3 then _ else if x = T + 5 ∧ j = me then _ else if x = T + 4 ∧ j = me then _ else if x = T + 3 ∧ j = me then _ else if x = T + 2 ∧ j = me then _ else if x = T + 1 ∧ j = me then _ else _) = _
    rw [if_neg (by omega), if_neg (by omega), if_neg (by omega), if_neg (by omega), if_neg (by omega), if_neg (by omega)]
  have h2 : (cF_addMan T c hh vv C7).2 = C7.2 := by rw [e]; rfl
  have old : ∀ i j, ¬ (i = 0 ∧ j = 3) → ¬ (1 ≤ i ∧ i ≤ 5 ∧ j = me) → DA T (cF_addMan T c hh vv C7) i j = DA T C i j := fun i j p1 p2 => by
    rw [e]
    show (if T + i = T ∧ j = 3 then _ else if T + i = T + 5 ∧ j = me then _ else if T + i = T + 4 ∧ j = me then _ else if T + i = T + 3 ∧ j = me then _ else if T + i = T + 2 ∧ j = me then _ else if T + i = T + 1 ∧ j = me then _ else C7.1 (T + i) j) = _
    rw [if_neg (by omega), if_neg (by omega), if_neg (by omega), if_neg (by omega), if_neg (by omega), if_neg (by omega)]
    exact hKC.1 _ _ (by omega)
  have n0 : DA T (cF_addMan T c hh vv C7) 0 3 = Int32.ofNat (me + 1) := by
    rw [e]
    show (if T + 0 = T ∧ 3 = 3 then _ else _) = _
    rw [if_pos ⟨rfl, rfl⟩]
  have nx : ∀ i, 1 ≤ i → i ≤ 5 → DA T (cF_addMan T c hh vv C7) i me = if i = 5 then 0 else if i = 4 then 0 else if i = 3 then vv else if i = 2 then hh else c := fun i p1 p2 => by
    rw [e]
    show (if T + i = T ∧ me = 3 then _ else if T + i = T + 5 ∧ me = me then _ else if T + i = T + 4 ∧ me = me then _ else if T + i = T + 3 ∧ me = me then _ else if T + i = T + 2 ∧ me = me then _ else if T + i = T + 1 ∧ me = me then _ else C7.1 (T + i) me) = _
    rw [if_neg (by omega)]
    by_cases q5 : i = 5
    · rw [if_pos ⟨by omega, rfl⟩, if_pos q5]
    · rw [if_neg (by omega), if_neg q5]
      by_cases q4 : i = 4
      · rw [if_pos ⟨by omega, rfl⟩, if_pos q4]
      · rw [if_neg (by omega), if_neg q4]
        by_cases q3 : i = 3
        · rw [if_pos ⟨by omega, rfl⟩, if_pos q3]
        · rw [if_neg (by omega), if_neg q3]
          by_cases q2 : i = 2
          · rw [if_pos ⟨by omega, rfl⟩, if_pos q2]
          · rw [if_neg (by omega), if_neg q2, if_pos ⟨by omega, rfl⟩]
  have hFo : ∀ j, j < 69 → j ≠ 3 → ¬ (11 + 3 * me ≤ j ∧ j < 14 + 3 * me) → F' j = F j := fun j j1 j2 j3 => by
    rw [hF j (by omega), if_neg j2, if_neg (by omega), if_neg (by omega), if_neg (by omega)]
    unfold nnF
    rw [if_neg (by omega), if_neg (by omega)]
  have f44 := (f1 me (by omega)).2.1
  have f55 := (f1 me (by omega)).2.2.2
  rw [(f2 me (by omega)).1] at f44
  rw [(f2 me (by omega)).2] at f55
  refine ⟨?_, ?_⟩
  · have hn := NC_new (N := N) (C' := cF_addMan T c hh vv C7) (F' := F') (n := me) (me' := me + 1) (mo' := mo) (ch' := ch) (s := 1) (a := C.1 T 3) hN (by omega) y0 y1 y2 (KN_tr hK ⟨hlo 2 10 (by omega), by rw [h2], funext fun j => hlo 4 j (by omega), funext fun j => hlo 5 j (by omega)⟩) (by omega) (by omega) (by omega) (by omega) (by omega) (by omega) (by omega) (by rw [m0, nsl_1 (by omega)]) (Or.inl ⟨rfl, me, by omega, m0⟩) (NR_free c3 c4 c5 c6 (Or.inl ⟨rfl, hme⟩)) hpos hw (fun j j1 j2 => by rw [hF j j2, if_neg (by omega), if_neg (by omega), if_neg (by omega), if_neg (by omega)])
    rw [show me + 1 + mo + ch = me + mo + ch + 1 by omega]
    exact hn
  · rw [show (cF_addMan T c hh vv C7).1 2 8 = C.1 2 8 from (hlo 2 8 (by omega)).trans hKC.2]
    refine ⟨⟨a1, ?_, fun q => ?_⟩, ⟨n0, ?_, ?_, ?_, ?_, ?_⟩, fun m hm => ?_, fun k hk => ?_, fun x hx => ?_, ⟨ag, am, qu, fun m hm => ?_, fun m hm => f2 m (by omega), fun k hk => ?_, f4, ?_, ?_, q, ?_, f8⟩, hb, g1, ?_, ?_, fun x hx => ?_⟩
    · rw [hFo 10 (by omega) (by omega) (by omega)]; exact a2
    · rw [old 0 0 (by omega) (by omega), old 0 1 (by omega) (by omega), old 0 2 (by omega) (by omega), hFo 0 (by omega) (by omega) (by omega), hFo 1 (by omega) (by omega) (by omega), hFo 2 (by omega) (by omega) (by omega)]; exact a3 q
    · rw [hF 3 (by omega), if_pos rfl]
    · rw [old 0 9 (by omega) (by omega)]; exact b3
    · rw [hFo 4 (by omega) (by omega) (by omega)]; exact b4
    · rw [old 0 15 (by omega) (by omega)]; exact b5
    · rw [hFo 8 (by omega) (by omega) (by omega)]; exact b6
    · rcases Nat.lt_or_ge m me with hc | hc
      · rw [old 1 m (by omega) (by omega), old 2 m (by omega) (by omega), old 3 m (by omega) (by omega), old 4 m (by omega) (by omega), old 5 m (by omega) (by omega), hFo (11 + 3 * m) (by omega) (by omega) (by omega), hFo (12 + 3 * m) (by omega) (by omega) (by omega), hFo (13 + 3 * m) (by omega) (by omega) (by omega), hFo (44 + m) (by omega) (by omega) (by omega), hFo (55 + m) (by omega) (by omega) (by omega)]; exact d1 m hc
      · have : m = me := by omega
        subst this
        rw [nx 1 (by omega) (by omega), nx 2 (by omega) (by omega), nx 3 (by omega) (by omega), nx 4 (by omega) (by omega), nx 5 (by omega) (by omega), hFo (44 + m) (by omega) (by omega) (by omega), hFo (55 + m) (by omega) (by omega) (by omega), hF (11 + 3 * m) (by omega), hF (12 + 3 * m) (by omega), hF (13 + 3 * m) (by omega), f44, f55]
        refine ⟨?_, ?_, ?_, rfl, rfl⟩
        · rw [if_neg (by omega), if_neg (by omega), if_neg (by omega), if_neg (by omega), if_neg (by omega), if_neg (by omega), if_neg (by omega), if_pos rfl]
        · rw [if_neg (by omega), if_neg (by omega), if_neg (by omega), if_pos rfl, if_neg (by omega), if_neg (by omega), if_pos rfl]
        · rw [if_neg (by omega), if_neg (by omega), if_pos rfl, if_neg (by omega), if_pos rfl]
    · rw [old 6 k (by omega) (by omega), old 7 k (by omega) (by omega), old 8 k (by omega) (by omega), old 9 k (by omega) (by omega), hFo (29 + 3 * k) (by omega) (by omega) (by omega), hFo (30 + 3 * k) (by omega) (by omega) (by omega), hFo (31 + 3 * k) (by omega) (by omega) (by omega), hFo (50 + k) (by omega) (by omega) (by omega)]; exact d2 k hk
    · rw [old 11 x (by omega) (by omega), hFo (61 + x) (by omega) (by omega) (by omega)]; exact d3 x hx
    · rw [hFo (44 + m) (by omega) (by omega) (by omega), hFo (55 + m) (by omega) (by omega) (by omega)]; exact f1 m hm
    · rw [hFo (50 + k) (by omega) (by omega) (by omega)]; exact f3 k hk
    · rw [hFo 5 (by omega) (by omega) (by omega)]; exact f5
    · rw [hFo 6 (by omega) (by omega) (by omega)]; exact f6
    · rw [hFo 7 (by omega) (by omega) (by omega)]; exact f7
    · rw [old 0 18 (by omega) (by omega)]; exact g2
    · rw [hFo 9 (by omega) (by omega) (by omega)]; exact g3
    · rw [old 12 x (by omega) (by omega), hFo (66 + x) (by omega) (by omega) (by omega)]; exact g4 x hx
