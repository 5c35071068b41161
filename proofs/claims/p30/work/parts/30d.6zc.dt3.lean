/-! THE TWO TOWNS: who is against what, amendments, quarrels, heaps -/
theorem of_s (a : Nat) : Int32.ofNat a + 1 = Int32.ofNat (a + 1) := fn_succ a
theorem DT_against {T me mo ch m k : Nat} {C C' : cm_M} {F F' : Nat → Int32} (hd : DT T me mo ch C F) (hK : KN C C') (h8 : C'.1 2 8 = C.1 2 8) (hm : m < me) (hk : k < mo) (hbit : (F (44 + m) >>> (Int32.ofNat k &&& 31)) &&& 1 = 0) (hn : DA T C' 4 m = F (44 + m) ||| ((1 : Int32) <<< (Int32.ofNat k &&& 31))) (old : ∀ i j, ¬ (i = 4 ∧ j = m) → DA T C' i j = DA T C i j) (hF : ∀ j, j < 213 → F' j = if j = 5 then F 5 + 1 else if j = 44 + m then F (44 + m) ||| ((1 : Int32) <<< (Int32.ofNat k &&& 31)) else F j) : DT T me mo ch C' F' := by
  obtain ⟨hN, ⟨a1, a2, a3⟩, ⟨b1, b2, b3, b4, b5, b6⟩, d1, d2, d3, ⟨ag, am, qu, f1, f2, f3, f4, f5, f6, q, f7, f8⟩, hb, g1, g2, g3, g4⟩ := hd
  obtain ⟨-, -, c3, c4, c5, -⟩ := id hN
  have hFo : ∀ j, j < 213 → j ≠ 5 → j ≠ 44 + m → F' j = F j := fun j j1 j2 j3 => by
    rw [hF j j1, if_neg j2, if_neg j3]
  obtain ⟨p1, p2, p3, p4⟩ := f1 m (by omega)
  rw [p2] at hbit hn
  have hb0 := (bit_t (ag m) (by omega) k (by omega)).mp hbit
  obtain ⟨s1, s2, s3⟩ := bit_s (ag m) (by omega) k (by omega) hb0
  have s4 := bit_l 5 (by omega) (ag m) p1 k (by omega) hb0
  refine ⟨NC_cg hN hK (fun j j1 j2 => hFo j j2 (by omega) (by omega)), ?_⟩
  rw [h8]
  refine ⟨⟨a1, ?_, fun q => ?_⟩, ⟨?_, ?_, ?_, ?_, ?_, ?_⟩, fun x hx => ?_, fun k hk => ?_, fun x hx => ?_, ⟨up ag m (ag m + 2 ^ k), am, qu, fun x hx => ?_, fun x hx => ?_, fun k hk => ?_, f4, ?_, ?_, q, ?_, f8⟩, hb, g1, ?_, ?_, fun x hx => ?_⟩
  · rw [hFo 10 (by omega) (by omega) (by omega)]; exact a2
  · rw [old 0 0 (by omega), old 0 1 (by omega), old 0 2 (by omega), hFo 0 (by omega) (by omega) (by omega), hFo 1 (by omega) (by omega) (by omega), hFo 2 (by omega) (by omega) (by omega)]; exact a3 q
  · rw [old 0 3 (by omega)]; exact b1
  · rw [hFo 3 (by omega) (by omega) (by omega)]; exact b2
  · rw [old 0 9 (by omega)]; exact b3
  · rw [hFo 4 (by omega) (by omega) (by omega)]; exact b4
  · rw [old 0 15 (by omega)]; exact b5
  · rw [hFo 8 (by omega) (by omega) (by omega)]; exact b6
  · by_cases hxm : x = m
    · subst hxm
      rw [old 1 x (by omega), old 2 x (by omega), old 3 x (by omega), old 5 x (by omega), hFo (11 + 3 * x) (by omega) (by omega) (by omega), hFo (12 + 3 * x) (by omega) (by omega) (by omega), hFo (13 + 3 * x) (by omega) (by omega) (by omega), hFo (55 + x) (by omega) (by omega) (by omega), hn, hF (44 + x) (by omega), if_neg (by omega), if_pos rfl, p2]
      obtain ⟨t1, t2, t3, t4, t5⟩ := d1 x hx
      exact ⟨t1, t2, t3, rfl, t5⟩
    · rw [old 1 x (by omega), old 2 x (by omega), old 3 x (by omega), old 4 x (by omega), old 5 x (by omega), hFo (11 + 3 * x) (by omega) (by omega) (by omega), hFo (12 + 3 * x) (by omega) (by omega) (by omega), hFo (13 + 3 * x) (by omega) (by omega) (by omega), hFo (44 + x) (by omega) (by omega) (by omega), hFo (55 + x) (by omega) (by omega) (by omega)]; exact d1 x hx
  · rw [old 6 k (by omega), old 7 k (by omega), old 8 k (by omega), old 9 k (by omega), hFo (29 + 3 * k) (by omega) (by omega) (by omega), hFo (30 + 3 * k) (by omega) (by omega) (by omega), hFo (31 + 3 * k) (by omega) (by omega) (by omega), hFo (50 + k) (by omega) (by omega) (by omega)]; exact d2 k hk
  · rw [old 11 x (by omega), hFo (61 + x) (by omega) (by omega) (by omega)]; exact d3 x hx
  · by_cases hxm : x = m
    · subst hxm
      rw [hF (44 + x) (by omega), if_neg (by omega), if_pos rfl, p2, hFo (55 + x) (by omega) (by omega) (by omega), s1]
      unfold up
      rw [if_pos rfl]
      exact ⟨s4, rfl, p3, p4⟩
    · rw [hFo (44 + x) (by omega) (by omega) (by omega), hFo (55 + x) (by omega) (by omega) (by omega), up_same hxm]; exact f1 x hx
  · rw [up_same (by omega)]
    exact f2 x hx
  · rw [hFo (50 + k) (by omega) (by omega) (by omega)]; exact f3 k hk
  · rw [hF 5 (by omega), if_pos rfl, f5, of_s, su_up s2 6 (by omega)]
  · rw [hFo 6 (by omega) (by omega) (by omega)]; exact f6
  · rw [hFo 7 (by omega) (by omega) (by omega)]; exact f7
  · rw [old 0 18 (by omega)]; exact g2
  · rw [hFo 9 (by omega) (by omega) (by omega)]; exact g3
  · have ex : DA T C' 12 = DA T C 12 := funext fun j => old 12 j (by omega)
    rw [ex, hFo (66 + x) (by omega) (by omega) (by omega)]; exact g4 x hx
theorem DT_amends {T me mo ch m k : Nat} {C C' : cm_M} {F F' : Nat → Int32} (hd : DT T me mo ch C F) (hK : KN C C') (h8 : C'.1 2 8 = C.1 2 8) (hm : m < mo) (hk : k < m) (hbit : (F (50 + m) >>> (Int32.ofNat k &&& 31)) &&& 1 = 0) (hn : DA T C' 9 m = F (50 + m) ||| ((1 : Int32) <<< (Int32.ofNat k &&& 31))) (old : ∀ i j, ¬ (i = 9 ∧ j = m) → DA T C' i j = DA T C i j) (hF : ∀ j, j < 213 → F' j = if j = 6 then F 6 + 1 else if j = 50 + m then F (50 + m) ||| ((1 : Int32) <<< (Int32.ofNat k &&& 31)) else F j) : DT T me mo ch C' F' := by
  obtain ⟨hN, ⟨a1, a2, a3⟩, ⟨b1, b2, b3, b4, b5, b6⟩, d1, d2, d3, ⟨ag, am, qu, f1, f2, f3, f4, f5, f6, q, f7, f8⟩, hb, g1, g2, g3, g4⟩ := hd
  obtain ⟨-, -, c3, c4, c5, -⟩ := id hN
  have hFo : ∀ j, j < 213 → j ≠ 6 → j ≠ 50 + m → F' j = F j := fun j j1 j2 j3 => by
    rw [hF j j1, if_neg j2, if_neg j3]
  obtain ⟨p1, p2⟩ := f3 m (by omega)
  have p32 : am m < 64 := Nat.lt_of_lt_of_le p1 (Nat.le_trans (Nat.pow_le_pow_right (by omega) (by omega : m ≤ 6)) (by decide))
  rw [p2] at hbit hn
  have hb0 := (bit_t (am m) p32 k (by omega)).mp hbit
  obtain ⟨s1, s2, s3⟩ := bit_s (am m) p32 k (by omega) hb0
  have s4 := bit_l m (by omega) (am m) p1 k (by omega) hb0
  refine ⟨NC_cg hN hK (fun j j1 j2 => hFo j j2 (by omega) (by omega)), ?_⟩
  rw [h8]
  refine ⟨⟨a1, ?_, fun q => ?_⟩, ⟨?_, ?_, ?_, ?_, ?_, ?_⟩, fun x hx => ?_, fun x hx => ?_, fun x hx => ?_, ⟨ag, up am m (am m + 2 ^ k), qu, fun x hx => ?_, f2, fun x hx => ?_, fun x hx => ?_, ?_, ?_, q, ?_, f8⟩, hb, g1, ?_, ?_, fun x hx => ?_⟩
  · rw [hFo 10 (by omega) (by omega) (by omega)]; exact a2
  · rw [old 0 0 (by omega), old 0 1 (by omega), old 0 2 (by omega), hFo 0 (by omega) (by omega) (by omega), hFo 1 (by omega) (by omega) (by omega), hFo 2 (by omega) (by omega) (by omega)]; exact a3 q
  · rw [old 0 3 (by omega)]; exact b1
  · rw [hFo 3 (by omega) (by omega) (by omega)]; exact b2
  · rw [old 0 9 (by omega)]; exact b3
  · rw [hFo 4 (by omega) (by omega) (by omega)]; exact b4
  · rw [old 0 15 (by omega)]; exact b5
  · rw [hFo 8 (by omega) (by omega) (by omega)]; exact b6
  · rw [old 1 x (by omega), old 2 x (by omega), old 3 x (by omega), old 4 x (by omega), old 5 x (by omega), hFo (11 + 3 * x) (by omega) (by omega) (by omega), hFo (12 + 3 * x) (by omega) (by omega) (by omega), hFo (13 + 3 * x) (by omega) (by omega) (by omega), hFo (44 + x) (by omega) (by omega) (by omega), hFo (55 + x) (by omega) (by omega) (by omega)]; exact d1 x hx
  · by_cases hxm : x = m
    · subst hxm
      rw [old 6 x (by omega), old 7 x (by omega), old 8 x (by omega), hFo (29 + 3 * x) (by omega) (by omega) (by omega), hFo (30 + 3 * x) (by omega) (by omega) (by omega), hFo (31 + 3 * x) (by omega) (by omega) (by omega), hn, hF (50 + x) (by omega), if_neg (by omega), if_pos rfl, p2]
      obtain ⟨t1, t2, t3, t4⟩ := d2 x hx
      exact ⟨t1, t2, t3, rfl⟩
    · rw [old 6 x (by omega), old 7 x (by omega), old 8 x (by omega), old 9 x (by omega), hFo (29 + 3 * x) (by omega) (by omega) (by omega), hFo (30 + 3 * x) (by omega) (by omega) (by omega), hFo (31 + 3 * x) (by omega) (by omega) (by omega), hFo (50 + x) (by omega) (by omega) (by omega)]; exact d2 x hx
  · rw [old 11 x (by omega), hFo (61 + x) (by omega) (by omega) (by omega)]; exact d3 x hx
  · rw [hFo (44 + x) (by omega) (by omega) (by omega), hFo (55 + x) (by omega) (by omega) (by omega)]; exact f1 x hx
  · by_cases hxm : x = m
    · subst hxm
      rw [hF (50 + x) (by omega), if_neg (by omega), if_pos rfl, p2, s1]
      unfold up
      rw [if_pos rfl]
      exact ⟨s4, rfl⟩
    · rw [hFo (50 + x) (by omega) (by omega) (by omega), up_same hxm]; exact f3 x hx
  · rw [up_same (by omega)]
    exact f4 x hx
  · rw [hFo 5 (by omega) (by omega) (by omega)]; exact f5
  · rw [hF 6 (by omega), if_pos rfl, f6, of_s, su_up s2 5 (by omega)]
  · rw [hFo 7 (by omega) (by omega) (by omega)]; exact f7
  · rw [old 0 18 (by omega)]; exact g2
  · rw [hFo 9 (by omega) (by omega) (by omega)]; exact g3
  · have ex : DA T C' 12 = DA T C 12 := funext fun j => old 12 j (by omega)
    rw [ex, hFo (66 + x) (by omega) (by omega) (by omega)]; exact g4 x hx
set_option maxRecDepth 100000 in
theorem bit_k : ∀ a, a < 64 → ∀ k, k < 6 → a / 2 ^ k % 2 = 0 → ∀ j, j < 6 → (a + 2 ^ k) / 2 ^ j % 2 = if j = k then 1 else a / 2 ^ j % 2 := by decide +kernel
theorem DT_quarrel {T me mo ch m o : Nat} {C C' : cm_M} {F F' : Nat → Int32} (hd : DT T me mo ch C F) (hK : KN C C') (h8 : C'.1 2 8 = C.1 2 8) (hm : m < me) (ho : o < me) (hmo : m ≠ o) (hbit : (F (55 + m) >>> (Int32.ofNat o &&& 31)) &&& 1 = 0) (hn : DA T C' 5 m = F (55 + m) ||| ((1 : Int32) <<< (Int32.ofNat o &&& 31))) (hn2 : DA T C' 5 o = F (55 + o) ||| ((1 : Int32) <<< (Int32.ofNat m &&& 31))) (old : ∀ i j, ¬ (i = 5 ∧ (j = m ∨ j = o)) → DA T C' i j = DA T C i j) (hF : ∀ j, j < 213 → F' j = if j = 7 then F 7 + 1 else if j = 55 + o then F (55 + o) ||| ((1 : Int32) <<< (Int32.ofNat m &&& 31)) else if j = 55 + m then F (55 + m) ||| ((1 : Int32) <<< (Int32.ofNat o &&& 31)) else F j) : DT T me mo ch C' F' := by
  obtain ⟨hN, ⟨a1, a2, a3⟩, ⟨b1, b2, b3, b4, b5, b6⟩, d1, d2, d3, ⟨ag, am, qu, f1, f2, f3, f4, f5, f6, q, f7, f8, f9⟩, hb, g1, g2, g3, g4⟩ := hd
  obtain ⟨-, -, c3, c4, c5, -⟩ := id hN
  have hFo : ∀ j, j < 213 → j ≠ 7 → j ≠ 55 + o → j ≠ 55 + m → F' j = F j := fun j j1 j2 j3 j4 => by
    rw [hF j j1, if_neg j2, if_neg j3, if_neg j4]
  obtain ⟨p1, p2, p3, p4⟩ := f1 m (by omega)
  obtain ⟨r1, r2, r3, r4⟩ := f1 o (by omega)
  rw [p4] at hbit hn
  rw [r4] at hn2
  have hb0 := (bit_t (qu m) p3 o (by omega)).mp hbit
  have hb1 : qu o / 2 ^ m % 2 = 0 := (f9 m (by omega) o (by omega)).1 ▸ hb0
  obtain ⟨s1, s2, s3⟩ := bit_s (qu m) p3 o (by omega) hb0
  obtain ⟨t1, t2, t3⟩ := bit_s (qu o) r3 m (by omega) hb1
  have u1 : ∀ x, up (up qu m (qu m + 2 ^ o)) o (qu o + 2 ^ m) x = if x = o then qu o + 2 ^ m else if x = m then qu m + 2 ^ o else qu x := fun x => rfl
  have uo : up qu m (qu m + 2 ^ o) o = qu o := up_same (fun h => hmo h.symm)
  have hsum : su (up (up qu m (qu m + 2 ^ o)) o (qu o + 2 ^ m)) 6 = su qu 6 + 2 := by
    rw [su_up (by rw [uo]; exact t2) 6 (by omega), su_up s2 6 (by omega)]
  refine ⟨NC_cg hN hK (fun j j1 j2 => hFo j j2 (by omega) (by omega) (by omega)), ?_⟩
  rw [h8]
  refine ⟨⟨a1, ?_, fun q => ?_⟩, ⟨?_, ?_, ?_, ?_, ?_, ?_⟩, fun x hx => ?_, fun x hx => ?_, fun x hx => ?_, ⟨ag, am, up (up qu m (qu m + 2 ^ o)) o (qu o + 2 ^ m), fun x hx => ?_, fun x hx => ?_, fun x hx => ?_, f4, ?_, ?_, q + 1, ?_, ?_, ?_⟩, hb, g1, ?_, ?_, fun x hx => ?_⟩
  · rw [hFo 10 (by omega) (by omega) (by omega) (by omega)]; exact a2
  · rw [old 0 0 (by omega), old 0 1 (by omega), old 0 2 (by omega), hFo 0 (by omega) (by omega) (by omega) (by omega), hFo 1 (by omega) (by omega) (by omega) (by omega), hFo 2 (by omega) (by omega) (by omega) (by omega)]; exact a3 q
  · rw [old 0 3 (by omega)]; exact b1
  · rw [hFo 3 (by omega) (by omega) (by omega) (by omega)]; exact b2
  · rw [old 0 9 (by omega)]; exact b3
  · rw [hFo 4 (by omega) (by omega) (by omega) (by omega)]; exact b4
  · rw [old 0 15 (by omega)]; exact b5
  · rw [hFo 8 (by omega) (by omega) (by omega) (by omega)]; exact b6
  · obtain ⟨t1, t2, t3, t4, t5⟩ := d1 x hx
    refine ⟨?_, ?_, ?_, ?_, ?_⟩
    · rw [old 1 x (by omega), hFo (11 + 3 * x) (by omega) (by omega) (by omega) (by omega)]; exact t1
    · rw [old 2 x (by omega), hFo (12 + 3 * x) (by omega) (by omega) (by omega) (by omega)]; exact t2
    · rw [old 3 x (by omega), hFo (13 + 3 * x) (by omega) (by omega) (by omega) (by omega)]; exact t3
    · rw [old 4 x (by omega), hFo (44 + x) (by omega) (by omega) (by omega) (by omega)]; exact t4
    · by_cases hxo : x = o
      · subst hxo
        rw [hn2, hF (55 + x) (by omega), if_neg (by omega), if_pos rfl, r4]
      · by_cases hxm : x = m
        · subst hxm
          rw [hn, hF (55 + x) (by omega), if_neg (by omega), if_neg (by omega), if_pos rfl, p4]
        · rw [old 5 x (by omega), hFo (55 + x) (by omega) (by omega) (by omega) (by omega)]; exact t5
  · rw [old 6 x (by omega), old 7 x (by omega), old 8 x (by omega), old 9 x (by omega), hFo (29 + 3 * x) (by omega) (by omega) (by omega) (by omega), hFo (30 + 3 * x) (by omega) (by omega) (by omega) (by omega), hFo (31 + 3 * x) (by omega) (by omega) (by omega) (by omega), hFo (50 + x) (by omega) (by omega) (by omega) (by omega)]; exact d2 x hx
  · rw [old 11 x (by omega), hFo (61 + x) (by omega) (by omega) (by omega) (by omega)]; exact d3 x hx
  · obtain ⟨v1, v2, v3, v4⟩ := f1 x hx
    rw [hFo (44 + x) (by omega) (by omega) (by omega) (by omega), u1]
    refine ⟨v1, v2, ?_⟩
    by_cases hxo : x = o
    · subst hxo
      rw [if_pos rfl, hF (55 + x) (by omega), if_neg (by omega), if_pos rfl, r4, t1]
      exact ⟨t3, rfl⟩
    · rw [if_neg hxo]
      by_cases hxm : x = m
      · subst hxm
        rw [if_pos rfl, hF (55 + x) (by omega), if_neg (by omega), if_neg (by omega), if_pos rfl, p4, s1]
        exact ⟨s3, rfl⟩
      · rw [if_neg hxm, hFo (55 + x) (by omega) (by omega) (by omega) (by omega)]
        exact ⟨v3, v4⟩
  · rw [u1, if_neg (by omega), if_neg (by omega)]
    exact f2 x hx
  · rw [hFo (50 + x) (by omega) (by omega) (by omega) (by omega)]; exact f3 x hx
  · rw [hFo 5 (by omega) (by omega) (by omega) (by omega)]; exact f5
  · rw [hFo 6 (by omega) (by omega) (by omega) (by omega)]; exact f6
  · rw [hF 7 (by omega), if_pos rfl, f7, of_s]
  · rw [hsum, f8]
    omega
  · intro x hx y hy
    have kk : ∀ z, z < 6 → ∀ w, w < 6 → up (up qu m (qu m + 2 ^ o)) o (qu o + 2 ^ m) z / 2 ^ w % 2 = if (z = o ∧ w = m) ∨ (z = m ∧ w = o) then 1 else qu z / 2 ^ w % 2 := fun z hz w hw => by
      rw [u1]
      by_cases hzo : z = o
      · subst hzo
        rw [if_pos rfl, bit_k (qu z) r3 m (by omega) hb1 w hw]
        by_cases hwm : w = m
        · rw [if_pos hwm, if_pos (Or.inl ⟨rfl, hwm⟩)]
        · rw [if_neg hwm, if_neg (by omega)]
      · rw [if_neg hzo]
        by_cases hzm : z = m
        · subst hzm
          rw [if_pos rfl, bit_k (qu z) p3 o (by omega) hb0 w hw]
          by_cases hwm : w = o
          · rw [if_pos hwm, if_pos (Or.inr ⟨rfl, hwm⟩)]
          · rw [if_neg hwm, if_neg (by omega)]
        · rw [if_neg hzm, if_neg (by omega)]
    rw [kk x hx y hy, kk y hy x hx]
    obtain ⟨w1, w2⟩ := f9 x hx y hy
    by_cases hc : (x = o ∧ y = m) ∨ (x = m ∧ y = o)
    · rw [if_pos hc, if_pos (by omega)]
      exact ⟨rfl, fun hh => by omega⟩
    · rw [if_neg hc, if_neg (by omega)]
      exact ⟨w1, w2⟩
  · rw [old 0 18 (by omega)]; exact g2
  · rw [hFo 9 (by omega) (by omega) (by omega) (by omega)]; exact g3
  · have ex : DA T C' 12 = DA T C 12 := funext fun j => old 12 j (by omega)
    rw [ex, hFo (66 + x) (by omega) (by omega) (by omega) (by omega)]; exact g4 x hx
theorem DT_heap {T me mo ch c : Nat} {C C' : cm_M} {F F' : Nat → Int32} {a : Int32} (hd : DT T me mo ch C F) (hK : KN C C') (h8 : C'.1 2 8 = C.1 2 8) (hc : c < 3) (hbit : (DA T C 0 18 >>> (Int32.ofNat c &&& 31)) &&& 1 = 0) (ha : 0 ≤ a.toInt) (ha9 : a.toInt ≤ 999) (hn : DA T C' 12 c = a) (hn2 : DA T C' 0 18 = DA T C 0 18 ||| ((1 : Int32) <<< (Int32.ofNat c &&& 31))) (old : ∀ i j, ¬ (i = 12 ∧ j = c) → ¬ (i = 0 ∧ j = 18) → DA T C' i j = DA T C i j) (hF : ∀ j, j < 213 → F' j = if j = 9 then F 9 + 1 else if j = 66 + c then a + 1 else F j) : DT T me mo ch C' F' := by
  obtain ⟨hN, ⟨a1, a2, a3⟩, ⟨b1, b2, b3, b4, b5, b6⟩, d1, d2, d3, ⟨ag, am, qu, f1, f2, f3, f4, f5, f6, q, f7, f8⟩, hb, g1, g2, g3, g4⟩ := hd
  obtain ⟨-, -, c3, c4, c5, -⟩ := id hN
  have hFo : ∀ j, j < 213 → j ≠ 9 → j ≠ 66 + c → F' j = F j := fun j j1 j2 j3 => by
    rw [hF j j1, if_neg j2, if_neg j3]
  rw [g2] at hbit hn2
  have hb0 := (bit_t hb (by omega) c (by omega)).mp hbit
  obtain ⟨s1, s2, s3⟩ := bit_s hb (by omega) c (by omega) hb0
  have s4 := bit_l 3 (by omega) hb (by omega) c (by omega) hb0
  refine ⟨NC_cg hN hK (fun j j1 j2 => hFo j j2 (by omega) (by omega)), ?_⟩
  rw [h8]
  refine ⟨⟨a1, ?_, fun q => ?_⟩, ⟨?_, ?_, ?_, ?_, ?_, ?_⟩, fun x hx => ?_, fun x hx => ?_, fun x hx => ?_, ⟨ag, am, qu, fun x hx => ?_, f2, fun x hx => ?_, f4, ?_, ?_, q, ?_, f8⟩, hb + 2 ^ c, s4, ?_, ?_, fun x hx => ?_⟩
  · rw [hFo 10 (by omega) (by omega) (by omega)]; exact a2
  · rw [old 0 0 (by omega) (by omega), old 0 1 (by omega) (by omega), old 0 2 (by omega) (by omega), hFo 0 (by omega) (by omega) (by omega), hFo 1 (by omega) (by omega) (by omega), hFo 2 (by omega) (by omega) (by omega)]; exact a3 q
  · rw [old 0 3 (by omega) (by omega)]; exact b1
  · rw [hFo 3 (by omega) (by omega) (by omega)]; exact b2
  · rw [old 0 9 (by omega) (by omega)]; exact b3
  · rw [hFo 4 (by omega) (by omega) (by omega)]; exact b4
  · rw [old 0 15 (by omega) (by omega)]; exact b5
  · rw [hFo 8 (by omega) (by omega) (by omega)]; exact b6
  · rw [old 1 x (by omega) (by omega), old 2 x (by omega) (by omega), old 3 x (by omega) (by omega), old 4 x (by omega) (by omega), old 5 x (by omega) (by omega), hFo (11 + 3 * x) (by omega) (by omega) (by omega), hFo (12 + 3 * x) (by omega) (by omega) (by omega), hFo (13 + 3 * x) (by omega) (by omega) (by omega), hFo (44 + x) (by omega) (by omega) (by omega), hFo (55 + x) (by omega) (by omega) (by omega)]; exact d1 x hx
  · rw [old 6 x (by omega) (by omega), old 7 x (by omega) (by omega), old 8 x (by omega) (by omega), old 9 x (by omega) (by omega), hFo (29 + 3 * x) (by omega) (by omega) (by omega), hFo (30 + 3 * x) (by omega) (by omega) (by omega), hFo (31 + 3 * x) (by omega) (by omega) (by omega), hFo (50 + x) (by omega) (by omega) (by omega)]; exact d2 x hx
  · rw [old 11 x (by omega) (by omega), hFo (61 + x) (by omega) (by omega) (by omega)]; exact d3 x hx
  · rw [hFo (44 + x) (by omega) (by omega) (by omega), hFo (55 + x) (by omega) (by omega) (by omega)]; exact f1 x hx
  · rw [hFo (50 + x) (by omega) (by omega) (by omega)]; exact f3 x hx
  · rw [hFo 5 (by omega) (by omega) (by omega)]; exact f5
  · rw [hFo 6 (by omega) (by omega) (by omega)]; exact f6
  · rw [hFo 7 (by omega) (by omega) (by omega)]; exact f7
  · rw [hn2, s1]
  · rw [hF 9 (by omega), if_pos rfl, g3, of_s, s2]
  · rw [bit_k hb (by omega) c (by omega) hb0 x (by omega)]
    by_cases hxc : x = c
    · subst hxc
      rw [if_pos rfl, hF (66 + x) (by omega), if_neg (by omega), if_pos rfl, hn]
      exact ⟨fun hh => by omega, fun _ => ⟨rfl, ha, ha9⟩⟩
    · rw [if_neg hxc, hFo (66 + x) (by omega) (by omega) (by omega), old 12 x (by omega) (by omega)]
      exact g4 x hx
