/-! AB: cells -/
def ab_fk (c : Nat) : Nat × Nat := cond (Nat.beq c 2) (4, 14) (cond (Nat.beq c 124) (9, 35) (cond (Nat.beq c 0) (8, 15) (cond (Nat.beq c 127) (100, 213) (cond (Nat.beq c 128) (100, 213) (cond (Nat.beq c 6) (7, 19) (cond (Nat.beq c 19) (7, 19) (cond (Nat.beq c 98) (0, 5) (cond (Nat.beq c 4) (100, 16) (cond (Nat.beq c 5) (100, 16) (cond (Nat.beq c 3) (102, 16) (cond (Nat.beq c 126) (100, 8) (cond (Nat.beq c 1) (101, 900) (cm_kind c)))))))))))))
theorem ab_fk_eq (c : Nat) : ab_fk c = cm_kind c := by
  unfold ab_fk
  cases h0 : Nat.beq c 2 with
  | true => exact (congrArg cm_kind (Nat.eq_of_beq_eq_true h0)).symm
  | false =>
    cases h1 : Nat.beq c 124 with
    | true => exact (congrArg cm_kind (Nat.eq_of_beq_eq_true h1)).symm
    | false =>
      cases h2 : Nat.beq c 0 with
      | true => exact (congrArg cm_kind (Nat.eq_of_beq_eq_true h2)).symm
      | false =>
        cases h3 : Nat.beq c 127 with
        | true => exact (congrArg cm_kind (Nat.eq_of_beq_eq_true h3)).symm
        | false =>
          cases h4 : Nat.beq c 128 with
          | true => exact (congrArg cm_kind (Nat.eq_of_beq_eq_true h4)).symm
          | false =>
            cases h5 : Nat.beq c 6 with
            | true => exact (congrArg cm_kind (Nat.eq_of_beq_eq_true h5)).symm
            | false =>
              cases h6 : Nat.beq c 19 with
              | true => exact (congrArg cm_kind (Nat.eq_of_beq_eq_true h6)).symm
              | false =>
                cases h7 : Nat.beq c 98 with
                | true => exact (congrArg cm_kind (Nat.eq_of_beq_eq_true h7)).symm
                | false =>
                  cases h8 : Nat.beq c 4 with
                  | true => exact (congrArg cm_kind (Nat.eq_of_beq_eq_true h8)).symm
                  | false =>
                    cases h9 : Nat.beq c 5 with
                    | true => exact (congrArg cm_kind (Nat.eq_of_beq_eq_true h9)).symm
                    | false =>
                      cases h10 : Nat.beq c 3 with
                      | true => exact (congrArg cm_kind (Nat.eq_of_beq_eq_true h10)).symm
                      | false =>
                        cases h11 : Nat.beq c 126 with
                        | true => exact (congrArg cm_kind (Nat.eq_of_beq_eq_true h11)).symm
                        | false =>
                          cases h12 : Nat.beq c 1 with
                          | true => exact (congrArg cm_kind (Nat.eq_of_beq_eq_true h12)).symm
                          | false =>
                            rfl
/-- all these cells are alike -/
def ab_same (cs : List Nat) (kd : Nat × Nat) : Bool := cs.all (fun c => Nat.beq (ab_fk c).1 kd.1 && Nat.beq (ab_fk c).2 kd.2)
theorem ab_same_in {cs : List Nat} {kd : Nat × Nat} (h : ab_same cs kd = true) {c : Nat} (hc : c ∈ cs) : cm_kind c = kd := by
  have h1 := List.all_eq_true.mp h c hc
  rw [Bool.and_eq_true] at h1
  rw [← ab_fk_eq]
  exact Prod.ext (Nat.eq_of_beq_eq_true h1.1) (Nat.eq_of_beq_eq_true h1.2)
def ab_kd (cs : List Nat) : Nat × Nat := match cs with
  | c :: _ => ab_fk c
  | [] => (999, 0)
/-- which numbers a value can be -/
def ab_rl (b : Int × Int) : Option (List Int) := if b.2 - b.1 < 40 then some ((List.range (b.2 - b.1 + 1).toNat).map (fun (j : Nat) => b.1 + (j : Int))) else none
theorem ab_rl_in {b : Int × Int} {l : List Int} {x : Int32} (h : ab_rl b = some l) (hx : ev_inb b x) : x.toInt ∈ l := by
  unfold ab_rl at h
  split at h
  · cases h
    obtain ⟨h1, h2⟩ := hx
    exact List.mem_map.mpr ⟨(x.toInt - b.1).toNat, List.mem_range.mpr (by omega), by omega⟩
  · cases h
def ab_vals : Nat → ab_K → ab_A → Option (List Int)
  | 0, K, a => ab_rl (ab_bd K a)
  | n + 1, K, a => if a.1 = 3 then (match K[a.2.1.toNat]? with
    | some r => if r.2.2.1 = 1 ∨ r.2.2.1 = 2 ∨ r.2.2.1 = 3 then (match ab_vals n K r.2.2.2.1, ab_vals n K r.2.2.2.2 with
        | some l1, some l2 => if l1.length * l2.length ≤ 200 then some (l1.flatMap (fun x => l2.map (fun y => (ev_f r.2.2.1 (Int32.ofInt x) (Int32.ofInt y)).toInt))) else ab_rl (ab_bd K a)
        | _, _ => ab_rl (ab_bd K a)) else ab_rl (ab_bd K a)
    | none => ab_rl (ab_bd K a)) else ab_rl (ab_bd K a)
theorem ab_vals_in {ρ : List Int32} {K : ab_K} (hk : ab_k ρ K) : ∀ (n : Nat) {a : ab_A} {x : Int32} {l : List Int}, ab_i ρ a = some x → ab_vals n K a = some l → x.toInt ∈ l
  | 0, a, x, l, ha, h => ab_rl_in h (ab_bd_in hk ha)
  | n + 1, a, x, l, ha, h => by
    unfold ab_vals at h
    split at h
    · rename_i h3
      split at h
      · rename_i r hr
        split at h
        · rename_i hop
          split at h
          · rename_i l1 l2 e1 e2
            split at h
            · cases h
              have hx : ρ[a.2.1.toNat]? = some x := by
                unfold ab_i at ha
                rw [h3] at ha
                exact ha
              rcases (hk.2 _ r x hr hx).2 with hz | ⟨y, z, hy, hz, e⟩
              · omega
              · have i1 := ab_vals_in hk n hy e1
                have i2 := ab_vals_in hk n hz e2
                exact List.mem_flatMap.mpr ⟨y.toInt, i1, List.mem_map.mpr ⟨z.toInt, i2, by rw [Int32.ofInt_toInt, Int32.ofInt_toInt, ← e]⟩⟩
            · exact ab_rl_in h (ab_bd_in hk ha)
          · exact ab_rl_in h (ab_bd_in hk ha)
        · exact ab_rl_in h (ab_bd_in hk ha)
      · exact ab_rl_in h (ab_bd_in hk ha)
    · exact ab_rl_in h (ab_bd_in hk ha)
/-- a number within an array: which places -/
def ab_idx (K : ab_K) (a : ab_A) (len : Nat) : Option ab_Ix := match ab_vals 4 K a with
  | some l => if l.all (fun x => decide (0 ≤ x) && decide (x < (len : Int))) = true then some (some (l.map Int.toNat)) else (if 0 ≤ (ab_bd K a).1 ∧ (ab_bd K a).2 < (len : Int) then some (some (l.map Int.toNat)) else none)
  | none => if 0 ≤ (ab_bd K a).1 ∧ (ab_bd K a).2 < (len : Int) then some none else none
theorem ab_idx_ok {ρ : List Int32} {K : ab_K} {a : ab_A} {x : Int32} {len : Nat} {ix : ab_Ix} (hk : ab_k ρ K) (ha : ab_i ρ a = some x) (h : ab_idx K a len = some ix) : 0 ≤ x.toInt ∧ x.toInt < (len : Int) ∧ ab_ixin ix x.toNatClampNeg := by
  have hb := ab_bd_in hk ha
  unfold ab_idx at h
  split at h
  · rename_i l hl
    have hin := ab_vals_in hk 4 ha hl
    have hm : x.toNatClampNeg ∈ l.map Int.toNat := List.mem_map.mpr ⟨x.toInt, hin, rfl⟩
    split at h
    · rename_i hall
      cases h
      have := List.all_eq_true.mp hall _ hin
      simp only [Bool.and_eq_true, decide_eq_true_eq] at this
      exact ⟨this.1, this.2, hm⟩
    · split at h
      · rename_i hc
        cases h
        obtain ⟨b1, b2⟩ := hb
        exact ⟨by omega, by omega, hm⟩
      · cases h
  · split at h
    · rename_i hc
      cases h
      obtain ⟨b1, b2⟩ := hb
      exact ⟨by omega, by omega, trivial⟩
    · cases h
def ab_get : ab_O := fun h md P t S => match S.2.2.1 with
  | x :: st => if x.1 = 1 ∧ ab_same x.2.2 (ab_kd x.2.2) = true ∧ (ab_kd x.2.2).1 = t.1.toNat ∧ t.2.1.toNat < (ab_kd x.2.2).2 then (match cm_ft t.1.toNat t.2.1.toNat with
      | 2 => some [ab_adv S 3 ((6, 0, []) :: st)]
      | 3 => (match ab_ldR h S.2.2.2.2 x.2.2 [t.2.1.toNat] with
        | some a => some [ab_adv S 3 (a :: st)]
        | none => none)
      | 0 => some [(S.1 + 3, S.2.1, (ab_ldI h S.2.2.2.1 S.2.2.2.2 x.2.2 (some [t.2.1.toNat])).1 :: st, (ab_ldI h S.2.2.2.1 S.2.2.2.2 x.2.2 (some [t.2.1.toNat])).2)]
      | _ => none) else none
  | _ => none
theorem ab_get_ok : ab_Snd cm_get ab_get := by
  intro h N M0 md E P t S Ss C ρ k hN h1 hG hk
  obtain ⟨pc, L, st, K, Ca⟩ := S
  obtain ⟨cpc, CL, sc, M⟩ := C
  obtain ⟨e0, gl, gs, gk, gm⟩ := hG
  dsimp only at e0 gl gs gk gm
  subst e0
  unfold ab_get at h1
  dsimp only at h1
  split at h1
  · rename_i x st'
    split at h1
    · rename_i hc
      obtain ⟨hx1, hsm, hk1, hk2⟩ := hc
      obtain ⟨vx, sc2, rfl, hvx, gs2⟩ := ab_s_cons gs
      obtain ⟨c, hc, rfl⟩ := ab_v1 hx1 hvx
      have hkc := ab_same_in hsm hc
      refine ⟨by rw [hkc]; exact hk1, by rw [hkc]; exact hk2, ?_⟩
      split at h1
      · rename_i e
        cases h1
        rw [e]
        exact ab_fin hk _ (List.mem_singleton.mpr rfl) (cpc + 3, CL, .long (M.2.1 c t.2.1.toNat) :: sc2, M) ⟨rfl, gl, ⟨⟨_, rfl⟩, gs2⟩, gk, gm⟩
      · rename_i e
        split at h1
        · rename_i a ha
          cases h1
          rw [e]
          exact ab_fin hk _ (List.mem_singleton.mpr rfl) (cpc + 3, CL, cm_rq (M.2.2 c t.2.1.toNat) :: sc2, M) ⟨rfl, gl, ⟨ab_ldR_ok gm ha hc (List.mem_singleton.mpr rfl), gs2⟩, gk, gm⟩
        · cases h1
      · rename_i e
        cases h1
        rw [e]
        obtain ⟨ext, k1, k2, k3⟩ := ab_ldI_ok (i := t.2.1.toNat) hN gk gm (rfl : ab_ldI h K Ca x.2.2 (some [t.2.1.toNat]) = (_, _, _)) hc (List.mem_singleton.mpr rfl)
        exact hk _ (List.mem_singleton.mpr rfl) ext (cpc + 3, CL, .int (M.1 c t.2.1.toNat) :: sc2, M) ⟨rfl, ab_l_ap gl, ⟨ab_iv k2, ab_s_ap gs2⟩, k1, k3⟩
      · cases h1
    · cases h1
  · cases h1

def ab_put : ab_O := fun h md P t S => match S.2.2.1 with
  | a :: x :: st => if x.1 = 1 ∧ ab_same x.2.2 (ab_kd x.2.2) = true ∧ (ab_kd x.2.2).1 = t.1.toNat ∧ t.2.1.toNat < (ab_kd x.2.2).2 ∧ cm_fin t.1.toNat t.2.1.toNat = false then (match cm_ft t.1.toNat t.2.1.toNat with
      | 2 => if a.1 = 6 ∧ ab_stL h md x.2.2 (some [t.2.1.toNat]) = true then some [ab_adv S 3 st] else none
      | 3 => if a.1 = 1 ∧ ab_stR h md a x.2.2 t.2.1.toNat = true then some [(S.1 + 3, S.2.1, st, S.2.2.2.1, ab_keep S.2.2.2.2 x.2.2 (some [t.2.1.toNat]) a)] else none
      | 0 => if ab_isI a = true ∧ (cm_isB t.1.toNat t.2.1.toNat = true → 0 ≤ (ab_bd S.2.2.2.1 a).1 ∧ (ab_bd S.2.2.2.1 a).2 ≤ 1) ∧ ab_stI h md (ab_bd S.2.2.2.1 a) x.2.2 (some [t.2.1.toNat]) = true then some [(S.1 + 3, S.2.1, st, S.2.2.2.1, ab_keep S.2.2.2.2 x.2.2 (some [t.2.1.toNat]) a)] else none
      | _ => none) else none
  | _ => none
theorem ab_put_ok : ab_Snd cm_put ab_put := by
  intro h N M0 md E P t S Ss C ρ k hN h1 hG hk
  obtain ⟨pc, L, st, K, Ca⟩ := S
  obtain ⟨cpc, CL, sc, M⟩ := C
  obtain ⟨e0, gl, gs, gk, gm⟩ := hG
  dsimp only at e0 gl gs gk gm
  subst e0
  unfold ab_put at h1
  dsimp only at h1
  split at h1
  · rename_i a x st'
    split at h1
    · rename_i hc
      obtain ⟨hx1, hsm, hk1, hk2, hfin⟩ := hc
      obtain ⟨va, sc1, rfl, hva, gs1⟩ := ab_s_cons gs
      obtain ⟨vx, sc2, rfl, hvx, gs2⟩ := ab_s_cons gs1
      obtain ⟨c, hc, rfl⟩ := ab_v1 hx1 hvx
      have hkc := ab_same_in hsm hc
      split at h1
      · rename_i e
        split at h1
        · rename_i hq
          cases h1
          obtain ⟨z, rfl⟩ := ab_v6 hq.1 hva
          exact ⟨by rw [hkc]; exact hk1, by rw [hkc]; exact hk2, hfin, e, ab_fin hk _ (List.mem_singleton.mpr rfl) (cpc + 3, CL, sc2, cm_wl M c t.2.1.toNat z) ⟨rfl, gl, gs2, gk, ab_stL_ok hN gm hq.2 hc (List.mem_singleton.mpr rfl)⟩⟩
        · cases h1
      · rename_i e
        split at h1
        · rename_i hq
          cases h1
          have hva0 := hva
          obtain ⟨z, hz, rfl⟩ := ab_v1 hq.1 hva
          exact ⟨by rw [hkc]; exact hk1, by rw [hkc]; exact hk2, hfin, e, ab_fin hk _ (List.mem_singleton.mpr rfl) (cpc + 3, CL, sc2, cm_wr M c t.2.1.toNat (some z)) ⟨rfl, gl, gs2, gk, ab_stR_ok (r := some z) hN gm hq.2 hc (by unfold ab_isI; rw [hq.1]; rfl) hva0⟩⟩
        · cases h1
      · rename_i e
        split at h1
        · rename_i hq
          cases h1
          obtain ⟨z, hz, rfl⟩ := ab_vi hq.1 hva
          have hb := ab_bd_in gk hz
          refine ⟨by rw [hkc]; exact hk1, by rw [hkc]; exact hk2, hfin, ⟨e, fun hB => ?_⟩, ab_fin hk _ (List.mem_singleton.mpr rfl) (cpc + 3, CL, sc2, cm_wi M c t.2.1.toNat z) ⟨rfl, gl, gs2, gk, ab_stI_ok hN gm hq.2.2 hc (List.mem_singleton.mpr rfl) hz hb⟩⟩
          have h2 := hq.2.1 hB
          obtain ⟨b1, b2⟩ := hb
          have : z.toInt = 0 ∨ z.toInt = 1 := by omega
          rcases this with h0 | h0
          · exact Or.inl (Int32.toInt_inj.mp (by rw [h0]; rfl))
          · exact Or.inr (Int32.toInt_inj.mp (by rw [h0]; rfl))
        · cases h1
      · cases h1
    · cases h1
  · cases h1

def ab_iaload : ab_O := fun h md P t S => match S.2.2.1 with
  | i :: x :: st => if x.1 = 1 ∧ ab_isI i = true ∧ ab_same x.2.2 (ab_kd x.2.2) = true ∧ (ab_kd x.2.2).1 = 100 + 0 then (match ab_idx S.2.2.2.1 i (ab_kd x.2.2).2 with
      | some ix => some [(S.1 + 1, S.2.1, (ab_ldI h S.2.2.2.1 S.2.2.2.2 x.2.2 ix).1 :: st, (ab_ldI h S.2.2.2.1 S.2.2.2.2 x.2.2 ix).2)]
      | none => none) else none
  | _ => none
theorem ab_iaload_ok : ab_Snd cm_iaload ab_iaload := by
  intro h N M0 md E P t S Ss C ρ k hN h1 hG hk
  obtain ⟨pc, L, st, K, Ca⟩ := S
  obtain ⟨cpc, CL, sc, M⟩ := C
  obtain ⟨e0, gl, gs, gk, gm⟩ := hG
  dsimp only at e0 gl gs gk gm
  subst e0
  unfold ab_iaload at h1
  dsimp only at h1
  split at h1
  · rename_i i x st'
    split at h1
    · rename_i hc
      obtain ⟨hx1, hi0, hsm, hk1⟩ := hc
      obtain ⟨vi, sc1, rfl, hvi, gs1⟩ := ab_s_cons gs
      obtain ⟨vx, sc2, rfl, hvx, gs2⟩ := ab_s_cons gs1
      obtain ⟨j, hj, rfl⟩ := ab_vi hi0 hvi
      obtain ⟨c, hc, rfl⟩ := ab_v1 hx1 hvx
      have hkc := ab_same_in hsm hc
      split at h1
      · rename_i ix hix
        cases h1
        obtain ⟨q1, q2, q3⟩ := ab_idx_ok gk hj hix
        obtain ⟨ext, k1, k2, k3⟩ := ab_ldI_ok (i := j.toNatClampNeg) hN gk gm (rfl : ab_ldI h K Ca x.2.2 ix = (_, _, _)) hc q3
        exact ⟨by rw [hkc]; exact hk1, q1, by rw [hkc]; exact q2, hk _ (List.mem_singleton.mpr rfl) ext (cpc + 1, CL, .int (M.1 c j.toNatClampNeg) :: sc2, M) ⟨rfl, ab_l_ap gl, ⟨ab_iv k2, ab_s_ap gs2⟩, k1, k3⟩⟩
      · cases h1
    · cases h1
  · cases h1

def ab_baload : ab_O := fun h md P t S => match S.2.2.1 with
  | i :: x :: st => if x.1 = 1 ∧ ab_isI i = true ∧ ab_same x.2.2 (ab_kd x.2.2) = true ∧ (ab_kd x.2.2).1 = 100 + 1 then (match ab_idx S.2.2.2.1 i (ab_kd x.2.2).2 with
      | some ix => some [(S.1 + 1, S.2.1, (ab_ldI h S.2.2.2.1 S.2.2.2.2 x.2.2 ix).1 :: st, (ab_ldI h S.2.2.2.1 S.2.2.2.2 x.2.2 ix).2)]
      | none => none) else none
  | _ => none
theorem ab_baload_ok : ab_Snd cm_baload ab_baload := by
  intro h N M0 md E P t S Ss C ρ k hN h1 hG hk
  obtain ⟨pc, L, st, K, Ca⟩ := S
  obtain ⟨cpc, CL, sc, M⟩ := C
  obtain ⟨e0, gl, gs, gk, gm⟩ := hG
  dsimp only at e0 gl gs gk gm
  subst e0
  unfold ab_baload at h1
  dsimp only at h1
  split at h1
  · rename_i i x st'
    split at h1
    · rename_i hc
      obtain ⟨hx1, hi0, hsm, hk1⟩ := hc
      obtain ⟨vi, sc1, rfl, hvi, gs1⟩ := ab_s_cons gs
      obtain ⟨vx, sc2, rfl, hvx, gs2⟩ := ab_s_cons gs1
      obtain ⟨j, hj, rfl⟩ := ab_vi hi0 hvi
      obtain ⟨c, hc, rfl⟩ := ab_v1 hx1 hvx
      have hkc := ab_same_in hsm hc
      split at h1
      · rename_i ix hix
        cases h1
        obtain ⟨q1, q2, q3⟩ := ab_idx_ok gk hj hix
        obtain ⟨ext, k1, k2, k3⟩ := ab_ldI_ok (i := j.toNatClampNeg) hN gk gm (rfl : ab_ldI h K Ca x.2.2 ix = (_, _, _)) hc q3
        exact ⟨by rw [hkc]; exact hk1, q1, by rw [hkc]; exact q2, hk _ (List.mem_singleton.mpr rfl) ext (cpc + 1, CL, .int (M.1 c j.toNatClampNeg) :: sc2, M) ⟨rfl, ab_l_ap gl, ⟨ab_iv k2, ab_s_ap gs2⟩, k1, k3⟩⟩
      · cases h1
    · cases h1
  · cases h1

def ab_laload : ab_O := fun h md P t S => match S.2.2.1 with
  | i :: x :: st => if x.1 = 1 ∧ ab_isI i = true ∧ ab_same x.2.2 (ab_kd x.2.2) = true ∧ (ab_kd x.2.2).1 = 100 + 2 then (match ab_idx S.2.2.2.1 i (ab_kd x.2.2).2 with
      | some _ => some [ab_adv S 1 ((6, 0, []) :: st)]
      | none => none) else none
  | _ => none
theorem ab_laload_ok : ab_Snd cm_laload ab_laload := by
  intro h N M0 md E P t S Ss C ρ k hN h1 hG hk
  obtain ⟨pc, L, st, K, Ca⟩ := S
  obtain ⟨cpc, CL, sc, M⟩ := C
  obtain ⟨e0, gl, gs, gk, gm⟩ := hG
  dsimp only at e0 gl gs gk gm
  subst e0
  unfold ab_laload at h1
  dsimp only at h1
  split at h1
  · rename_i i x st'
    split at h1
    · rename_i hc
      obtain ⟨hx1, hi0, hsm, hk1⟩ := hc
      obtain ⟨vi, sc1, rfl, hvi, gs1⟩ := ab_s_cons gs
      obtain ⟨vx, sc2, rfl, hvx, gs2⟩ := ab_s_cons gs1
      obtain ⟨j, hj, rfl⟩ := ab_vi hi0 hvi
      obtain ⟨c, hc, rfl⟩ := ab_v1 hx1 hvx
      have hkc := ab_same_in hsm hc
      split at h1
      · rename_i ix hix
        cases h1
        obtain ⟨q1, q2, q3⟩ := ab_idx_ok gk hj hix
        exact ⟨by rw [hkc]; exact hk1, q1, by rw [hkc]; exact q2, ab_fin hk _ (List.mem_singleton.mpr rfl) (cpc + 1, CL, .long (M.2.1 c j.toNatClampNeg) :: sc2, M) ⟨rfl, gl, ⟨⟨_, rfl⟩, gs2⟩, gk, gm⟩⟩
      · cases h1
    · cases h1
  · cases h1

def ab_aaload : ab_O := fun h md P t S => match S.2.2.1 with
  | i :: x :: st => if x.1 = 1 ∧ ab_isI i = true ∧ ab_same x.2.2 (ab_kd x.2.2) = true ∧ (ab_kd x.2.2).1 = 100 + 3 then (match ab_idx S.2.2.2.1 i (ab_kd x.2.2).2 with
      | some (some l) => (match ab_ldR h S.2.2.2.2 x.2.2 l with
        | some a => some [ab_adv S 1 (a :: st)]
        | none => none)
      | _ => none) else none
  | _ => none
theorem ab_aaload_ok : ab_Snd cm_aaload ab_aaload := by
  intro h N M0 md E P t S Ss C ρ k hN h1 hG hk
  obtain ⟨pc, L, st, K, Ca⟩ := S
  obtain ⟨cpc, CL, sc, M⟩ := C
  obtain ⟨e0, gl, gs, gk, gm⟩ := hG
  dsimp only at e0 gl gs gk gm
  subst e0
  unfold ab_aaload at h1
  dsimp only at h1
  split at h1
  · rename_i i x st'
    split at h1
    · rename_i hc
      obtain ⟨hx1, hi0, hsm, hk1⟩ := hc
      obtain ⟨vi, sc1, rfl, hvi, gs1⟩ := ab_s_cons gs
      obtain ⟨vx, sc2, rfl, hvx, gs2⟩ := ab_s_cons gs1
      obtain ⟨j, hj, rfl⟩ := ab_vi hi0 hvi
      obtain ⟨c, hc, rfl⟩ := ab_v1 hx1 hvx
      have hkc := ab_same_in hsm hc
      split at h1
      · rename_i l hix
        split at h1
        · rename_i a ha
          cases h1
          obtain ⟨q1, q2, q3⟩ := ab_idx_ok gk hj hix
          exact ⟨by rw [hkc]; exact hk1, q1, by rw [hkc]; exact q2, ab_fin hk _ (List.mem_singleton.mpr rfl) (cpc + 1, CL, cm_rq (M.2.2 c j.toNatClampNeg) :: sc2, M) ⟨rfl, gl, ⟨ab_ldR_ok gm ha hc q3, gs2⟩, gk, gm⟩⟩
        · cases h1
      · cases h1
    · cases h1
  · cases h1

theorem ab_nar_b (x : Int32) : True := trivial
def ab_iastore : ab_O := fun h md P t S => match S.2.2.1 with
  | a :: i :: x :: st => if x.1 = 1 ∧ ab_isI i = true ∧ ab_isI a = true ∧ ab_same x.2.2 (ab_kd x.2.2) = true ∧ (ab_kd x.2.2).1 = 100 + 0 then (match ab_idx S.2.2.2.1 i (ab_kd x.2.2).2 with
      | some ix => if ab_stI h md (ab_bd S.2.2.2.1 a) x.2.2 ix = true then some [(S.1 + 1, S.2.1, st, S.2.2.2.1, ab_keep S.2.2.2.2 x.2.2 ix a)] else none
      | none => none) else none
  | _ => none
theorem ab_iastore_ok : ab_Snd cm_iastore ab_iastore := by
  intro h N M0 md E P t S Ss C ρ k hN h1 hG hk
  obtain ⟨pc, L, st, K, Ca⟩ := S
  obtain ⟨cpc, CL, sc, M⟩ := C
  obtain ⟨e0, gl, gs, gk, gm⟩ := hG
  dsimp only at e0 gl gs gk gm
  subst e0
  unfold ab_iastore at h1
  dsimp only at h1
  split at h1
  · rename_i a i x st'
    split at h1
    · rename_i hc
      obtain ⟨hx1, hi0, ha0, hsm, hk1⟩ := hc
      obtain ⟨va, sc0, rfl, hva, gs0⟩ := ab_s_cons gs
      obtain ⟨vi, sc1, rfl, hvi, gs1⟩ := ab_s_cons gs0
      obtain ⟨vx, sc2, rfl, hvx, gs2⟩ := ab_s_cons gs1
      obtain ⟨z, hz, rfl⟩ := ab_vi ha0 hva
      obtain ⟨j, hj, rfl⟩ := ab_vi hi0 hvi
      obtain ⟨c, hc, rfl⟩ := ab_v1 hx1 hvx
      have hkc := ab_same_in hsm hc
      split at h1
      · rename_i ix hix
        split at h1
        · rename_i hs
          cases h1
          obtain ⟨q1, q2, q3⟩ := ab_idx_ok gk hj hix
          exact ⟨by rw [hkc]; exact hk1, q1, by rw [hkc]; exact q2, ab_fin hk _ (List.mem_singleton.mpr rfl) (cpc + 1, CL, sc2, cm_wi M c j.toNatClampNeg z) ⟨rfl, gl, gs2, gk, ab_stI_ok hN gm hs hc q3 hz (ab_bd_in gk hz)⟩⟩
        · cases h1
      · cases h1
    · cases h1
  · cases h1

theorem ab_hl_nil {h : ab_H} {md : ab_Md} {cs : List Nat} {ix : ab_Ix} (hs : ab_stI h md ev_ful cs ix = true) (b : Int × Int) (hb : ev_ful.1 ≤ b.1 ∧ b.2 ≤ ev_ful.2) : ab_stI h md b cs ix = true := by
  refine List.all_eq_true.mpr (fun c hc => ?_)
  have h1 := List.all_eq_true.mp hs c hc
  simp only [Bool.and_eq_true] at h1 ⊢
  refine ⟨h1.1, h1.2.1, List.all_eq_true.mpr (fun e he => ?_)⟩
  have h2 := List.all_eq_true.mp h1.2.2 e he
  simp only [Bool.or_eq_true, Bool.and_eq_true, decide_eq_true_eq] at h2 ⊢
  rcases h2 with h2 | h2
  · exact Or.inl h2
  · exact Or.inr ⟨Int.le_trans h2.1 hb.1, Int.le_trans hb.2 h2.2⟩
def ab_bastore : ab_O := fun h md P t S => match S.2.2.1 with
  | a :: i :: x :: st => if x.1 = 1 ∧ ab_isI i = true ∧ ab_isI a = true ∧ ab_same x.2.2 (ab_kd x.2.2) = true ∧ (ab_kd x.2.2).1 = 100 + 1 then (match ab_idx S.2.2.2.1 i (ab_kd x.2.2).2 with
      | some ix => if ab_stI h md ev_ful x.2.2 ix = true then some [(S.1 + 1, S.2.1, st, (ab_any S.2.2.2.1 ev_ful).2, ab_keep S.2.2.2.2 x.2.2 ix (ab_any S.2.2.2.1 ev_ful).1)] else none
      | none => none) else none
  | _ => none
theorem ab_bastore_ok : ab_Snd cm_bastore ab_bastore := by
  intro h N M0 md E P t S Ss C ρ k hN h1 hG hk
  obtain ⟨pc, L, st, K, Ca⟩ := S
  obtain ⟨cpc, CL, sc, M⟩ := C
  obtain ⟨e0, gl, gs, gk, gm⟩ := hG
  dsimp only at e0 gl gs gk gm
  subst e0
  unfold ab_bastore at h1
  dsimp only at h1
  split at h1
  · rename_i a i x st'
    split at h1
    · rename_i hc
      obtain ⟨hx1, hi0, ha0, hsm, hk1⟩ := hc
      obtain ⟨va, sc0, rfl, hva, gs0⟩ := ab_s_cons gs
      obtain ⟨vi, sc1, rfl, hvi, gs1⟩ := ab_s_cons gs0
      obtain ⟨vx, sc2, rfl, hvx, gs2⟩ := ab_s_cons gs1
      obtain ⟨z, hz, rfl⟩ := ab_vi ha0 hva
      obtain ⟨j, hj, rfl⟩ := ab_vi hi0 hvi
      obtain ⟨c, hc, rfl⟩ := ab_v1 hx1 hvx
      have hkc := ab_same_in hsm hc
      split at h1
      · rename_i ix hix
        split at h1
        · rename_i hs
          cases h1
          obtain ⟨q1, q2, q3⟩ := ab_idx_ok gk hj hix
          obtain ⟨ext, k1, k2⟩ := ab_any_ok gk (ev_ful_in (vp_nar .byte z)) (rfl : ab_any K ev_ful = (_, _))
          exact ⟨by rw [hkc]; exact hk1, q1, by rw [hkc]; exact q2, hk _ (List.mem_singleton.mpr rfl) ext (cpc + 1, CL, sc2, cm_wi M c j.toNatClampNeg (vp_nar .byte z)) ⟨rfl, ab_l_ap gl, ab_s_ap gs2, k1, ab_stI_ok hN (ab_m_ap gm) hs hc q3 k2 (ev_ful_in _)⟩⟩
        · cases h1
      · cases h1
    · cases h1
  · cases h1

def ab_lastore : ab_O := fun h md P t S => match S.2.2.1 with
  | a :: i :: x :: st => if x.1 = 1 ∧ ab_isI i = true ∧ a.1 = 6 ∧ ab_same x.2.2 (ab_kd x.2.2) = true ∧ (ab_kd x.2.2).1 = 100 + 2 then (match ab_idx S.2.2.2.1 i (ab_kd x.2.2).2 with
      | some ix => if ab_stL h md x.2.2 ix = true then some [ab_adv S 1 st] else none
      | none => none) else none
  | _ => none
theorem ab_lastore_ok : ab_Snd cm_lastore ab_lastore := by
  intro h N M0 md E P t S Ss C ρ k hN h1 hG hk
  obtain ⟨pc, L, st, K, Ca⟩ := S
  obtain ⟨cpc, CL, sc, M⟩ := C
  obtain ⟨e0, gl, gs, gk, gm⟩ := hG
  dsimp only at e0 gl gs gk gm
  subst e0
  unfold ab_lastore at h1
  dsimp only at h1
  split at h1
  · rename_i a i x st'
    split at h1
    · rename_i hc
      obtain ⟨hx1, hi0, ha0, hsm, hk1⟩ := hc
      obtain ⟨va, sc0, rfl, hva, gs0⟩ := ab_s_cons gs
      obtain ⟨vi, sc1, rfl, hvi, gs1⟩ := ab_s_cons gs0
      obtain ⟨vx, sc2, rfl, hvx, gs2⟩ := ab_s_cons gs1
      obtain ⟨z, rfl⟩ := ab_v6 ha0 hva
      obtain ⟨j, hj, rfl⟩ := ab_vi hi0 hvi
      obtain ⟨c, hc, rfl⟩ := ab_v1 hx1 hvx
      have hkc := ab_same_in hsm hc
      split at h1
      · rename_i ix hix
        split at h1
        · rename_i hs
          cases h1
          obtain ⟨q1, q2, q3⟩ := ab_idx_ok gk hj hix
          exact ⟨by rw [hkc]; exact hk1, q1, by rw [hkc]; exact q2, ab_fin hk _ (List.mem_singleton.mpr rfl) (cpc + 1, CL, sc2, cm_wl M c j.toNatClampNeg z) ⟨rfl, gl, gs2, gk, ab_stL_ok hN gm hs hc q3⟩⟩
        · cases h1
      · cases h1
    · cases h1
  · cases h1

theorem ab_len_at (ρ : List Int32) (n : Nat) : ab_i ρ (ab_c (Int32.ofNat n).toInt) = some (Int32.ofNat n) := ab_c_at ρ _
def ab_alen : ab_O := fun h md P t S => match S.2.2.1 with
  | x :: st => if x.1 = 1 ∧ x.2.2.all (fun c => decide (c ≠ 1000)) = true ∧ ab_same x.2.2 (ab_kd x.2.2) = true ∧ 100 ≤ (ab_kd x.2.2).1 ∧ (ab_kd x.2.2).1 < 104 then some [ab_adv S 1 (ab_c (Int32.ofNat (ab_kd x.2.2).2).toInt :: st)] else none
  | _ => none
theorem ab_alen_ok : ab_Snd cm_alen ab_alen := by
  intro h N M0 md E P t S Ss C ρ k hN h1 hG hk
  obtain ⟨pc, L, st, K, Ca⟩ := S
  obtain ⟨cpc, CL, sc, M⟩ := C
  obtain ⟨e0, gl, gs, gk, gm⟩ := hG
  dsimp only at e0 gl gs gk gm
  subst e0
  unfold ab_alen at h1
  dsimp only at h1
  split at h1
  · rename_i x st'
    split at h1
    · rename_i hc
      cases h1
      obtain ⟨hx1, hne, hsm, hk1, hk2⟩ := hc
      obtain ⟨vx, sc2, rfl, hvx, gs2⟩ := ab_s_cons gs
      obtain ⟨c, hc, rfl⟩ := ab_v1 hx1 hvx
      have hkc := ab_same_in hsm hc
      have h0 : ¬ c = 1000 := of_decide_eq_true (List.all_eq_true.mp hne c hc)
      unfold cm_alen
      dsimp only
      rw [if_neg h0, hkc]
      exact ⟨hk1, hk2, ab_fin hk _ (List.mem_singleton.mpr rfl) (cpc + 1, CL, .int (Int32.ofNat (ab_kd x.2.2).2) :: sc2, M) ⟨rfl, gl, ⟨ab_iv (ab_c_at ρ _), gs2⟩, gk, gm⟩⟩
    · cases h1
  · cases h1

def ab_getV : ab_O := fun h md P t S => match S.2.2.1 with
  | (1, _, [c]) :: st => if 1001 ≤ c ∧ c < 1081 ∧ c % 2 = 1 then some [ab_adv S 3 ((1, 0, [c + 1]) :: st)] else none
  | _ => none
theorem ab_getV_ok : ab_Snd cm_getV ab_getV := by
  intro h N M0 md E P t S Ss C ρ k hN h1 hG hk
  obtain ⟨pc, L, st, K, Ca⟩ := S
  obtain ⟨cpc, CL, sc, M⟩ := C
  obtain ⟨e0, gl, gs, gk, gm⟩ := hG
  dsimp only at e0 gl gs gk gm
  subst e0
  unfold ab_getV at h1
  dsimp only at h1
  split at h1
  · rename_i n c st'
    split at h1
    · rename_i hc
      cases h1
      obtain ⟨vx, sc2, rfl, ⟨c', hc', rfl⟩, gs2⟩ := ab_s_cons gs
      cases List.mem_singleton.mp hc'
      exact ⟨hc.1, hc.2.1, hc.2.2, ab_fin hk _ (List.mem_singleton.mpr rfl) (cpc + 3, CL, .ref (c + 1) :: sc2, M) ⟨rfl, gl, ⟨⟨_, List.mem_singleton.mpr rfl, rfl⟩, gs2⟩, gk, gm⟩⟩
    · cases h1
  · cases h1

def ab_getC : ab_O := fun h md P t S => match S.2.2.1 with
  | (1, _, [c]) :: st => if 1001 ≤ c ∧ c < 1081 ∧ c % 2 = 1 then some [ab_adv S 3 (ab_c 0 :: st)] else none
  | _ => none
theorem ab_getC_ok : ab_Snd cm_getC ab_getC := by
  intro h N M0 md E P t S Ss C ρ k hN h1 hG hk
  obtain ⟨pc, L, st, K, Ca⟩ := S
  obtain ⟨cpc, CL, sc, M⟩ := C
  obtain ⟨e0, gl, gs, gk, gm⟩ := hG
  dsimp only at e0 gl gs gk gm
  subst e0
  unfold ab_getC at h1
  dsimp only at h1
  split at h1
  · rename_i n c st'
    split at h1
    · rename_i hc
      cases h1
      obtain ⟨vx, sc2, rfl, ⟨c', hc', rfl⟩, gs2⟩ := ab_s_cons gs
      cases List.mem_singleton.mp hc'
      exact ⟨hc.1, hc.2.1, hc.2.2, ab_fin hk _ (List.mem_singleton.mpr rfl) (cpc + 3, CL, .int 0 :: sc2, M) ⟨rfl, gl, ⟨rfl, gs2⟩, gk, gm⟩⟩
    · cases h1
  · cases h1

def ab_alenS : ab_O := fun h md P t S => match S.2.2.1 with
  | (1, _, [c]) :: st => (match ev_strs[(c - 1001) / 2]? with
    | some r => if 1001 ≤ c ∧ c < 1081 ∧ c % 2 = 0 then some [ab_adv S 1 (ab_c (Int32.ofNat r.2.2.2.length).toInt :: st)] else none
    | none => none)
  | _ => none
theorem ab_alenS_ok : ab_Snd cm_alenS ab_alenS := by
  intro h N M0 md E P t S Ss C ρ k hN h1 hG hk
  obtain ⟨pc, L, st, K, Ca⟩ := S
  obtain ⟨cpc, CL, sc, M⟩ := C
  obtain ⟨e0, gl, gs, gk, gm⟩ := hG
  dsimp only at e0 gl gs gk gm
  subst e0
  unfold ab_alenS at h1
  dsimp only at h1
  split at h1
  · rename_i n c st'
    split at h1
    · rename_i r hr
      split at h1
      · rename_i hc
        cases h1
        obtain ⟨vx, sc2, rfl, ⟨c', hc', rfl⟩, gs2⟩ := ab_s_cons gs
        cases List.mem_singleton.mp hc'
        unfold cm_alenS
        dsimp only
        rw [hr]
        exact ⟨hc.1, hc.2.1, hc.2.2, ab_fin hk _ (List.mem_singleton.mpr rfl) (cpc + 1, CL, .int (Int32.ofNat r.2.2.2.length) :: sc2, M) ⟨rfl, gl, ⟨ab_iv (ab_c_at ρ _), gs2⟩, gk, gm⟩⟩
      · cases h1
    · cases h1
  · cases h1

def ab_baloadS : ab_O := fun h md P t S => match S.2.2.1 with
  | i :: (1, _, [c]) :: st => (match ev_strs[(c - 1001) / 2]? with
    | some r => if 1001 ≤ c ∧ c < 1081 ∧ c % 2 = 0 ∧ ab_isI i = true ∧ 0 ≤ (ab_bd S.2.2.2.1 i).1 ∧ (ab_bd S.2.2.2.1 i).2 < (r.2.2.2.length : Int) then some [ab_advK S 1 ((ab_any S.2.2.2.1 ev_ful).1 :: st) (ab_any S.2.2.2.1 ev_ful).2] else none
    | none => none)
  | _ => none
theorem ab_baloadS_ok : ab_Snd cm_baloadS ab_baloadS := by
  intro h N M0 md E P t S Ss C ρ k hN h1 hG hk
  obtain ⟨pc, L, st, K, Ca⟩ := S
  obtain ⟨cpc, CL, sc, M⟩ := C
  obtain ⟨e0, gl, gs, gk, gm⟩ := hG
  dsimp only at e0 gl gs gk gm
  subst e0
  unfold ab_baloadS at h1
  dsimp only at h1
  split at h1
  · rename_i i n c st'
    split at h1
    · rename_i r hr
      split at h1
      · rename_i hc
        cases h1
        obtain ⟨vi, sc1, rfl, hvi, gs1⟩ := ab_s_cons gs
        obtain ⟨vx, sc2, rfl, ⟨c', hc', rfl⟩, gs2⟩ := ab_s_cons gs1
        cases List.mem_singleton.mp hc'
        obtain ⟨c1, c2, c3, c4, c5, c6⟩ := hc
        obtain ⟨j, hj, rfl⟩ := ab_vi c4 hvi
        obtain ⟨b1, b2⟩ := ab_bd_in gk hj
        obtain ⟨ext, k1, k2⟩ := ab_any_ok gk (ev_ful_in (r.2.2.2.getD j.toNatClampNeg 0)) (rfl : ab_any K ev_ful = (_, _))
        unfold cm_baloadS
        dsimp only
        rw [hr]
        exact ⟨c1, c2, c3, by omega, by omega, hk _ (List.mem_singleton.mpr rfl) ext (cpc + 1, CL, .int (r.2.2.2.getD j.toNatClampNeg 0) :: sc2, M) ⟨rfl, ab_l_ap gl, ⟨ab_iv k2, ab_s_ap gs2⟩, k1, ab_m_ap gm⟩⟩
      · cases h1
    · cases h1
  · cases h1

theorem ab_tens_in (j : Nat) (hj : j < 5) : ev_inb (1, 10000) (cm_tens j) := by
  have : ∀ j : Fin 5, ev_inb (1, 10000) (cm_tens j.val) := by
    unfold ev_inb
    decide
  exact this ⟨j, hj⟩
def ab_tald : ab_O := fun h md P t S => match S.2.2.1 with
  | i :: (1, _, [c]) :: st => if c = 1100 ∧ ab_isI i = true ∧ 0 ≤ (ab_bd S.2.2.2.1 i).1 ∧ (ab_bd S.2.2.2.1 i).2 < 5 then some [ab_advK S 1 ((ab_any S.2.2.2.1 (1, 10000)).1 :: st) (ab_any S.2.2.2.1 (1, 10000)).2] else none
  | _ => none
theorem ab_tald_ok : ab_Snd cm_tald ab_tald := by
  intro h N M0 md E P t S Ss C ρ k hN h1 hG hk
  obtain ⟨pc, L, st, K, Ca⟩ := S
  obtain ⟨cpc, CL, sc, M⟩ := C
  obtain ⟨e0, gl, gs, gk, gm⟩ := hG
  dsimp only at e0 gl gs gk gm
  subst e0
  unfold ab_tald at h1
  dsimp only at h1
  split at h1
  · rename_i i n c st'
    split at h1
    · rename_i hc
      cases h1
      obtain ⟨vi, sc1, rfl, hvi, gs1⟩ := ab_s_cons gs
      obtain ⟨vx, sc2, rfl, ⟨c', hc', rfl⟩, gs2⟩ := ab_s_cons gs1
      cases List.mem_singleton.mp hc'
      obtain ⟨c1, c4, c5, c6⟩ := hc
      obtain ⟨j, hj, rfl⟩ := ab_vi c4 hvi
      obtain ⟨b1, b2⟩ := ab_bd_in gk hj
      have hj5 : j.toNatClampNeg < 5 := by
        show j.toInt.toNat < 5
        omega
      obtain ⟨ext, k1, k2⟩ := ab_any_ok gk (ab_tens_in j.toNatClampNeg hj5) (rfl : ab_any K (1, 10000) = (_, _))
      exact ⟨c1, by omega, by omega, hk _ (List.mem_singleton.mpr rfl) ext (cpc + 1, CL, .int (cm_tens j.toNatClampNeg) :: sc2, M) ⟨rfl, ab_l_ap gl, ⟨ab_iv k2, ab_s_ap gs2⟩, k1, ab_m_ap gm⟩⟩
    · cases h1
  · cases h1

def ab_alenT : ab_O := fun h md P t S => match S.2.2.1 with
  | (1, _, [c]) :: st => if c = 1100 then some [ab_adv S 1 (ab_c 5 :: st)] else none
  | _ => none
theorem ab_alenT_ok : ab_Snd cm_alenT ab_alenT := by
  intro h N M0 md E P t S Ss C ρ k hN h1 hG hk
  obtain ⟨pc, L, st, K, Ca⟩ := S
  obtain ⟨cpc, CL, sc, M⟩ := C
  obtain ⟨e0, gl, gs, gk, gm⟩ := hG
  dsimp only at e0 gl gs gk gm
  subst e0
  unfold ab_alenT at h1
  dsimp only at h1
  split at h1
  · rename_i n c st'
    split at h1
    · rename_i hc
      cases h1
      obtain ⟨vx, sc2, rfl, ⟨c', hc', rfl⟩, gs2⟩ := ab_s_cons gs
      cases List.mem_singleton.mp hc'
      exact ⟨hc, ab_fin hk _ (List.mem_singleton.mpr rfl) (cpc + 1, CL, .int 5 :: sc2, M) ⟨rfl, gl, ⟨rfl, gs2⟩, gk, gm⟩⟩
    · cases h1
  · cases h1

def ab_copyi : ab_O := fun h md P t S => match S.2.2.1 with
  | n :: dp :: y :: sp :: x :: st => if ab_cs st ≤ 8 ∧ x.1 = 1 ∧ y.1 = 1 ∧ ab_isI n = true ∧ ab_isI dp = true ∧ ab_isI sp = true ∧ ab_same x.2.2 (ab_kd x.2.2) = true ∧ ab_same y.2.2 (ab_kd y.2.2) = true ∧ (ab_kd x.2.2).1 = 100 ∧ (ab_kd y.2.2).1 = 100 ∧ 0 ≤ (ab_bd S.2.2.2.1 sp).1 ∧ 0 ≤ (ab_bd S.2.2.2.1 dp).1 ∧ 0 ≤ (ab_bd S.2.2.2.1 n).1 ∧ (ab_bd S.2.2.2.1 sp).2 + (ab_bd S.2.2.2.1 n).2 ≤ ((ab_kd x.2.2).2 : Int) ∧ (ab_bd S.2.2.2.1 dp).2 + (ab_bd S.2.2.2.1 n).2 ≤ ((ab_kd y.2.2).2 : Int) ∧ ab_stC h md y.2.2 = true then some [(S.1 + 3, S.2.1, st, S.2.2.2.1, ab_drop S.2.2.2.2 y.2.2 none)] else none
  | _ => none
theorem ab_copyi_ok : ab_Snd cm_copyi ab_copyi := by
  intro h N M0 md E P t S Ss C ρ k hN h1 hG hk
  obtain ⟨pc, L, st, K, Ca⟩ := S
  obtain ⟨cpc, CL, sc, M⟩ := C
  obtain ⟨e0, gl, gs, gk, gm⟩ := hG
  dsimp only at e0 gl gs gk gm
  subst e0
  unfold ab_copyi at h1
  dsimp only at h1
  split at h1
  · rename_i n dp y sp x st'
    split at h1
    · rename_i hc
      cases h1
      obtain ⟨z0, z1, z2, z3, z4, z5, z6, z7, z8, z9, y1, y2, y3, y4, y5, y6⟩ := hc
      obtain ⟨v1, sc1, rfl, h1v, gs1⟩ := ab_s_cons gs
      obtain ⟨v2, sc2, rfl, h2v, gs2⟩ := ab_s_cons gs1
      obtain ⟨v3, sc3, rfl, h3v, gs3⟩ := ab_s_cons gs2
      obtain ⟨v4, sc4, rfl, h4v, gs4⟩ := ab_s_cons gs3
      obtain ⟨v5, sc5, rfl, h5v, gs5⟩ := ab_s_cons gs4
      obtain ⟨n0, hn, rfl⟩ := ab_vi z3 h1v
      obtain ⟨dp0, hdp, rfl⟩ := ab_vi z4 h2v
      obtain ⟨d, hd, rfl⟩ := ab_v1 z2 h3v
      obtain ⟨sp0, hsp, rfl⟩ := ab_vi z5 h4v
      obtain ⟨c, hc, rfl⟩ := ab_v1 z1 h5v
      have hkc := ab_same_in z6 hc
      have hkd := ab_same_in z7 hd
      obtain ⟨a1, a2⟩ := ab_bd_in gk hn
      obtain ⟨b1, b2⟩ := ab_bd_in gk hdp
      obtain ⟨c1, c2⟩ := ab_bd_in gk hsp
      have hcs := ab_cs_ok gs5
      exact ⟨by rw [hcs]; exact z0, by rw [hkc]; exact z8, by rw [hkd]; exact z9, by omega, by omega, by omega, by rw [hkc]; omega, by rw [hkd]; omega, ab_fin hk _ (List.mem_singleton.mpr rfl) (cpc + 3, CL, sc5, cm_cp M c sp0.toNatClampNeg d dp0.toNatClampNeg n0.toNatClampNeg) ⟨rfl, gl, gs5, gk, ab_stC_ok hN gm y6 hd⟩⟩
    · cases h1
  · cases h1

