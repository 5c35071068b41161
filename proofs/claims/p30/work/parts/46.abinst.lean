/-! AB: instances of templates -/
def ab_eqA (a b : ab_A) : Bool := decide (a.1 = b.1) && (decide (a.2.1 = b.2.1) && decide (a.2.2 = b.2.2))
theorem ab_eqA_ok {a b : ab_A} (h : ab_eqA a b = true) : a = b := by
  obtain ⟨a1, a2, a3⟩ := a
  obtain ⟨b1, b2, b3⟩ := b
  simp only [ab_eqA, Bool.and_eq_true, decide_eq_true_eq] at h
  obtain ⟨rfl, rfl, rfl⟩ := h
  rfl
/-- a's value is as t says, t's variables being sg -/
def ab_sub (K : ab_K) (sg : List ab_A) (t a : ab_A) : Bool := match t.1 with
  | 0 => ab_isI a && (decide ((ab_bd K a).1 = (Int32.ofInt t.2.1).toInt) && decide ((ab_bd K a).2 = (Int32.ofInt t.2.1).toInt))
  | 1 => decide (a.1 = 1) && a.2.2.all (fun c => t.2.2.contains c)
  | 2 => decide (a.1 = 2)
  | 3 => (match sg[t.2.1.toNat]? with
    | some b => ab_eqA b a && ab_isI a
    | none => false)
  | 6 => decide (a.1 = 6)
  | 7 => (decide (a.1 = 1) || (decide (a.1 = 2) || decide (a.1 = 7))) && a.2.2.all (fun c => t.2.2.contains c)
  | _ => false
def ab_rT (ρ : List Int32) (sg : List ab_A) : List Int32 := sg.map (fun b => (ab_i ρ b).getD 0)
theorem ab_rT_at {ρ : List Int32} {sg : List ab_A} {j : Nat} {b : ab_A} {x : Int32} (h : sg[j]? = some b) (hb : ab_i ρ b = some x) : (ab_rT ρ sg)[j]? = some x := by
  unfold ab_rT
  rw [List.getElem?_map, h]
  simp [hb]
theorem ab_sub_ok {ρ : List Int32} {K : ab_K} {sg : List ab_A} {t a : ab_A} {v : Value} (h : ab_sub K sg t a = true) (hk : ab_k ρ K) (hv : ab_v ρ a v) : ab_v (ab_rT ρ sg) t v := by
  unfold ab_sub at h
  split at h
  · rename_i e
    simp only [Bool.and_eq_true, decide_eq_true_eq] at h
    obtain ⟨h1, h2, h3⟩ := h
    obtain ⟨x, hx, rfl⟩ := ab_vi h1 hv
    obtain ⟨b1, b2⟩ := ab_bd_in hk hx
    unfold ab_v
    rw [e]
    have : x = Int32.ofInt t.2.1 := Int32.toInt_inj.mp (by omega)
    show Value.int x = .int (Int32.ofInt t.2.1)
    rw [this]
  · rename_i e
    simp only [Bool.and_eq_true, decide_eq_true_eq] at h
    obtain ⟨c, hc, rfl⟩ := ab_v1 h.1 hv
    unfold ab_v
    rw [e]
    exact ⟨c, List.contains_iff_mem.mp (List.all_eq_true.mp h.2 c hc), rfl⟩
  · rename_i e
    have h := of_decide_eq_true h
    unfold ab_v at hv ⊢
    rw [h] at hv
    rw [e]
    exact hv
  · rename_i e
    split at h
    · rename_i b hb
      simp only [Bool.and_eq_true] at h
      cases ab_eqA_ok h.1
      obtain ⟨x, hx, rfl⟩ := ab_vi h.2 hv
      unfold ab_v
      rw [e]
      exact ⟨x, ab_rT_at hb hx, rfl⟩
    · cases h
  · rename_i e
    have h := of_decide_eq_true h
    obtain ⟨x, rfl⟩ := ab_v6 h hv
    unfold ab_v
    rw [e]
    exact ⟨x, rfl⟩
  · rename_i e
    simp only [Bool.and_eq_true, Bool.or_eq_true, decide_eq_true_eq] at h
    obtain ⟨h1, h2⟩ := h
    unfold ab_v
    rw [e]
    have hin : ∀ c, c ∈ a.2.2 → c ∈ t.2.2 := fun c hc => List.contains_iff_mem.mp (List.all_eq_true.mp h2 c hc)
    unfold ab_v at hv
    rcases h1 with h1 | h1 | h1
    · rw [h1] at hv
      obtain ⟨c, hc, rfl⟩ := hv
      exact Or.inr ⟨c, hin c hc, rfl⟩
    · rw [h1] at hv
      exact Or.inl hv
    · rw [h1] at hv
      rcases hv with hv | ⟨c, hc, rfl⟩
      · exact Or.inl hv
      · exact Or.inr ⟨c, hin c hc, rfl⟩
  · cases h
/-- a value that stands -/
def ab_def (K : ab_K) (b : ab_A) : Bool := decide (b.1 = 0) || (decide (b.1 = 3) && decide (b.2.1.toNat < K.length))
theorem ab_def_ok {ρ : List Int32} {K : ab_K} {b : ab_A} (h : ab_def K b = true) (hk : ab_k ρ K) : ∃ x, ab_i ρ b = some x := by
  simp only [ab_def, Bool.or_eq_true, Bool.and_eq_true, decide_eq_true_eq] at h
  unfold ab_i
  rcases h with h | ⟨h, h2⟩
  · rw [h]; exact ⟨_, rfl⟩
  · rw [h]; exact ⟨_, List.getElem?_eq_getElem (by rw [← hk.1]; exact h2)⟩
def ab_sb (sg : List ab_A) (a : ab_A) : ab_A := if a.1 = 3 then (match sg[a.2.1.toNat]? with
  | some b => b
  | none => (9, 0, [])) else a
theorem ab_sb_ok {ρ : List Int32} {sg : List ab_A} {a : ab_A} {y : Int32} (h : ab_i ρ (ab_sb sg a) = some y) : ab_i (ab_rT ρ sg) a = some y := by
  unfold ab_sb at h
  split at h
  · rename_i h3
    split at h
    · rename_i b hb
      unfold ab_i
      rw [h3]
      exact ab_rT_at hb h
    · cases h
  · rename_i h3
    unfold ab_i at h ⊢
    split at h
    · rename_i e; exact h
    · rename_i e; exact absurd e h3
    · cases h
/-- the template's knowledge holds -/
def ab_kin (K : ab_K) (sg : List ab_A) (b : ab_A) (r : ab_Ke) : Bool := ab_def K b && (decide (r.1 ≤ (ab_bd K b).1) && (decide ((ab_bd K b).2 ≤ r.2.1) && (decide (r.2.2.1 = 0) || (decide (b.1 = 3) && (match K[b.2.1.toNat]? with
  | some q => decide (q.2.2.1 = r.2.2.1) && (decide (q.2.2.1 ≠ 0) && (ab_eqA q.2.2.2.1 (ab_sb sg r.2.2.2.1) && ab_eqA q.2.2.2.2 (ab_sb sg r.2.2.2.2)))
  | none => false)))))
def ab_kins (K : ab_K) (sg : List ab_A) : List ab_A → ab_K → Bool
  | [], [] => true
  | b :: bs, r :: rs => ab_kin K sg b r && ab_kins K sg bs rs
  | _, _ => false
theorem ab_kins_at {K : ab_K} {sg : List ab_A} : ∀ {bs : List ab_A} {rs : ab_K}, ab_kins K sg bs rs = true → bs.length = rs.length ∧ ∀ (j : Nat) (b : ab_A) (r : ab_Ke), bs[j]? = some b → rs[j]? = some r → ab_kin K sg b r = true
  | [], [], _ => ⟨rfl, fun j b r h => by cases h⟩
  | [], _ :: _, h => by cases h
  | _ :: _, [], h => by cases h
  | b :: bs, r :: rs, h => by
    unfold ab_kins at h
    simp only [Bool.and_eq_true] at h
    obtain ⟨i1, i2⟩ := ab_kins_at h.2
    refine ⟨by rw [List.length_cons, List.length_cons, i1], fun j b' r' h1 h2 => ?_⟩
    cases j with
    | zero => cases h1; cases h2; exact h.1
    | succ j => exact i2 j b' r' h1 h2
theorem ab_kins_ok {ρ : List Int32} {K TK : ab_K} {sg : List ab_A} (hk : ab_k ρ K) (h : ab_kins K sg sg TK = true) : ab_k (ab_rT ρ sg) TK ∧ ∀ b ∈ sg, ∃ x, ab_i ρ b = some x := by
  obtain ⟨hl, hat⟩ := ab_kins_at h
  have hall : ∀ b ∈ sg, ∃ x, ab_i ρ b = some x := by
    intro b hb
    obtain ⟨j, hj⟩ := List.getElem?_of_mem hb
    have hlt : j < TK.length := by rw [← hl]; exact (List.getElem?_eq_some_iff.mp hj).1
    have h1 := hat j b _ hj (List.getElem?_eq_getElem hlt)
    unfold ab_kin at h1
    simp only [Bool.and_eq_true] at h1
    exact ab_def_ok h1.1 hk
  refine ⟨⟨by unfold ab_rT; rw [List.length_map, hl], fun j r x h1 h2 => ?_⟩, hall⟩
  have hlt : j < sg.length := by rw [hl]; exact (List.getElem?_eq_some_iff.mp h1).1
  have hb := List.getElem?_eq_getElem hlt
  obtain ⟨y, hy⟩ := hall _ (List.mem_of_getElem? hb)
  rw [ab_rT_at hb hy] at h2
  cases h2
  have h3 := hat j _ r hb h1
  unfold ab_kin at h3
  simp only [Bool.and_eq_true, Bool.or_eq_true, decide_eq_true_eq] at h3
  obtain ⟨d1, d2, d3, d4⟩ := h3
  obtain ⟨b1, b2⟩ := ab_bd_in hk hy
  refine ⟨⟨Int.le_trans d2 b1, Int.le_trans b2 d3⟩, ?_⟩
  rcases d4 with d4 | ⟨d4, d5⟩
  · exact Or.inl d4
  · refine Or.inr ?_
    split at d5
    · rename_i q hq
      simp only [Bool.and_eq_true, decide_eq_true_eq] at d5
      obtain ⟨f1, f2, f3, f4⟩ := d5
      have hy2 : ρ[(sg[j]).2.1.toNat]? = some x := by
        unfold ab_i at hy
        rw [d4] at hy
        exact hy
      rcases (hk.2 _ q x hq hy2).2 with hz | ⟨u, z, hu, hz, e⟩
      · exact absurd hz f2
      · rw [ab_eqA_ok f3] at hu
        rw [ab_eqA_ok f4] at hz
        exact ⟨u, z, ab_sb_ok hu, ab_sb_ok hz, by rw [← f1]; exact e⟩
    · cases d5
/-- entries of the memory that the template tells are read -/
def ab_fill (h : ab_H) : ab_Ca → ab_K → ab_Ca → ab_K × ab_Ca
  | [], K, Ca => (K, Ca)
  | q :: r, K, Ca => if ab_isI q.2.2 = true ∧ ab_cf Ca q.1 q.2.1 = none then ab_fill h r (ab_ldI h K Ca [q.1] (some [q.2.1])).2.1 (ab_ldI h K Ca [q.1] (some [q.2.1])).2.2 else ab_fill h r K Ca
theorem ab_fill_ok {h : ab_H} {N : cm_M → Prop} {M0 : cm_M} {md : ab_Md} {M : cm_M} (hN : ab_NP h N) : ∀ (T : ab_Ca) {K : ab_K} {Ca : ab_Ca} {ρ : List Int32}, ab_k ρ K → ab_m h N M0 md ρ Ca M → ∃ ext, ab_k (ρ ++ ext) (ab_fill h T K Ca).1 ∧ ab_m h N M0 md (ρ ++ ext) (ab_fill h T K Ca).2 M
  | [], K, Ca, ρ, hk, hm => ⟨[], by rw [ab_nil]; exact hk, by rw [ab_nil]; exact hm⟩
  | q :: r, K, Ca, ρ, hk, hm => by
    unfold ab_fill
    split
    · obtain ⟨ext, k1, k2, k3⟩ := ab_ldI_ok (c := q.1) (i := q.2.1) hN hk hm (rfl : ab_ldI h K Ca [q.1] (some [q.2.1]) = (_, _, _)) (List.mem_singleton.mpr rfl) (List.mem_singleton.mpr rfl)
      obtain ⟨ext2, e1, e2⟩ := ab_fill_ok hN r k1 k3
      exact ⟨ext ++ ext2, by rw [← List.append_assoc]; exact e1, by rw [← List.append_assoc]; exact e2⟩
    · exact ab_fill_ok hN r hk hm
def ab_subs (K : ab_K) (sg : List ab_A) : List ab_A → List ab_A → Bool
  | [], [] => true
  | t :: ts, a :: as => ab_sub K sg t a && ab_subs K sg ts as
  | _, _ => false
theorem ab_subs_ok {ρ : List Int32} {K : ab_K} {sg : List ab_A} (hk : ab_k ρ K) : ∀ {ts as : List ab_A} {vs : List Value}, ab_subs K sg ts as = true → ab_s ρ as vs → ab_s (ab_rT ρ sg) ts vs
  | [], [], [], _, _ => trivial
  | [], [], _ :: _, _, h => h.elim
  | [], _ :: _, _, h, _ => by cases h
  | _ :: _, [], _, h, _ => by cases h
  | _ :: _, _ :: _, [], _, h => h.elim
  | t :: ts, a :: as, v :: vs, h, hs => by
    unfold ab_subs at h
    simp only [Bool.and_eq_true] at h
    exact ⟨ab_sub_ok h.1 hk hs.1, ab_subs_ok hk h.2 hs.2⟩
def ab_subL (K : ab_K) (sg : List ab_A) (TL L : List (Nat × ab_A)) : Bool := TL.all (fun q => match ev_at L q.1 with
  | some a => ab_sub K sg q.2 a
  | none => false)
theorem ab_subL_ok {ρ : List Int32} {K : ab_K} {sg : List ab_A} {TL L : List (Nat × ab_A)} {CL : List (Nat × Value)} (hk : ab_k ρ K) (h : ab_subL K sg TL L = true) (hl : ab_l ρ L CL) : ab_l (ab_rT ρ sg) TL CL := by
  intro q hq
  have h1 := List.all_eq_true.mp h q hq
  split at h1
  · rename_i a ha
    obtain ⟨v, x1, x2⟩ := hl _ (ev_at_mem ha)
    exact ⟨v, x1, ab_sub_ok h1 hk x2⟩
  · cases h1
def ab_subC (h : ab_H) (K : ab_K) (sg : List ab_A) (T Ca : ab_Ca) : Bool := T.all (fun q => if ab_isI q.2.2 = true then (match ab_cf Ca q.1 q.2.1 with
    | some a => ab_isI a && ab_sub K sg q.2.2 a
    | none => false) else (match ab_ldR h Ca [q.1] [q.2.1] with
    | some a => ab_sub K sg q.2.2 a
    | none => false))
theorem ab_subC_ok {h : ab_H} {N : cm_M → Prop} {M0 : cm_M} {md : ab_Md} {ρ : List Int32} {K : ab_K} {sg : List ab_A} {T Ca : ab_Ca} {M : cm_M} (hk : ab_k ρ K) (hs : ab_subC h K sg T Ca = true) (hm : ab_m h N M0 md ρ Ca M) : ab_ca (ab_rT ρ sg) M T := by
  intro q hq
  have h1 := List.all_eq_true.mp hs q hq
  unfold ab_ce
  split
  · rename_i hI
    rw [if_pos hI] at h1
    split at h1
    · rename_i a ha
      simp only [Bool.and_eq_true] at h1
      have h2 := hm.2.2 _ (ab_cf_mem ha)
      unfold ab_ce at h2
      rw [if_pos h1.1] at h2
      exact ab_vint (ab_sub_ok h1.2 hk (ab_iv h2))
    · cases h1
  · rename_i hI
    rw [if_neg hI] at h1
    split at h1
    · rename_i a ha
      exact ab_sub_ok h1 hk (ab_ldR_ok hm ha (List.mem_singleton.mpr rfl) (List.mem_singleton.mpr rfl))
    · cases h1
/-- the template's variables, found where they stand -/
def ab_prs (T S : ab_S) : List (ab_A × ab_A) := T.2.1.filterMap (fun q => (ev_at S.2.1 q.1).map (fun a => (q.2, a))) ++ (T.2.2.1.zip S.2.2.1 ++ T.2.2.2.2.filterMap (fun q => (ab_cf S.2.2.2.2 q.1 q.2.1).map (fun a => (q.2.2, a))))
def ab_sgf (prs : List (ab_A × ab_A)) (j : Nat) : ab_A := match prs with
  | [] => (9, 0, [])
  | p :: r => if p.1.1 = 3 ∧ p.1.2.1 = (j : Int) then p.2 else ab_sgf r j
def ab_sig (nE : Nat) (T S : ab_S) : List ab_A := (List.range T.2.2.2.1.length).map (fun j => if j < nE then ab_x j else ab_sgf (ab_prs T S) j)
/-! relations at a template are made new -/
/-- a value as another one and a number -/
def ab_un1 (K : ab_K) (a : ab_A) : ab_A × Int := if a.1 = 3 then (match K[a.2.1.toNat]? with
  | some r => if r.2.2.1 = 1 ∧ r.2.2.2.2.1 = 0 ∧ -2147483648 ≤ (ab_bd K r.2.2.2.1).1 + (Int32.ofInt r.2.2.2.2.2.1).toInt ∧ (ab_bd K r.2.2.2.1).2 + (Int32.ofInt r.2.2.2.2.2.1).toInt ≤ 2147483647 then (r.2.2.2.1, (Int32.ofInt r.2.2.2.2.2.1).toInt) else (a, 0)
  | none => (a, 0)) else (a, 0)
theorem ab_un1_ok {ρ : List Int32} {K : ab_K} {a u : ab_A} {c : Int} {x : Int32} (hk : ab_k ρ K) (ha : ab_i ρ a = some x) (h : ab_un1 K a = (u, c)) : ∃ y, ab_i ρ u = some y ∧ x.toInt = y.toInt + c := by
  unfold ab_un1 at h
  split at h
  · rename_i h3
    split at h
    · rename_i r hr
      split at h
      · rename_i hc
        cases h
        have hx : ρ[a.2.1.toNat]? = some x := by
          unfold ab_i at ha
          rw [h3] at ha
          exact ha
        have hcn : ab_i ρ r.2.2.2.2 = some (Int32.ofInt r.2.2.2.2.2.1) := by
          unfold ab_i
          rw [hc.2.1]
          rfl
        rcases (hk.2 _ r x hr hx).2 with hz | ⟨y, z, hy, hz, e⟩
        · omega
        · rw [hcn] at hz
          cases hz
          obtain ⟨y1, y2⟩ := ab_bd_in hk hy
          rw [hc.1] at e
          have e : x = y + Int32.ofInt r.2.2.2.2.2.1 := e
          refine ⟨y, hy, ?_⟩
          rw [e, Int32.toInt_add]
          exact ev_bm (by omega) (by omega)
      · cases h
        exact ⟨x, ha, by omega⟩
    · cases h
      exact ⟨x, ha, by omega⟩
  · cases h
    exact ⟨x, ha, by omega⟩
/-- bounds of y - x that a relation tells -/
def ab_rfd (y x : ab_A) : List ab_Ke → Option (Int × Int)
  | [] => none
  | r :: l => if r.2.2.1 = 22 ∧ ab_eqA r.2.2.2.1 y = true ∧ ab_eqA r.2.2.2.2 x = true then some (r.1, r.2.1) else ab_rfd y x l
theorem ab_rfd_ok {ρ : List Int32} {y x : ab_A} {yv xv : Int32} (hy : ab_i ρ y = some yv) (hx : ab_i ρ x = some xv) : ∀ {l : List ab_Ke} {b : Int × Int}, (∀ r ∈ l, ∃ w, ab_e ρ r w) → ab_rfd y x l = some b → ev_inb b (yv - xv)
  | [], b, _, h => by cases h
  | r :: l, b, hl, h => by
    unfold ab_rfd at h
    split at h
    · rename_i hc
      cases h
      obtain ⟨w, hw⟩ := hl r List.mem_cons_self
      rcases hw.2 with hz | ⟨y', x', h1, h2, e⟩
      · omega
      · rw [ab_eqA_ok hc.2.1, hy] at h1
        rw [ab_eqA_ok hc.2.2, hx] at h2
        cases h1
        cases h2
        rw [hc.1] at e
        have e : w = yv - xv := e
        rw [← e]
        exact hw.1
    · exact ab_rfd_ok hy hx (fun q hq => hl q (List.mem_cons_of_mem _ hq)) h
def ab_df (K : ab_K) (y x : ab_A) : Int × Int :=
  let g := ev_bd 22 (ab_bd K y) (ab_bd K x)
  let u := ab_un1 K y
  let v := ab_un1 K x
  match ab_rfd u.1 v.1 K with
  | some b => if -2147483648 ≤ (ab_bd K u.1).1 - (ab_bd K v.1).2 ∧ (ab_bd K u.1).2 - (ab_bd K v.1).1 ≤ 2147483647 ∧ -2147483648 ≤ b.1 + u.2 - v.2 ∧ b.2 + u.2 - v.2 ≤ 2147483647 then (max g.1 (b.1 + u.2 - v.2), min g.2 (b.2 + u.2 - v.2)) else g
  | none => g
theorem ab_df_in {ρ : List Int32} {K : ab_K} {y x : ab_A} {yv xv : Int32} (hk : ab_k ρ K) (hy : ab_i ρ y = some yv) (hx : ab_i ρ x = some xv) : ev_inb (ab_df K y x) (ev_f 22 yv xv) := by
  have hg : ev_inb (ev_bd 22 (ab_bd K y) (ab_bd K x)) (ev_f 22 yv xv) := ev_bd_in (ab_bd_in hk hy) (ab_bd_in hk hx)
  obtain ⟨ua, uc, hua⟩ : ∃ a b, ab_un1 K y = (a, b) := ⟨_, _, rfl⟩
  obtain ⟨va, vc, hva⟩ : ∃ a b, ab_un1 K x = (a, b) := ⟨_, _, rfl⟩
  unfold ab_df
  rw [hua, hva]
  dsimp only
  split
  · rename_i b hb
    split
    · rename_i hc
      obtain ⟨u, hu, eu⟩ := ab_un1_ok hk hy hua
      obtain ⟨v, hv, ev⟩ := ab_un1_ok hk hx hva
      obtain ⟨b1, b2⟩ := ab_rfd_ok hu hv (ab_k_all hk) hb
      obtain ⟨u1, u2⟩ := ab_bd_in hk hu
      obtain ⟨v1, v2⟩ := ab_bd_in hk hv
      have e1 : (u - v).toInt = u.toInt - v.toInt := by
        rw [Int32.toInt_sub]
        exact ev_bm (by omega) (by omega)
      have e2 : (ev_f 22 yv xv).toInt = yv.toInt - xv.toInt := by
        show (yv - xv).toInt = _
        rw [Int32.toInt_sub]
        exact ev_bm (by omega) (by omega)
      obtain ⟨g1, g2⟩ := hg
      refine ⟨?_, ?_⟩
      · dsimp only; omega
      · dsimp only; omega
    · exact hg
  · exact hg
/-- the relations of the template, made new in the state -/
def ab_rls (sg0 : List ab_A) : ab_K → List ab_A → ab_K → ab_K × List ab_A
  | r :: TK, b :: sg, K => if r.2.2.1 = 22 then
      (let q := ab_rls sg0 TK sg (K ++ [((ab_df K (ab_sb sg0 r.2.2.2.1) (ab_sb sg0 r.2.2.2.2)).1, (ab_df K (ab_sb sg0 r.2.2.2.1) (ab_sb sg0 r.2.2.2.2)).2, 22, ab_sb sg0 r.2.2.2.1, ab_sb sg0 r.2.2.2.2)])
       if ab_def K (ab_sb sg0 r.2.2.2.1) = true ∧ ab_def K (ab_sb sg0 r.2.2.2.2) = true then (q.1, ab_x K.length :: q.2) else (K, []))
    else (let q := ab_rls sg0 TK sg K
          (q.1, b :: q.2))
  | _, _, K => (K, [])
theorem ab_rls_ok {h : ab_H} {N : cm_M → Prop} {M0 : cm_M} {md : ab_Md} {Ca : ab_Ca} {M : cm_M} {sg0 : List ab_A} : ∀ (TK : ab_K) (sg : List ab_A) {K : ab_K} {ρ : List Int32}, ab_k ρ K → ab_m h N M0 md ρ Ca M → ∃ ext, ab_k (ρ ++ ext) (ab_rls sg0 TK sg K).1 ∧ ab_m h N M0 md (ρ ++ ext) Ca M
  | [], sg, K, ρ, hk, hm => ⟨[], by rw [ab_nil]; unfold ab_rls; exact hk, by rw [ab_nil]; exact hm⟩
  | _ :: _, [], K, ρ, hk, hm => ⟨[], by rw [ab_nil]; unfold ab_rls; exact hk, by rw [ab_nil]; exact hm⟩
  | r :: TK, b :: sg, K, ρ, hk, hm => by
    unfold ab_rls
    split
    · dsimp only
      split
      · rename_i hd
        obtain ⟨y, hy⟩ := ab_def_ok hd.1 hk
        obtain ⟨x, hx⟩ := ab_def_ok hd.2 hk
        have hk2 := ab_push hk (r := ((ab_df K (ab_sb sg0 r.2.2.2.1) (ab_sb sg0 r.2.2.2.2)).1, (ab_df K (ab_sb sg0 r.2.2.2.1) (ab_sb sg0 r.2.2.2.2)).2, 22, ab_sb sg0 r.2.2.2.1, ab_sb sg0 r.2.2.2.2)) (x := ev_f 22 y x) ⟨ab_df_in hk hy hx, Or.inr ⟨y, x, hy, hx, rfl⟩⟩
        obtain ⟨ext, e1, e2⟩ := ab_rls_ok (sg0 := sg0) TK sg hk2 (ab_m_ap hm)
        exact ⟨[ev_f 22 y x] ++ ext, by rw [← List.append_assoc]; exact e1, by rw [← List.append_assoc]; exact e2⟩
      · exact ⟨[], by rw [ab_nil]; exact hk, by rw [ab_nil]; exact hm⟩
    · dsimp only
      exact ab_rls_ok (sg0 := sg0) TK sg hk hm
def ab_in (h : ab_H) (nE : Nat) (T S : ab_S) : Option (ab_K × ab_Ca × List ab_A) :=
  let f := ab_fill h T.2.2.2.2 S.2.2.2.1 S.2.2.2.2
  let g := ab_rls (ab_sig nE T (S.1, S.2.1, S.2.2.1, f.1, f.2)) T.2.2.2.1 (ab_sig nE T (S.1, S.2.1, S.2.2.1, f.1, f.2)) f.1
  if nE ≤ g.2.length ∧ (List.range nE).all (fun j => match g.2[j]? with
      | some b => ab_eqA b (ab_x j)
      | none => false) = true ∧ ab_kins g.1 g.2 g.2 T.2.2.2.1 = true ∧ ab_subL g.1 g.2 T.2.1 S.2.1 = true ∧ ab_subs g.1 g.2 T.2.2.1 S.2.2.1 = true ∧ ab_subC h g.1 g.2 T.2.2.2.2 f.2 = true then some (g.1, f.2, g.2) else none
theorem ab_sig_pre {nE : Nat} {sg : List ab_A} {ρ0 e : List Int32} (h0 : ρ0.length = nE) (hn : nE ≤ sg.length) (hs : (List.range nE).all (fun j => match sg[j]? with
      | some b => ab_eqA b (ab_x j)
      | none => false) = true) : ∃ eT, ab_rT (ρ0 ++ e) sg = ρ0 ++ eT := by
  refine ⟨(ab_rT (ρ0 ++ e) sg).drop nE, ?_⟩
  have : (ab_rT (ρ0 ++ e) sg).take nE = ρ0 := by
    apply List.ext_getElem?
    intro j
    by_cases hj : j < nE
    · rw [List.getElem?_take_of_lt hj]
      have h1 := List.all_eq_true.mp hs j (List.mem_range.mpr hj)
      split at h1
      · rename_i b hb
        have hb2 := ab_eqA_ok h1
        subst hb2
        rw [List.getElem?_eq_getElem (show j < ρ0.length by omega)]
        refine ab_rT_at hb ?_
        show (ρ0 ++ e)[((j : Int)).toNat]? = some ρ0[j]
        rw [Int.toNat_natCast, List.getElem?_append_left (by omega), List.getElem?_eq_getElem (by omega)]
      · cases h1
    · rw [List.getElem?_eq_none (by rw [List.length_take]; omega), List.getElem?_eq_none (by omega)]
  have h1 := List.take_append_drop nE (ab_rT (ρ0 ++ e) sg)
  rw [this] at h1
  exact h1.symm
theorem ab_in_ok {h : ab_H} {N : cm_M → Prop} {M0 : cm_M} {md : ab_Md} {nE : Nat} {T S : ab_S} {K1 : ab_K} {Ca1 : ab_Ca} {sg : List ab_A} {ρ0 e : List Int32} {C : cm_S} (hN : ab_NP h N) (hin : ab_in h nE T S = some (K1, Ca1, sg)) (h0 : ρ0.length = nE) (gl : ab_l (ρ0 ++ e) S.2.1 C.2.1) (gs : ab_s (ρ0 ++ e) S.2.2.1 C.2.2.1) (gk : ab_k (ρ0 ++ e) S.2.2.2.1) (gm : ab_m h N M0 md (ρ0 ++ e) S.2.2.2.2 C.2.2.2) :
    ∃ e1 eT, ab_k (ρ0 ++ e ++ e1) K1 ∧ ab_m h N M0 md (ρ0 ++ e ++ e1) Ca1 C.2.2.2 ∧ ab_rT (ρ0 ++ e ++ e1) sg = ρ0 ++ eT ∧ (∀ b ∈ sg, ∃ x, ab_i (ρ0 ++ e ++ e1) b = some x) ∧ ab_l (ρ0 ++ eT) T.2.1 C.2.1 ∧ ab_s (ρ0 ++ eT) T.2.2.1 C.2.2.1 ∧ ab_k (ρ0 ++ eT) T.2.2.2.1 ∧ ab_m h N M0 md (ρ0 ++ eT) T.2.2.2.2 C.2.2.2 := by
  unfold ab_in at hin
  dsimp only at hin
  split at hin
  · rename_i hc
    cases hin
    obtain ⟨c0, cp, c1, c2, c3, c4⟩ := hc
    obtain ⟨e1, k1, k2⟩ := ab_fill_ok hN T.2.2.2.2 gk gm
    obtain ⟨e2, k1, k2⟩ := ab_rls_ok (sg0 := ab_sig nE T (S.1, S.2.1, S.2.2.1, (ab_fill h T.2.2.2.2 S.2.2.2.1 S.2.2.2.2).1, (ab_fill h T.2.2.2.2 S.2.2.2.1 S.2.2.2.2).2)) T.2.2.2.1 (ab_sig nE T (S.1, S.2.1, S.2.2.1, (ab_fill h T.2.2.2.2 S.2.2.2.1 S.2.2.2.2).1, (ab_fill h T.2.2.2.2 S.2.2.2.1 S.2.2.2.2).2)) k1 k2
    rw [List.append_assoc (ρ0 ++ e)] at k1 k2
    obtain ⟨r1, r2⟩ := ab_kins_ok k1 c1
    obtain ⟨eT, hT⟩ := ab_sig_pre (e := e ++ (e1 ++ e2)) h0 c0 cp
    rw [← List.append_assoc] at hT
    refine ⟨e1 ++ e2, eT, k1, k2, hT, r2, ?_, ?_, ?_, k2.1, k2.2.1, ?_⟩
    · rw [← hT]; exact ab_subL_ok k1 c2 (ab_l_ap gl)
    · rw [← hT]; exact ab_subs_ok k1 c3 (ab_s_ap gs)
    · rw [← hT]; exact r1
    · rw [← hT]; exact ab_subC_ok k1 c4 k2
  · cases hin
