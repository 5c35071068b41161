/-- bounds; references; places that only proofs by hand write; bounds of a place (c, i) where (c', i') is v -/
noncomputable abbrev ab_H : Type := List (Nat × List (Nat × Int × Int)) × List (Nat × List (Nat × Bool × List Nat)) × List (Nat × Nat) × List (Nat × Nat × Nat × Nat × Int × Int × Int)
noncomputable def ab_hl (h : ab_H) (c : Nat) : List (Nat × Int × Int) := match ev_at h.1 c with
  | some l => l
  | none => []
noncomputable def ab_hi (h : ab_H) (c i : Nat) : Int × Int := match ev_at (ab_hl h c) i with
  | some b => b
  | none => ev_ful
noncomputable def ab_hr (h : ab_H) (c i : Nat) : Option (Bool × List Nat) := match ev_at h.2.1 c with
  | some l => ev_at l i
  | none => none
noncomputable def ab_rok (q : Option (Bool × List Nat)) (r : Option Nat) : Prop := match q, r with
  | none, _ => True
  | some q, none => q.1 = true
  | some q, some c => c ∈ q.2
noncomputable def ab_ok (h : ab_H) (N : cm_M → Prop) (M : cm_M) : Prop := (∀ c i, ev_inb (ab_hi h c i) (M.1 c i)) ∧ (∀ c i, ab_rok (ab_hr h c i) (M.2.2 c i)) ∧ N M
/-- what holds of protected cells stays if they aren't written -/
noncomputable def ab_NP (h : ab_H) (N : cm_M → Prop) : Prop := (∀ M M' : cm_M, (∀ q ∈ h.2.2.1, M'.1 q.1 q.2 = M.1 q.1 q.2 ∧ M'.2.1 q.1 q.2 = M.2.1 q.1 q.2 ∧ M'.2.2 q.1 q.2 = M.2.2 q.1 q.2) → N M → N M') ∧ ∀ M : cm_M, N M → ∀ e ∈ h.2.2.2, M.1 e.2.2.1 e.2.2.2.1 = Int32.ofInt e.2.2.2.2.1 → ev_inb e.2.2.2.2.2 (M.1 e.1 e.2.1)
/-- what may be written: cells with places ([]: all) -/
noncomputable abbrev ab_Md : Type := List (Nat × List Nat)
noncomputable def ab_inM (md : ab_Md) (c i : Nat) : Bool := match ev_at md c with
  | some l => l.isEmpty || l.contains i
  | none => false
noncomputable def ab_allM (md : ab_Md) (c : Nat) : Bool := match ev_at md c with
  | some l => l.isEmpty
  | none => false
theorem ab_allM_in {md : ab_Md} {c : Nat} (h : ab_allM md c = true) (i : Nat) : ab_inM md c i = true := by
  unfold ab_allM at h
  unfold ab_inM
  split at h
  · simp [h]
  · cases h
noncomputable def ab_fr (md : ab_Md) (M0 M : cm_M) : Prop := ∀ c i, ab_inM md c i = false → M.1 c i = M0.1 c i ∧ M.2.1 c i = M0.2.1 c i ∧ M.2.2 c i = M0.2.2 c i
theorem ab_fr_rf (md : ab_Md) (M : cm_M) : ab_fr md M M := fun c i _ => ⟨rfl, rfl, rfl⟩
noncomputable def ab_ce (ρ : List Int32) (M : cm_M) (q : Nat × Nat × ab_A) : Prop := if ab_isI q.2.2 = true then ab_i ρ q.2.2 = some (M.1 q.1 q.2.1) else ab_v ρ q.2.2 (cm_rq (M.2.2 q.1 q.2.1))
noncomputable def ab_ca (ρ : List Int32) (M : cm_M) (Ca : ab_Ca) : Prop := ∀ q ∈ Ca, ab_ce ρ M q
theorem ab_ce_ap {ρ ext : List Int32} {M : cm_M} {q : Nat × Nat × ab_A} (h : ab_ce ρ M q) : ab_ce (ρ ++ ext) M q := by
  unfold ab_ce at h ⊢
  split
  · rename_i hi
    rw [if_pos hi] at h
    exact ab_i_ap h
  · rename_i hi
    rw [if_neg hi] at h
    exact ab_v_ap h
theorem ab_ca_ap {ρ ext : List Int32} {M : cm_M} {Ca : ab_Ca} (h : ab_ca ρ M Ca) : ab_ca (ρ ++ ext) M Ca := fun q hq => ab_ce_ap (h q hq)
/-- an entry at a place that wasn't written -/
theorem ab_ce_ne {ρ : List Int32} {M M' : cm_M} {q : Nat × Nat × ab_A} (h1 : M'.1 q.1 q.2.1 = M.1 q.1 q.2.1) (h2 : M'.2.2 q.1 q.2.1 = M.2.2 q.1 q.2.1) (h : ab_ce ρ M q) : ab_ce ρ M' q := by
  unfold ab_ce at h ⊢
  rw [h1, h2]
  exact h
noncomputable def ab_m (h : ab_H) (N : cm_M → Prop) (M0 : cm_M) (md : ab_Md) (ρ : List Int32) (Ca : ab_Ca) (M : cm_M) : Prop := ab_ok h N M ∧ ab_fr md M0 M ∧ ab_ca ρ M Ca
/-- which places of an array: one of these, or any -/
noncomputable abbrev ab_Ix : Type := Option (List Nat)
noncomputable def ab_ixin (ix : ab_Ix) (i : Nat) : Prop := match ix with
  | some l => i ∈ l
  | none => True
noncomputable def ab_ixc (ix : ab_Ix) (i : Nat) : Bool := match ix with
  | some l => l.contains i
  | none => true
theorem ab_ixc_ok {ix : ab_Ix} {i : Nat} (h : ab_ixin ix i) : ab_ixc ix i = true := by
  unfold ab_ixin at h
  unfold ab_ixc
  cases ix with
  | none => rfl
  | some l => exact List.contains_iff_mem.mpr h
noncomputable def ab_mdok (md : ab_Md) (c : Nat) (ix : ab_Ix) : Bool := match ix with
  | some l => l.all (fun i => ab_inM md c i)
  | none => ab_allM md c
theorem ab_mdok_in {md : ab_Md} {c : Nat} {ix : ab_Ix} {i : Nat} (h : ab_mdok md c ix = true) (hi : ab_ixin ix i) : ab_inM md c i = true := by
  unfold ab_mdok at h
  unfold ab_ixin at hi
  cases ix with
  | none => exact ab_allM_in h i
  | some l => exact List.all_eq_true.mp h i hi
noncomputable def ab_drop (Ca : ab_Ca) (cs : List Nat) (ix : ab_Ix) : ab_Ca := Ca.filter (fun q => !(cs.contains q.1 && ab_ixc ix q.2.1))
theorem ab_drop_in {Ca : ab_Ca} {cs : List Nat} {ix : ab_Ix} {q : Nat × Nat × ab_A} (h : q ∈ ab_drop Ca cs ix) {c i : Nat} (hc : c ∈ cs) (hi : ab_ixin ix i) : q ∈ Ca ∧ ¬ (q.1 = c ∧ q.2.1 = i) := by
  obtain ⟨h1, h2⟩ := List.mem_filter.mp h
  refine ⟨h1, fun e => ?_⟩
  obtain ⟨e1, e2⟩ := e
  rw [e1, e2, List.contains_iff_mem.mpr hc, ab_ixc_ok hi] at h2
  simp at h2
/-- a cache behind a store of a -/
noncomputable def ab_keep (Ca : ab_Ca) (cs : List Nat) (ix : ab_Ix) (a : ab_A) : ab_Ca := match cs, ix with
  | [c], some [i] => (c, i, a) :: ab_drop Ca cs ix
  | _, _ => ab_drop Ca cs ix
theorem ab_keep_in {Ca : ab_Ca} {cs : List Nat} {ix : ab_Ix} {a : ab_A} {q : Nat × Nat × ab_A} (h : q ∈ ab_keep Ca cs ix a) {c i : Nat} (hc : c ∈ cs) (hi : ab_ixin ix i) : (q = (c, i, a)) ∨ (q ∈ Ca ∧ ¬ (q.1 = c ∧ q.2.1 = i)) := by
  unfold ab_keep at h
  split at h
  · rename_i c' i'
    have e1 : c = c' := List.mem_singleton.mp hc
    have e2 : i = i' := List.mem_singleton.mp hi
    subst e1
    subst e2
    rcases List.mem_cons.mp h with h | h
    · exact Or.inl h
    · exact Or.inr (ab_drop_in h hc hi)
  · exact Or.inr (ab_drop_in h hc hi)
/-- none of these places is protected -/
noncomputable def ab_pr (h : ab_H) (c : Nat) (ix : ab_Ix) : Bool := h.2.2.1.all (fun q => cond (Nat.beq q.1 c) (!(ab_ixc ix q.2)) true)
theorem ab_pr_ok {h : ab_H} {c : Nat} {ix : ab_Ix} {i : Nat} (hp : ab_pr h c ix = true) (hi : ab_ixin ix i) {q : Nat × Nat} (hq : q ∈ h.2.2.1) : ¬ (q.1 = c ∧ q.2 = i) := by
  intro e
  have h1 := List.all_eq_true.mp hp q hq
  rw [e.1, e.2, ab_ixc_ok hi, Nat.beq_refl] at h1
  exact absurd h1 (by decide)
/-- may an int be stored there -/
noncomputable def ab_stI (h : ab_H) (md : ab_Md) (b : Int × Int) (cs : List Nat) (ix : ab_Ix) : Bool :=
  cs.all (fun c => ab_pr h c ix && (ab_mdok md c ix && (ab_hl h c).all (fun e => !(ab_ixc ix e.1) || (decide (e.2.1 ≤ b.1) && decide (b.2 ≤ e.2.2)))))
theorem ab_hi_in {h : ab_H} {b : Int × Int} {c : Nat} {ix : ab_Ix} {i : Nat} {x : Int32} (ha : (ab_hl h c).all (fun e => !(ab_ixc ix e.1) || (decide (e.2.1 ≤ b.1) && decide (b.2 ≤ e.2.2))) = true) (hi : ab_ixin ix i) (hx : ev_inb b x) : ev_inb (ab_hi h c i) x := by
  unfold ab_hi
  split
  · rename_i e he
    have := List.all_eq_true.mp ha _ (ev_at_mem he)
    simp only [ab_ixc_ok hi, Bool.not_true, Bool.false_or, Bool.and_eq_true, decide_eq_true_eq] at this
    exact ⟨Int.le_trans this.1 hx.1, Int.le_trans hx.2 this.2⟩
  · exact ev_ful_in x
section ABM
variable {h : ab_H} {N : cm_M → Prop} {M0 : cm_M} {md : ab_Md} {ρ : List Int32} {Ca : ab_Ca} {M : cm_M}
theorem ab_m_ap {ext : List Int32} (hm : ab_m h N M0 md ρ Ca M) : ab_m h N M0 md (ρ ++ ext) Ca M := ⟨hm.1, hm.2.1, ab_ca_ap hm.2.2⟩
theorem ab_stI_ok (hN : ab_NP h N) (hm : ab_m h N M0 md ρ Ca M) {b : Int × Int} {cs : List Nat} {ix : ab_Ix} {a : ab_A} {x : Int32} {c i : Nat} (hs : ab_stI h md b cs ix = true) (hc : c ∈ cs) (hi : ab_ixin ix i) (ha : ab_i ρ a = some x) (hb : ev_inb b x) : ab_m h N M0 md ρ (ab_keep Ca cs ix a) (cm_wi M c i x) := by
  have h1 := List.all_eq_true.mp hs c hc
  simp only [Bool.and_eq_true] at h1
  obtain ⟨p1, p2, p3⟩ := h1
  obtain ⟨⟨o1, o2, o3⟩, fr, ca⟩ := hm
  refine ⟨⟨fun c' i' => ?_, o2, hN.1 M _ (fun q hq => ⟨?_, rfl, rfl⟩) o3⟩, fun c' i' hm' => ?_, fun q hq => ?_⟩
  · show ev_inb _ (if c' = c ∧ i' = i then x else M.1 c' i')
    split
    · rename_i e
      rw [e.1, e.2]
      exact ab_hi_in p3 hi hb
    · exact o1 c' i'
  · show (if q.1 = c ∧ q.2 = i then x else M.1 q.1 q.2) = M.1 q.1 q.2
    rw [if_neg (ab_pr_ok p1 hi hq)]
  · have hne : ¬ (c' = c ∧ i' = i) := by
      intro e
      rw [e.1, e.2, ab_mdok_in p2 hi] at hm'
      cases hm'
    obtain ⟨f1, f2, f3⟩ := fr c' i' hm'
    exact ⟨by show (if c' = c ∧ i' = i then x else M.1 c' i') = _; rw [if_neg hne]; exact f1, f2, f3⟩
  · rcases ab_keep_in hq hc hi with rfl | ⟨q1, q2⟩
    · unfold ab_ce
      rw [if_pos (ab_ivI ha)]
      show _ = some (if c = c ∧ i = i then x else M.1 c i)
      rw [if_pos ⟨rfl, rfl⟩]
      exact ha
    · exact ab_ce_ne (M := M) (by show (if q.1 = c ∧ q.2.1 = i then x else M.1 q.1 q.2.1) = _; rw [if_neg q2]) rfl (ca q q1)
/-- a long -/
noncomputable def ab_stL (h : ab_H) (md : ab_Md) (cs : List Nat) (ix : ab_Ix) : Bool := cs.all (fun c => ab_pr h c ix && ab_mdok md c ix)
theorem ab_stL_ok (hN : ab_NP h N) (hm : ab_m h N M0 md ρ Ca M) {cs : List Nat} {ix : ab_Ix} {x : Int64} {c i : Nat} (hs : ab_stL h md cs ix = true) (hc : c ∈ cs) (hi : ab_ixin ix i) : ab_m h N M0 md ρ Ca (cm_wl M c i x) := by
  have h1 := List.all_eq_true.mp hs c hc
  simp only [Bool.and_eq_true] at h1
  obtain ⟨p1, p2⟩ := h1
  obtain ⟨⟨o1, o2, o3⟩, fr, ca⟩ := hm
  refine ⟨⟨o1, o2, hN.1 M _ (fun q hq => ⟨rfl, ?_, rfl⟩) o3⟩, fun c' i' hm' => ?_, fun q hq => ab_ce_ne rfl rfl (ca q hq)⟩
  · show (if q.1 = c ∧ q.2 = i then x else M.2.1 q.1 q.2) = M.2.1 q.1 q.2
    rw [if_neg (ab_pr_ok p1 hi hq)]
  · have hne : ¬ (c' = c ∧ i' = i) := by
      intro e
      rw [e.1, e.2, ab_mdok_in p2 hi] at hm'
      cases hm'
    obtain ⟨f1, f2, f3⟩ := fr c' i' hm'
    exact ⟨f1, by show (if c' = c ∧ i' = i then x else M.2.1 c' i') = _; rw [if_neg hne]; exact f2, f3⟩
/-- a reference -/
noncomputable def ab_rfit (q : Option (Bool × List Nat)) (a : ab_A) : Bool := match q with
  | none => true
  | some q => (match a.1 with
    | 1 => a.2.2.all (fun c => q.2.contains c)
    | 2 => q.1
    | 7 => q.1 && a.2.2.all (fun c => q.2.contains c)
    | _ => false)
theorem ab_rfit_ok {q : Option (Bool × List Nat)} {a : ab_A} {r : Option Nat} (h1 : ab_rfit q a = true) (hv : ab_v ρ a (cm_rq r)) : ab_rok q r := by
  unfold ab_rfit at h1
  cases q with
  | none => exact trivial
  | some q =>
    dsimp only at h1
    unfold ab_v at hv
    split at h1
    · rename_i e
      rw [e] at hv
      obtain ⟨c, hc, e2⟩ := hv
      cases r with
      | none => cases e2
      | some r =>
        cases e2
        exact List.contains_iff_mem.mp (List.all_eq_true.mp h1 _ hc)
    · rename_i e
      rw [e] at hv
      cases r with
      | none => exact h1
      | some r => cases hv
    · rename_i e
      rw [e] at hv
      simp only [Bool.and_eq_true] at h1
      cases r with
      | none => exact h1.1
      | some r =>
        rcases hv with hv | ⟨c, hc, e2⟩
        · cases hv
        · cases e2
          exact List.contains_iff_mem.mp (List.all_eq_true.mp h1.2 _ hc)
    · cases h1
noncomputable def ab_stR (h : ab_H) (md : ab_Md) (a : ab_A) (cs : List Nat) (i : Nat) : Bool := cs.all (fun c => ab_pr h c (some [i]) && (ab_inM md c i && ab_rfit (ab_hr h c i) a))
theorem ab_stR_ok (hN : ab_NP h N) (hm : ab_m h N M0 md ρ Ca M) {cs : List Nat} {a : ab_A} {r : Option Nat} {c i : Nat} (hs : ab_stR h md a cs i = true) (hc : c ∈ cs) (hR : ab_isI a = false) (ha : ab_v ρ a (cm_rq r)) : ab_m h N M0 md ρ (ab_keep Ca cs (some [i]) a) (cm_wr M c i r) := by
  have h1 := List.all_eq_true.mp hs c hc
  simp only [Bool.and_eq_true] at h1
  obtain ⟨p1, p2, p3⟩ := h1
  obtain ⟨⟨o1, o2, o3⟩, fr, ca⟩ := hm
  refine ⟨⟨o1, fun c' i' => ?_, hN.1 M _ (fun q hq => ⟨rfl, rfl, ?_⟩) o3⟩, fun c' i' hm' => ?_, fun q hq => ?_⟩
  · show ab_rok _ (if c' = c ∧ i' = i then r else M.2.2 c' i')
    split
    · rename_i e
      rw [e.1, e.2]
      exact ab_rfit_ok p3 ha
    · exact o2 c' i'
  · show (if q.1 = c ∧ q.2 = i then r else M.2.2 q.1 q.2) = M.2.2 q.1 q.2
    rw [if_neg (ab_pr_ok p1 (show ab_ixin (some [i]) i from List.mem_singleton.mpr rfl) hq)]
  · have hne : ¬ (c' = c ∧ i' = i) := by
      intro e
      rw [e.1, e.2, p2] at hm'
      cases hm'
    obtain ⟨f1, f2, f3⟩ := fr c' i' hm'
    exact ⟨f1, f2, by show (if c' = c ∧ i' = i then r else M.2.2 c' i') = _; rw [if_neg hne]; exact f3⟩
  · rcases ab_keep_in hq hc (show ab_ixin (some [i]) i from List.mem_singleton.mpr rfl) with rfl | ⟨q1, q2⟩
    · unfold ab_ce
      rw [if_neg (by dsimp only; rw [hR]; decide)]
      show ab_v ρ a (cm_rq (if c = c ∧ i = i then r else M.2.2 c i))
      rw [if_pos ⟨rfl, rfl⟩]
      exact ha
    · exact ab_ce_ne (M := M) rfl (by show (if q.1 = c ∧ q.2.1 = i then r else M.2.2 q.1 q.2.1) = _; rw [if_neg q2]) (ca q q1)
/-- a row of ints copied: into arrays of which nothing is kept -/
noncomputable def ab_stC (h : ab_H) (md : ab_Md) (ds : List Nat) : Bool := ds.all (fun d => ab_pr h d none && (ab_allM md d && (ab_hl h d).isEmpty))
theorem ab_stC_ok (hN : ab_NP h N) (hm : ab_m h N M0 md ρ Ca M) {ds : List Nat} {c sp d dp n : Nat} (hs : ab_stC h md ds = true) (hd : d ∈ ds) : ab_m h N M0 md ρ (ab_drop Ca ds none) (cm_cp M c sp d dp n) := by
  have h1 := List.all_eq_true.mp hs d hd
  simp only [Bool.and_eq_true, List.isEmpty_iff] at h1
  obtain ⟨p1, p2, p3⟩ := h1
  obtain ⟨⟨o1, o2, o3⟩, fr, ca⟩ := hm
  refine ⟨⟨fun c' i' => ?_, o2, hN.1 M _ (fun q hq => ⟨?_, rfl, rfl⟩) o3⟩, fun c' i' hm' => ?_, fun q hq => ?_⟩
  · by_cases e : c' = d
    · subst e
      have : ab_hi h c' i' = ev_ful := by unfold ab_hi; rw [p3]; rfl
      rw [this]
      exact ev_ful_in _
    · show ev_inb _ (if c' = d ∧ dp ≤ i' ∧ i' < dp + n then M.1 c (sp + (i' - dp)) else M.1 c' i')
      rw [if_neg (fun z => e z.1)]
      exact o1 c' i'
  · show (if q.1 = d ∧ dp ≤ q.2 ∧ q.2 < dp + n then M.1 c (sp + (q.2 - dp)) else M.1 q.1 q.2) = M.1 q.1 q.2
    rw [if_neg (fun z => ab_pr_ok (i := q.2) p1 trivial hq ⟨z.1, rfl⟩)]
  · have hne : ¬ c' = d := by
      intro e
      rw [e, ab_allM_in p2] at hm'
      cases hm'
    obtain ⟨f1, f2, f3⟩ := fr c' i' hm'
    exact ⟨by show (if c' = d ∧ dp ≤ i' ∧ i' < dp + n then M.1 c (sp + (i' - dp)) else M.1 c' i') = _; rw [if_neg (fun z => hne z.1)]; exact f1, f2, f3⟩
  · obtain ⟨h1, h2⟩ := List.mem_filter.mp hq
    have hne : ¬ q.1 = d := by
      intro e
      rw [e, List.contains_iff_mem.mpr hd] at h2
      simp [ab_ixc] at h2
    exact ab_ce_ne (M := M) (by show (if q.1 = d ∧ dp ≤ q.2.1 ∧ q.2.1 < dp + n then M.1 c (sp + (q.2.1 - dp)) else M.1 q.1 q.2.1) = _; rw [if_neg (fun z => hne z.1)]) rfl (ca q h1)
end ABM
noncomputable def ab_cf (Ca : ab_Ca) (c i : Nat) : Option ab_A := List.rec (motive := fun _ => Option ab_A) none (fun q _ r => cond (Nat.beq q.1 c) (cond (Nat.beq q.2.1 i) (some q.2.2) r) r) Ca
theorem ab_cf_mem : ∀ {Ca : ab_Ca} {c i : Nat} {a : ab_A}, ab_cf Ca c i = some a → (c, i, a) ∈ Ca
  | [], c, i, a, h => by
    have h : (none : Option ab_A) = some a := h
    cases h
  | q :: r, c, i, a, h => by
    have h : cond (Nat.beq q.1 c) (cond (Nat.beq q.2.1 i) (some q.2.2) (ab_cf r c i)) (ab_cf r c i) = some a := h
    cases h1 : Nat.beq q.1 c with
    | true =>
      rw [h1] at h
      cases h2 : Nat.beq q.2.1 i with
      | true =>
        rw [h2] at h
        have h : some q.2.2 = some a := h
        cases h
        rw [← Nat.eq_of_beq_eq_true h1, ← Nat.eq_of_beq_eq_true h2]
        exact List.mem_cons_self
      | false =>
        rw [h2] at h
        exact List.mem_cons_of_mem _ (ab_cf_mem (show ab_cf r c i = some a from h))
    | false =>
      rw [h1] at h
      exact List.mem_cons_of_mem _ (ab_cf_mem (show ab_cf r c i = some a from h))
noncomputable def ab_hull (h : ab_H) (cs l : List Nat) : Int × Int := cs.foldl (fun b c => l.foldl (fun b i => (min b.1 (ab_hi h c i).1, max b.2 (ab_hi h c i).2)) b) (2147483647, -2147483648)
theorem ab_fold_mono {α : Type} (f : α → Int × Int) : ∀ (l : List α) (b : Int × Int), (l.foldl (fun b i => (min b.1 (f i).1, max b.2 (f i).2)) b).1 ≤ b.1 ∧ b.2 ≤ (l.foldl (fun b i => (min b.1 (f i).1, max b.2 (f i).2)) b).2
  | [], b => ⟨Int.le_refl _, Int.le_refl _⟩
  | a :: l, b => by
    have := ab_fold_mono f l (min b.1 (f a).1, max b.2 (f a).2)
    rw [List.foldl_cons]
    exact ⟨by have := this.1; dsimp only at this; omega, by have := this.2; dsimp only at this; omega⟩
theorem ab_fold_in {α : Type} (f : α → Int × Int) : ∀ (l : List α) (b : Int × Int) {a : α}, a ∈ l → (l.foldl (fun b i => (min b.1 (f i).1, max b.2 (f i).2)) b).1 ≤ (f a).1 ∧ (f a).2 ≤ (l.foldl (fun b i => (min b.1 (f i).1, max b.2 (f i).2)) b).2
  | [], b, a, h => by cases h
  | x :: l, b, a, h => by
    rw [List.foldl_cons]
    rcases List.mem_cons.mp h with rfl | h
    · have := ab_fold_mono f l (min b.1 (f a).1, max b.2 (f a).2)
      exact ⟨by have := this.1; dsimp only at this; omega, by have := this.2; dsimp only at this; omega⟩
    · exact ab_fold_in f l _ h
theorem ab_hull_mono {h : ab_H} {l : List Nat} : ∀ (cs : List Nat) (b : Int × Int), (cs.foldl (fun b c => l.foldl (fun b i => (min b.1 (ab_hi h c i).1, max b.2 (ab_hi h c i).2)) b) b).1 ≤ b.1 ∧ b.2 ≤ (cs.foldl (fun b c => l.foldl (fun b i => (min b.1 (ab_hi h c i).1, max b.2 (ab_hi h c i).2)) b) b).2
  | [], b => ⟨Int.le_refl _, Int.le_refl _⟩
  | c :: cs, b => by
    rw [List.foldl_cons]
    have h1 := ab_fold_mono (fun i => ab_hi h c i) l b
    have h2 := ab_hull_mono (h := h) (l := l) cs (l.foldl (fun b i => (min b.1 (ab_hi h c i).1, max b.2 (ab_hi h c i).2)) b)
    exact ⟨Int.le_trans h2.1 h1.1, Int.le_trans h1.2 h2.2⟩
theorem ab_hull_in {h : ab_H} {l : List Nat} {i : Nat} (hi : i ∈ l) : ∀ (cs : List Nat) (b : Int × Int) {c : Nat}, c ∈ cs → (cs.foldl (fun b c => l.foldl (fun b i => (min b.1 (ab_hi h c i).1, max b.2 (ab_hi h c i).2)) b) b).1 ≤ (ab_hi h c i).1 ∧ (ab_hi h c i).2 ≤ (cs.foldl (fun b c => l.foldl (fun b i => (min b.1 (ab_hi h c i).1, max b.2 (ab_hi h c i).2)) b) b).2
  | [], b, c, hc => by cases hc
  | x :: cs, b, c, hc => by
    rw [List.foldl_cons]
    rcases List.mem_cons.mp hc with rfl | hc
    · have h1 := ab_fold_in (fun i => ab_hi h c i) l b hi
      have h2 := ab_hull_mono (h := h) (l := l) cs (l.foldl (fun b i => (min b.1 (ab_hi h c i).1, max b.2 (ab_hi h c i).2)) b)
      exact ⟨Int.le_trans h2.1 h1.1, Int.le_trans h1.2 h2.2⟩
    · exact ab_hull_in hi cs _ hc
/-- the bounds of a place, by what is known of another one -/
noncomputable def ab_cd (K : ab_K) (Ca : ab_Ca) (e : Nat × Nat × Nat × Nat × Int × Int × Int) : Bool := match ab_cf Ca e.2.2.1 e.2.2.2.1 with
  | some a => ab_isI a && (decide ((ab_bd K a).1 = e.2.2.2.2.1) && decide ((ab_bd K a).2 = e.2.2.2.2.1))
  | none => false
noncomputable def ab_hc (h : ab_H) (K : ab_K) (Ca : ab_Ca) (c i : Nat) : List (Nat × Nat × Nat × Nat × Int × Int × Int) → Int × Int
  | [] => ab_hi h c i
  | e :: r => cond (Nat.beq e.1 c) (if e.2.1 = i ∧ ab_cd K Ca e = true then e.2.2.2.2.2 else ab_hc h K Ca c i r) (ab_hc h K Ca c i r)
theorem ab_hc_in {h : ab_H} {N : cm_M → Prop} {M0 : cm_M} {md : ab_Md} {ρ : List Int32} {Ca : ab_Ca} {M : cm_M} {K : ab_K} {c i : Nat} (hN : ab_NP h N) (hk : ab_k ρ K) (hm : ab_m h N M0 md ρ Ca M) : ∀ (l : List (Nat × Nat × Nat × Nat × Int × Int × Int)), (∀ e ∈ l, e ∈ h.2.2.2) → ev_inb (ab_hc h K Ca c i l) (M.1 c i)
  | [], _ => hm.1.1 c i
  | e :: r, hl => by
    show ev_inb (cond (Nat.beq e.1 c) (if e.2.1 = i ∧ ab_cd K Ca e = true then e.2.2.2.2.2 else ab_hc h K Ca c i r) (ab_hc h K Ca c i r)) (M.1 c i)
    cases hb : Nat.beq e.1 c with
    | false => exact ab_hc_in hN hk hm r (fun x hx => hl x (List.mem_cons_of_mem _ hx))
    | true =>
      have q1 := Nat.eq_of_beq_eq_true hb
      show ev_inb (if e.2.1 = i ∧ ab_cd K Ca e = true then e.2.2.2.2.2 else ab_hc h K Ca c i r) (M.1 c i)
      split
      · rename_i hq
        obtain ⟨q2, q3⟩ := hq
        unfold ab_cd at q3
        split at q3
        · rename_i a ha
          simp only [Bool.and_eq_true, decide_eq_true_eq] at q3
          have h1 := hm.2.2 _ (ab_cf_mem ha)
          unfold ab_ce at h1
          rw [if_pos q3.1] at h1
          obtain ⟨b1, b2⟩ := ab_bd_in hk h1
          dsimp only at b1 b2
          have h2 : M.1 e.2.2.1 e.2.2.2.1 = Int32.ofInt e.2.2.2.2.1 := by
            rw [← Int32.ofInt_toInt (M.1 e.2.2.1 e.2.2.2.1)]
            congr 1
            omega
          have h3 := hN.2 M hm.1.2.2 e (hl e List.mem_cons_self) h2
          rw [q1, q2] at h3
          exact h3
        · cases q3
      · exact ab_hc_in hN hk hm r (fun x hx => hl x (List.mem_cons_of_mem _ hx))
/-- an int is read -/
noncomputable def ab_ldI (h : ab_H) (K : ab_K) (Ca : ab_Ca) (cs : List Nat) (ix : ab_Ix) : ab_A × ab_K × ab_Ca := match cs, ix with
  | [c], some [i] => (match ab_cf Ca c i with
    | some a => if ab_isI a = true then (a, K, Ca) else ((ab_any K (ab_hi h c i)).1, (ab_any K (ab_hi h c i)).2, Ca)
    | none => ((ab_any K (ab_hc h K Ca c i h.2.2.2)).1, (ab_any K (ab_hc h K Ca c i h.2.2.2)).2, (c, i, (ab_any K (ab_hc h K Ca c i h.2.2.2)).1) :: Ca))
  | cs, some l => ((ab_any K (ab_hull h cs l)).1, (ab_any K (ab_hull h cs l)).2, Ca)
  | _, none => ((ab_any K ev_ful).1, (ab_any K ev_ful).2, Ca)
theorem ab_ldI_ok {h : ab_H} {N : cm_M → Prop} {M0 : cm_M} {md : ab_Md} {ρ : List Int32} {Ca Ca' : ab_Ca} {M : cm_M} {K K' : ab_K} {cs : List Nat} {ix : ab_Ix} {a : ab_A} {c i : Nat} (hN : ab_NP h N) (hk : ab_k ρ K) (hm : ab_m h N M0 md ρ Ca M) (hl : ab_ldI h K Ca cs ix = (a, K', Ca')) (hc : c ∈ cs) (hi : ab_ixin ix i) : ∃ ext, ab_k (ρ ++ ext) K' ∧ ab_i (ρ ++ ext) a = some (M.1 c i) ∧ ab_m h N M0 md (ρ ++ ext) Ca' M := by
  unfold ab_ldI at hl
  split at hl
  · rename_i c' i'
    have e1 : c = c' := List.mem_singleton.mp hc
    have e2 : i = i' := List.mem_singleton.mp hi
    subst e1
    subst e2
    split at hl
    · rename_i q hq
      split at hl
      · rename_i hI
        cases hl
        have := hm.2.2 _ (ab_cf_mem hq)
        unfold ab_ce at this
        rw [if_pos hI] at this
        exact ⟨[], by simpa using hk, by simpa using this, by simpa using hm⟩
      · cases hl
        obtain ⟨ext, k1, k2⟩ := ab_any_ok hk (hm.1.1 c i) (rfl : ab_any K (ab_hi h c i) = (_, _))
        exact ⟨ext, k1, k2, ab_m_ap hm⟩
    · cases hl
      obtain ⟨ext, k1, k2⟩ := ab_any_ok hk (ab_hc_in hN hk hm h.2.2.2 (fun _ z => z)) (rfl : ab_any K (ab_hc h K Ca c i h.2.2.2) = (_, _))
      refine ⟨ext, k1, k2, hm.1, hm.2.1, fun q hq => ?_⟩
      rcases List.mem_cons.mp hq with rfl | hq
      · unfold ab_ce
        rw [if_pos (show ab_isI (ab_any K (ab_hc h K Ca c i h.2.2.2)).1 = true from ab_ivI k2)]
        exact k2
      · exact ab_ce_ap (hm.2.2 q hq)
  · rename_i l hne
    cases hl
    have hb : ev_inb (ab_hull h cs l) (M.1 c i) := by
      have h1 := ab_hull_in (h := h) (l := l) hi cs (2147483647, -2147483648) hc
      have h2 := hm.1.1 c i
      exact ⟨Int.le_trans h1.1 h2.1, Int.le_trans h2.2 h1.2⟩
    obtain ⟨ext, k1, k2⟩ := ab_any_ok hk hb (rfl : ab_any K (ab_hull h cs l) = (_, _))
    exact ⟨ext, k1, k2, ab_m_ap hm⟩
  · cases hl
    obtain ⟨ext, k1, k2⟩ := ab_any_ok hk (ev_ful_in (M.1 c i)) (rfl : ab_any K ev_ful = (_, _))
    exact ⟨ext, k1, k2, ab_m_ap hm⟩
/-- a reference is read: which cells -/
noncomputable def ab_un (h : ab_H) : List (Nat × Nat) → Option (Bool × List Nat)
  | [] => some (false, [])
  | q :: r => match ab_hr h q.1 q.2, ab_un h r with
    | some (n, cs), some (n', cs') => some (n || n', cs ++ cs')
    | _, _ => none
theorem ab_un_ok {h : ab_H} : ∀ {l : List (Nat × Nat)} {n : Bool} {cs : List Nat}, ab_un h l = some (n, cs) → ∀ q ∈ l, ∀ r, ab_rok (ab_hr h q.1 q.2) r → ab_rok (some (n, cs)) r
  | [], n, cs, e => fun q hq => nomatch hq
  | p :: l, n, cs, e => by
    unfold ab_un at e
    split at e
    · rename_i n1 c1 n2 c2 e1 e2
      cases e
      intro q hq r hr
      rcases List.mem_cons.mp hq with rfl | hq
      · rw [e1] at hr
        cases r with
        | none => have hr : n1 = true := hr; show (n1 || n2) = true; rw [hr]; rfl
        | some x => exact List.mem_append_left _ hr
      · have := ab_un_ok e2 q hq r hr
        cases r with
        | none => have hr : n2 = true := this; show (n1 || n2) = true; rw [hr]; simp
        | some x => exact List.mem_append_right _ this
    · cases e
noncomputable def ab_ldR (h : ab_H) (Ca : ab_Ca) (cs l : List Nat) : Option ab_A := match cs, l with
  | [c], [i] => (match ab_cf Ca c i with
    | some a => if ab_isI a = false then some a else none
    | none => (match ab_hr h c i with
      | some (false, ts) => some (1, 0, ts)
      | some (true, ts) => some (7, 0, ts)
      | none => none))
  | cs, l => (match ab_un h (cs.flatMap (fun c => l.map (fun i => (c, i)))) with
    | some (false, ts) => some (1, 0, ts)
    | some (true, ts) => some (7, 0, ts)
    | none => none)
theorem ab_rokv {ρ : List Int32} {n : Bool} {ts : List Nat} {r : Option Nat} (h : ab_rok (some (n, ts)) r) : ab_v ρ (if n = true then (7, 0, ts) else (1, 0, ts)) (cm_rq r) := by
  cases n with
  | true =>
    rw [if_pos rfl]
    cases r with
    | none => exact Or.inl rfl
    | some x => exact Or.inr ⟨x, h, rfl⟩
  | false =>
    rw [if_neg (by decide)]
    cases r with
    | none => cases h
    | some x => exact ⟨x, h, rfl⟩
theorem ab_ldR_ok {h : ab_H} {N : cm_M → Prop} {M0 : cm_M} {md : ab_Md} {ρ : List Int32} {Ca : ab_Ca} {M : cm_M} {cs l : List Nat} {a : ab_A} {c i : Nat} (hm : ab_m h N M0 md ρ Ca M) (hl : ab_ldR h Ca cs l = some a) (hc : c ∈ cs) (hi : i ∈ l) : ab_v ρ a (cm_rq (M.2.2 c i)) := by
  unfold ab_ldR at hl
  have fin : ∀ {n : Bool} {ts : List Nat}, ab_rok (some (n, ts)) (M.2.2 c i) → (match (some (n, ts) : Option (Bool × List Nat)) with
      | some (false, ts) => some ((1, 0, ts) : ab_A)
      | some (true, ts) => some (7, 0, ts)
      | none => none) = some a → ab_v ρ a (cm_rq (M.2.2 c i)) := by
    intro n ts h1 h2
    have := ab_rokv (ρ := ρ) h1
    cases n with
    | true => cases h2; exact this
    | false => cases h2; exact this
  split at hl
  · rename_i c' i'
    have e1 : c = c' := List.mem_singleton.mp hc
    have e2 : i = i' := List.mem_singleton.mp hi
    subst e1
    subst e2
    split at hl
    · rename_i q hq
      split at hl
      · rename_i hI
        cases hl
        have := hm.2.2 _ (ab_cf_mem hq)
        unfold ab_ce at this
        rw [if_neg (by dsimp only; rw [hI]; decide)] at this
        exact this
      · cases hl
    · have h1 := hm.1.2.1 c i
      cases hz : ab_hr h c i with
      | none => rw [hz] at hl; cases hl
      | some q =>
        rw [hz] at hl h1
        exact fin h1 hl
  · have h1 := hm.1.2.1 c i
    cases hz : ab_un h (cs.flatMap (fun c => l.map (fun i => (c, i)))) with
    | none => rw [hz] at hl; cases hl
    | some q =>
      rw [hz] at hl
      exact fin (ab_un_ok hz (c, i) (List.mem_flatMap.mpr ⟨c, hc, List.mem_map.mpr ⟨i, hi, rfl⟩⟩) _ h1) hl
noncomputable def ab_l (ρ : List Int32) (L : List (Nat × ab_A)) (CL : List (Nat × Value)) : Prop := ∀ q ∈ L, ∃ v, cm_look CL q.1 = some v ∧ ab_v ρ q.2 v
noncomputable def ab_s (ρ : List Int32) : List ab_A → List Value → Prop
  | [], [] => True
  | a :: st, v :: sc => ab_v ρ a v ∧ ab_s ρ st sc
  | _, _ => False
theorem ab_l_ap {ρ ext : List Int32} {L : List (Nat × ab_A)} {CL : List (Nat × Value)} (h : ab_l ρ L CL) : ab_l (ρ ++ ext) L CL := fun q hq => by
  obtain ⟨v, h1, h2⟩ := h q hq
  exact ⟨v, h1, ab_v_ap h2⟩
theorem ab_s_ap {ρ ext : List Int32} : ∀ {st : List ab_A} {sc : List Value}, ab_s ρ st sc → ab_s (ρ ++ ext) st sc
  | [], [], _ => trivial
  | [], _ :: _, h => h.elim
  | _ :: _, [], h => h.elim
  | _ :: _, _ :: _, h => ⟨ab_v_ap h.1, ab_s_ap h.2⟩
theorem ab_s_cons {ρ : List Int32} {a : ab_A} {st : List ab_A} {sc : List Value} (h : ab_s ρ (a :: st) sc) : ∃ v sc', sc = v :: sc' ∧ ab_v ρ a v ∧ ab_s ρ st sc' := by
  cases sc with
  | nil => exact h.elim
  | cons v sc' => exact ⟨v, sc', rfl, h.1, h.2⟩
theorem ab_s_nil {ρ : List Int32} {sc : List Value} (h : ab_s ρ [] sc) : sc = [] := by
  cases sc with
  | nil => rfl
  | cons v sc' => exact h.elim
noncomputable def ab_G (h : ab_H) (N : cm_M → Prop) (M0 : cm_M) (md : ab_Md) (ρ : List Int32) (S : ab_S) (C : cm_S) : Prop := C.1 = S.1 ∧ ab_l ρ S.2.1 C.2.1 ∧ ab_s ρ S.2.2.1 C.2.2.1 ∧ ab_k ρ S.2.2.2.1 ∧ ab_m h N M0 md ρ S.2.2.2.2 C.2.2.2
noncomputable abbrev ab_O : Type := ab_H → ab_Md → ev_P → ev_T → ab_S → Option (List ab_S)
noncomputable def ab_Snd (o : cm_O) (a : ab_O) : Prop := ∀ (h : ab_H) (N : cm_M → Prop) (M0 : cm_M) (md : ab_Md) (E : cm_E) (P : ev_P) (t : ev_T) (S : ab_S) (Ss : List ab_S) (C : cm_S) (ρ : List Int32) (k : cm_S → Prop), ab_NP h N → a h md P t S = some Ss → ab_G h N M0 md ρ S C → (∀ S' ∈ Ss, ∀ (ext : List Int32) (C' : cm_S), ab_G h N M0 md (ρ ++ ext) S' C' → k C') → o.2 E P t C k
/-- nothing new -/
theorem ab_nil {α : Type} (l : List α) : l ++ [] = l := List.append_nil l
noncomputable def ab_adv (S : ab_S) (n : Nat) (st : List ab_A) : ab_S := (S.1 + n, S.2.1, st, S.2.2.2)
noncomputable def ab_advK (S : ab_S) (n : Nat) (st : List ab_A) (K : ab_K) : ab_S := (S.1 + n, S.2.1, st, K, S.2.2.2.2)
noncomputable def ab_no : ab_O := fun _ _ _ _ _ => none
theorem ab_no_ok (o : cm_O) : ab_Snd o ab_no := fun h N M0 md E P t S Ss C ρ k hN h1 => by cases h1
section ABO
variable {h : ab_H} {N : cm_M → Prop} {M0 : cm_M} {md : ab_Md} {ρ : List Int32} {k : cm_S → Prop} {pc : Nat} {L : List (Nat × ab_A)} {st : List ab_A} {K : ab_K} {Ca : ab_Ca} {CL : List (Nat × Value)} {M : cm_M}
/-- a new value on the stack -/
theorem ab_fin {Ss : List ab_S} (hk : ∀ S' ∈ Ss, ∀ (ext : List Int32) (C' : cm_S), ab_G h N M0 md (ρ ++ ext) S' C' → k C') (S1 : ab_S) (hS : S1 ∈ Ss) (C1 : cm_S) (hG : ab_G h N M0 md ρ S1 C1) : k C1 := hk S1 hS [] C1 (by rw [ab_nil]; exact hG)
end ABO
theorem ab_look_fl {f : Nat × Value → Bool} : ∀ {CL : List (Nat × Value)} {j : Nat} {v : Value}, cm_look CL j = some v → f (j, v) = true → cm_look (CL.filter f) j = some v
  | [], j, v, h, _ => by cases h
  | q :: CL, j, v, h, hf => by
    unfold cm_look at h
    rw [List.filter_cons]
    split at h
    · rename_i e
      cases h
      have eq : q = (j, q.2) := Prod.ext e rfl
      rw [← eq] at hf
      rw [if_pos hf]
      unfold cm_look
      rw [if_pos e]
    · rename_i e
      have ih := ab_look_fl h hf
      split
      · unfold cm_look
        rw [if_neg e]
        exact ih
      · exact ih
noncomputable def ab_st1 (L : List (Nat × ab_A)) (i : Nat) (a : ab_A) : List (Nat × ab_A) := (i, a) :: L.filter (fun q => !(q.1 == i) && !(q.1 + 1 == i && q.2.1 == 6))
noncomputable def ab_st2 (L : List (Nat × ab_A)) (i : Nat) (a : ab_A) : List (Nat × ab_A) := (i, a) :: L.filter (fun q => !(q.1 == i) && (!(q.1 == i + 1) && !(q.1 + 1 == i && q.2.1 == 6)))
theorem ab_cat6 {ρ : List Int32} {a : ab_A} {v : Value} (hv : ab_v ρ a v) : (v.category == 2) = (a.1 == 6) := by
  rcases ab_cat hv with ⟨h1, h2⟩ | ⟨h1, h2⟩
  · rw [h1, h2]; rfl
  · rw [h2]
    have : (a.1 == 6) = false := by simpa using h1
    rw [this]
    rfl
theorem ab_st1_ok {ρ : List Int32} {L : List (Nat × ab_A)} {CL : List (Nat × Value)} {i : Nat} {a : ab_A} {v : Value} (h : ab_l ρ L CL) (hv : ab_v ρ a v) : ab_l ρ (ab_st1 L i a) (cm_st1 CL i v) := by
  intro q hq
  rcases List.mem_cons.mp hq with rfl | hq
  · exact ⟨v, by unfold cm_st1 cm_look; rw [if_pos rfl], hv⟩
  · obtain ⟨q1, q2⟩ := List.mem_filter.mp hq
    obtain ⟨x, a1, a2⟩ := h q q1
    refine ⟨x, ?_, a2⟩
    rw [← ab_cat6 a2] at q2
    unfold cm_st1 cm_look
    have hne : ¬ i = q.1 := by
      intro e
      rw [e] at q2
      simp at q2
    rw [if_neg hne]
    exact ab_look_fl a1 q2
theorem ab_st2_ok {ρ : List Int32} {L : List (Nat × ab_A)} {CL : List (Nat × Value)} {i : Nat} {a : ab_A} {v : Value} (h : ab_l ρ L CL) (hv : ab_v ρ a v) : ab_l ρ (ab_st2 L i a) (cm_st2 CL i v) := by
  intro q hq
  rcases List.mem_cons.mp hq with rfl | hq
  · exact ⟨v, by unfold cm_st2 cm_look; rw [if_pos rfl], hv⟩
  · obtain ⟨q1, q2⟩ := List.mem_filter.mp hq
    obtain ⟨x, a1, a2⟩ := h q q1
    refine ⟨x, ?_, a2⟩
    rw [← ab_cat6 a2] at q2
    unfold cm_st2 cm_look
    have hne : ¬ i = q.1 := by
      intro e
      rw [e] at q2
      simp at q2
    rw [if_neg hne]
    exact ab_look_fl a1 q2
noncomputable def ab_iconst : ab_O := fun h md P t S => some [ab_adv S 1 (ab_c (Int32.ofInt t.1).toInt :: S.2.2.1)]
theorem ab_iconst_ok : ab_Snd cm_iconst ab_iconst := by
  intro h N M0 md E P t S Ss C ρ k hN h1 hG hk
  obtain ⟨pc, L, st, K, Ca⟩ := S
  obtain ⟨cpc, CL, sc, M⟩ := C
  obtain ⟨e0, gl, gs, gk, gm⟩ := hG
  dsimp only at e0 gl gs gk gm
  subst e0
  cases h1
  exact ab_fin hk _ (List.mem_singleton.mpr rfl) (cpc + 1, CL, .int (Int32.ofInt t.1) :: sc, M) ⟨rfl, gl, ⟨ab_iv (ab_c_at ρ _), gs⟩, gk, gm⟩

noncomputable def ab_bipush : ab_O := fun h md P t S => some [ab_adv S 2 (ab_c ((Int8.ofInt t.1).toInt32).toInt :: S.2.2.1)]
theorem ab_bipush_ok : ab_Snd cm_bipush ab_bipush := by
  intro h N M0 md E P t S Ss C ρ k hN h1 hG hk
  obtain ⟨pc, L, st, K, Ca⟩ := S
  obtain ⟨cpc, CL, sc, M⟩ := C
  obtain ⟨e0, gl, gs, gk, gm⟩ := hG
  dsimp only at e0 gl gs gk gm
  subst e0
  cases h1
  exact ab_fin hk _ (List.mem_singleton.mpr rfl) (cpc + 2, CL, .int ((Int8.ofInt t.1).toInt32) :: sc, M) ⟨rfl, gl, ⟨ab_iv (ab_c_at ρ _), gs⟩, gk, gm⟩

noncomputable def ab_sipush : ab_O := fun h md P t S => some [ab_adv S 3 (ab_c ((Int16.ofInt t.1).toInt32).toInt :: S.2.2.1)]
theorem ab_sipush_ok : ab_Snd cm_sipush ab_sipush := by
  intro h N M0 md E P t S Ss C ρ k hN h1 hG hk
  obtain ⟨pc, L, st, K, Ca⟩ := S
  obtain ⟨cpc, CL, sc, M⟩ := C
  obtain ⟨e0, gl, gs, gk, gm⟩ := hG
  dsimp only at e0 gl gs gk gm
  subst e0
  cases h1
  exact ab_fin hk _ (List.mem_singleton.mpr rfl) (cpc + 3, CL, .int ((Int16.ofInt t.1).toInt32) :: sc, M) ⟨rfl, gl, ⟨ab_iv (ab_c_at ρ _), gs⟩, gk, gm⟩

noncomputable def ab_ldc : ab_O := fun h md P t S => some [ab_adv S 2 (ab_c (Int32.ofInt t.1).toInt :: S.2.2.1)]
theorem ab_ldc_ok : ab_Snd cm_ldc ab_ldc := by
  intro h N M0 md E P t S Ss C ρ k hN h1 hG hk
  obtain ⟨pc, L, st, K, Ca⟩ := S
  obtain ⟨cpc, CL, sc, M⟩ := C
  obtain ⟨e0, gl, gs, gk, gm⟩ := hG
  dsimp only at e0 gl gs gk gm
  subst e0
  cases h1
  exact ab_fin hk _ (List.mem_singleton.mpr rfl) (cpc + 2, CL, .int (Int32.ofInt t.1) :: sc, M) ⟨rfl, gl, ⟨ab_iv (ab_c_at ρ _), gs⟩, gk, gm⟩

noncomputable def ab_ldcw : ab_O := fun h md P t S => some [ab_adv S 3 (ab_c (Int32.ofInt t.1).toInt :: S.2.2.1)]
theorem ab_ldcw_ok : ab_Snd cm_ldcw ab_ldcw := by
  intro h N M0 md E P t S Ss C ρ k hN h1 hG hk
  obtain ⟨pc, L, st, K, Ca⟩ := S
  obtain ⟨cpc, CL, sc, M⟩ := C
  obtain ⟨e0, gl, gs, gk, gm⟩ := hG
  dsimp only at e0 gl gs gk gm
  subst e0
  cases h1
  exact ab_fin hk _ (List.mem_singleton.mpr rfl) (cpc + 3, CL, .int (Int32.ofInt t.1) :: sc, M) ⟨rfl, gl, ⟨ab_iv (ab_c_at ρ _), gs⟩, gk, gm⟩

noncomputable def ab_lconst : ab_O := fun h md P t S => some [ab_adv S 1 ((6, 0, []) :: S.2.2.1)]
theorem ab_lconst_ok : ab_Snd cm_lconst ab_lconst := by
  intro h N M0 md E P t S Ss C ρ k hN h1 hG hk
  obtain ⟨pc, L, st, K, Ca⟩ := S
  obtain ⟨cpc, CL, sc, M⟩ := C
  obtain ⟨e0, gl, gs, gk, gm⟩ := hG
  dsimp only at e0 gl gs gk gm
  subst e0
  cases h1
  exact ab_fin hk _ (List.mem_singleton.mpr rfl) (cpc + 1, CL, .long (Int64.ofNat t.1.toNat) :: sc, M) ⟨rfl, gl, ⟨⟨_, rfl⟩, gs⟩, gk, gm⟩

noncomputable def ab_ldc2 : ab_O := fun h md P t S => some [ab_adv S 3 ((6, 0, []) :: S.2.2.1)]
theorem ab_ldc2_ok : ab_Snd cm_ldc2 ab_ldc2 := by
  intro h N M0 md E P t S Ss C ρ k hN h1 hG hk
  obtain ⟨pc, L, st, K, Ca⟩ := S
  obtain ⟨cpc, CL, sc, M⟩ := C
  obtain ⟨e0, gl, gs, gk, gm⟩ := hG
  dsimp only at e0 gl gs gk gm
  subst e0
  cases h1
  exact ab_fin hk _ (List.mem_singleton.mpr rfl) (cpc + 3, CL, .long (Int64.ofInt t.1) :: sc, M) ⟨rfl, gl, ⟨⟨_, rfl⟩, gs⟩, gk, gm⟩

noncomputable def ab_ldcS : ab_O := fun h md P t S => some [ab_adv S 2 ((1, 0, [1001 + 2 * t.1.toNat]) :: S.2.2.1)]
theorem ab_ldcS_ok : ab_Snd cm_ldcS ab_ldcS := by
  intro h N M0 md E P t S Ss C ρ k hN h1 hG hk
  obtain ⟨pc, L, st, K, Ca⟩ := S
  obtain ⟨cpc, CL, sc, M⟩ := C
  obtain ⟨e0, gl, gs, gk, gm⟩ := hG
  dsimp only at e0 gl gs gk gm
  subst e0
  cases h1
  exact ab_fin hk _ (List.mem_singleton.mpr rfl) (cpc + 2, CL, .ref (1001 + 2 * t.1.toNat) :: sc, M) ⟨rfl, gl, ⟨⟨_, List.mem_singleton.mpr rfl, rfl⟩, gs⟩, gk, gm⟩

noncomputable def ab_getT : ab_O := fun h md P t S => some [ab_adv S 3 ((1, 0, [1100]) :: S.2.2.1)]
theorem ab_getT_ok : ab_Snd cm_getT ab_getT := by
  intro h N M0 md E P t S Ss C ρ k hN h1 hG hk
  obtain ⟨pc, L, st, K, Ca⟩ := S
  obtain ⟨cpc, CL, sc, M⟩ := C
  obtain ⟨e0, gl, gs, gk, gm⟩ := hG
  dsimp only at e0 gl gs gk gm
  subst e0
  cases h1
  exact ab_fin hk _ (List.mem_singleton.mpr rfl) (cpc + 3, CL, .ref 1100 :: sc, M) ⟨rfl, gl, ⟨⟨_, List.mem_singleton.mpr rfl, rfl⟩, gs⟩, gk, gm⟩

noncomputable def ab_gets : ab_O := fun h md P t S => some [ab_adv S 3 (ab_c 1 :: S.2.2.1)]
theorem ab_gets_ok : ab_Snd cm_gets ab_gets := by
  intro h N M0 md E P t S Ss C ρ k hN h1 hG hk
  obtain ⟨pc, L, st, K, Ca⟩ := S
  obtain ⟨cpc, CL, sc, M⟩ := C
  obtain ⟨e0, gl, gs, gk, gm⟩ := hG
  dsimp only at e0 gl gs gk gm
  subst e0
  cases h1
  exact ab_fin hk _ (List.mem_singleton.mpr rfl) (cpc + 3, CL, .int 1 :: sc, M) ⟨rfl, gl, ⟨rfl, gs⟩, gk, gm⟩

noncomputable def ab_getsF : ab_O := fun h md P t S => some [ab_adv S 3 ((7, 0, [1101]) :: S.2.2.1)]
theorem ab_getsF_ok : ab_Snd cm_getsF ab_getsF := by
  intro h N M0 md E P t S Ss C ρ k hN h1 hG hk
  obtain ⟨pc, L, st, K, Ca⟩ := S
  obtain ⟨cpc, CL, sc, M⟩ := C
  obtain ⟨e0, gl, gs, gk, gm⟩ := hG
  dsimp only at e0 gl gs gk gm
  subst e0
  cases h1
  exact ⟨ab_fin hk _ (List.mem_singleton.mpr rfl) (cpc + 3, CL, .null :: sc, M) ⟨rfl, gl, ⟨Or.inl rfl, gs⟩, gk, gm⟩, ab_fin hk _ (List.mem_singleton.mpr rfl) (cpc + 3, CL, .ref 1101 :: sc, M) ⟨rfl, gl, ⟨Or.inr ⟨_, List.mem_singleton.mpr rfl, rfl⟩, gs⟩, gk, gm⟩⟩

theorem ab_v6 {ρ : List Int32} {a : ab_A} {v : Value} (h : a.1 = 6) (hv : ab_v ρ a v) : ∃ x, v = .long x := by
  unfold ab_v at hv
  rw [h] at hv
  exact hv
theorem ab_v1 {ρ : List Int32} {a : ab_A} {v : Value} (h : a.1 = 1) (hv : ab_v ρ a v) : ∃ c, c ∈ a.2.2 ∧ v = .ref c := by
  unfold ab_v at hv
  rw [h] at hv
  exact hv
noncomputable def ab_iload : ab_O := fun h md P t S => match ev_at S.2.1 t.1.toNat with
  | some a => if ab_isI a = true then some [ab_adv S 2 (a :: S.2.2.1)] else none
  | none => none
theorem ab_iload_ok : ab_Snd cm_iload ab_iload := by
  intro h N M0 md E P t S Ss C ρ k hN h1 hG hk
  obtain ⟨pc, L, st, K, Ca⟩ := S
  obtain ⟨cpc, CL, sc, M⟩ := C
  obtain ⟨e0, gl, gs, gk, gm⟩ := hG
  dsimp only at e0 gl gs gk gm
  subst e0
  unfold ab_iload at h1
  dsimp only at h1
  split at h1
  · rename_i a ha
    split at h1
    · rename_i hc
      cases h1
      obtain ⟨v, hl, hv⟩ := gl _ (ev_at_mem ha)
      have hv0 := hv
      obtain ⟨x, hx, rfl⟩ := ab_vi hc hv
      unfold cm_iload cm_ld
      dsimp only at hl ⊢
      rw [hl]
      exact ab_fin hk _ (List.mem_singleton.mpr rfl) (cpc + 2, CL, _ :: sc, M) ⟨rfl, gl, ⟨hv0, gs⟩, gk, gm⟩
    · cases h1
  · cases h1

noncomputable def ab_istore : ab_O := fun h md P t S => match S.2.2.1 with
  | a :: st => if ab_isI a = true ∧ t.1.toNat < P.2.2.2.2.1 then some [(S.1 + 2, ab_st1 S.2.1 t.1.toNat a, st, S.2.2.2)] else none
  | [] => none
theorem ab_istore_ok : ab_Snd cm_istore ab_istore := by
  intro h N M0 md E P t S Ss C ρ k hN h1 hG hk
  obtain ⟨pc, L, st, K, Ca⟩ := S
  obtain ⟨cpc, CL, sc, M⟩ := C
  obtain ⟨e0, gl, gs, gk, gm⟩ := hG
  dsimp only at e0 gl gs gk gm
  subst e0
  unfold ab_istore at h1
  dsimp only at h1
  split at h1
  · rename_i a st'
    split at h1
    · rename_i hc0
      obtain ⟨hc, hn⟩ := hc0
      cases h1
      obtain ⟨v, sc', rfl, hv, gs'⟩ := ab_s_cons gs
      have hv0 := hv
      obtain ⟨x, hx, rfl⟩ := ab_vi hc hv
      exact ⟨hn, ab_fin hk _ (List.mem_singleton.mpr rfl) (cpc + 2, cm_st1 CL t.1.toNat _, sc', M) ⟨rfl, ab_st1_ok gl hv0, gs', gk, gm⟩⟩
    · cases h1
  · cases h1

noncomputable def ab_iloadn : ab_O := fun h md P t S => match ev_at S.2.1 t.1.toNat with
  | some a => if ab_isI a = true then some [ab_adv S 1 (a :: S.2.2.1)] else none
  | none => none
theorem ab_iloadn_ok : ab_Snd cm_iloadn ab_iloadn := by
  intro h N M0 md E P t S Ss C ρ k hN h1 hG hk
  obtain ⟨pc, L, st, K, Ca⟩ := S
  obtain ⟨cpc, CL, sc, M⟩ := C
  obtain ⟨e0, gl, gs, gk, gm⟩ := hG
  dsimp only at e0 gl gs gk gm
  subst e0
  unfold ab_iloadn at h1
  dsimp only at h1
  split at h1
  · rename_i a ha
    split at h1
    · rename_i hc
      cases h1
      obtain ⟨v, hl, hv⟩ := gl _ (ev_at_mem ha)
      have hv0 := hv
      obtain ⟨x, hx, rfl⟩ := ab_vi hc hv
      unfold cm_iloadn cm_ld
      dsimp only at hl ⊢
      rw [hl]
      exact ab_fin hk _ (List.mem_singleton.mpr rfl) (cpc + 1, CL, _ :: sc, M) ⟨rfl, gl, ⟨hv0, gs⟩, gk, gm⟩
    · cases h1
  · cases h1

noncomputable def ab_istoren : ab_O := fun h md P t S => match S.2.2.1 with
  | a :: st => if ab_isI a = true ∧ t.1.toNat < P.2.2.2.2.1 then some [(S.1 + 1, ab_st1 S.2.1 t.1.toNat a, st, S.2.2.2)] else none
  | [] => none
theorem ab_istoren_ok : ab_Snd cm_istoren ab_istoren := by
  intro h N M0 md E P t S Ss C ρ k hN h1 hG hk
  obtain ⟨pc, L, st, K, Ca⟩ := S
  obtain ⟨cpc, CL, sc, M⟩ := C
  obtain ⟨e0, gl, gs, gk, gm⟩ := hG
  dsimp only at e0 gl gs gk gm
  subst e0
  unfold ab_istoren at h1
  dsimp only at h1
  split at h1
  · rename_i a st'
    split at h1
    · rename_i hc0
      obtain ⟨hc, hn⟩ := hc0
      cases h1
      obtain ⟨v, sc', rfl, hv, gs'⟩ := ab_s_cons gs
      have hv0 := hv
      obtain ⟨x, hx, rfl⟩ := ab_vi hc hv
      exact ⟨hn, ab_fin hk _ (List.mem_singleton.mpr rfl) (cpc + 1, cm_st1 CL t.1.toNat _, sc', M) ⟨rfl, ab_st1_ok gl hv0, gs', gk, gm⟩⟩
    · cases h1
  · cases h1

noncomputable def ab_lload : ab_O := fun h md P t S => match ev_at S.2.1 t.1.toNat with
  | some a => if a.1 = 6 then some [ab_adv S 2 (a :: S.2.2.1)] else none
  | none => none
theorem ab_lload_ok : ab_Snd cm_lload ab_lload := by
  intro h N M0 md E P t S Ss C ρ k hN h1 hG hk
  obtain ⟨pc, L, st, K, Ca⟩ := S
  obtain ⟨cpc, CL, sc, M⟩ := C
  obtain ⟨e0, gl, gs, gk, gm⟩ := hG
  dsimp only at e0 gl gs gk gm
  subst e0
  unfold ab_lload at h1
  dsimp only at h1
  split at h1
  · rename_i a ha
    split at h1
    · rename_i hc
      cases h1
      obtain ⟨v, hl, hv⟩ := gl _ (ev_at_mem ha)
      have hv0 := hv
      obtain ⟨x, rfl⟩ := ab_v6 hc hv
      unfold cm_lload cm_ld
      dsimp only at hl ⊢
      rw [hl]
      exact ab_fin hk _ (List.mem_singleton.mpr rfl) (cpc + 2, CL, _ :: sc, M) ⟨rfl, gl, ⟨hv0, gs⟩, gk, gm⟩
    · cases h1
  · cases h1

noncomputable def ab_lstore : ab_O := fun h md P t S => match S.2.2.1 with
  | a :: st => if a.1 = 6 ∧ t.1.toNat + 1 < P.2.2.2.2.1 then some [(S.1 + 2, ab_st2 S.2.1 t.1.toNat a, st, S.2.2.2)] else none
  | [] => none
theorem ab_lstore_ok : ab_Snd cm_lstore ab_lstore := by
  intro h N M0 md E P t S Ss C ρ k hN h1 hG hk
  obtain ⟨pc, L, st, K, Ca⟩ := S
  obtain ⟨cpc, CL, sc, M⟩ := C
  obtain ⟨e0, gl, gs, gk, gm⟩ := hG
  dsimp only at e0 gl gs gk gm
  subst e0
  unfold ab_lstore at h1
  dsimp only at h1
  split at h1
  · rename_i a st'
    split at h1
    · rename_i hc0
      obtain ⟨hc, hn⟩ := hc0
      cases h1
      obtain ⟨v, sc', rfl, hv, gs'⟩ := ab_s_cons gs
      have hv0 := hv
      obtain ⟨x, rfl⟩ := ab_v6 hc hv
      exact ⟨hn, ab_fin hk _ (List.mem_singleton.mpr rfl) (cpc + 2, cm_st2 CL t.1.toNat _, sc', M) ⟨rfl, ab_st2_ok gl hv0, gs', gk, gm⟩⟩
    · cases h1
  · cases h1

noncomputable def ab_lloadn : ab_O := fun h md P t S => match ev_at S.2.1 t.1.toNat with
  | some a => if a.1 = 6 then some [ab_adv S 1 (a :: S.2.2.1)] else none
  | none => none
theorem ab_lloadn_ok : ab_Snd cm_lloadn ab_lloadn := by
  intro h N M0 md E P t S Ss C ρ k hN h1 hG hk
  obtain ⟨pc, L, st, K, Ca⟩ := S
  obtain ⟨cpc, CL, sc, M⟩ := C
  obtain ⟨e0, gl, gs, gk, gm⟩ := hG
  dsimp only at e0 gl gs gk gm
  subst e0
  unfold ab_lloadn at h1
  dsimp only at h1
  split at h1
  · rename_i a ha
    split at h1
    · rename_i hc
      cases h1
      obtain ⟨v, hl, hv⟩ := gl _ (ev_at_mem ha)
      have hv0 := hv
      obtain ⟨x, rfl⟩ := ab_v6 hc hv
      unfold cm_lloadn cm_ld
      dsimp only at hl ⊢
      rw [hl]
      exact ab_fin hk _ (List.mem_singleton.mpr rfl) (cpc + 1, CL, _ :: sc, M) ⟨rfl, gl, ⟨hv0, gs⟩, gk, gm⟩
    · cases h1
  · cases h1

noncomputable def ab_lstoren : ab_O := fun h md P t S => match S.2.2.1 with
  | a :: st => if a.1 = 6 ∧ t.1.toNat + 1 < P.2.2.2.2.1 then some [(S.1 + 1, ab_st2 S.2.1 t.1.toNat a, st, S.2.2.2)] else none
  | [] => none
theorem ab_lstoren_ok : ab_Snd cm_lstoren ab_lstoren := by
  intro h N M0 md E P t S Ss C ρ k hN h1 hG hk
  obtain ⟨pc, L, st, K, Ca⟩ := S
  obtain ⟨cpc, CL, sc, M⟩ := C
  obtain ⟨e0, gl, gs, gk, gm⟩ := hG
  dsimp only at e0 gl gs gk gm
  subst e0
  unfold ab_lstoren at h1
  dsimp only at h1
  split at h1
  · rename_i a st'
    split at h1
    · rename_i hc0
      obtain ⟨hc, hn⟩ := hc0
      cases h1
      obtain ⟨v, sc', rfl, hv, gs'⟩ := ab_s_cons gs
      have hv0 := hv
      obtain ⟨x, rfl⟩ := ab_v6 hc hv
      exact ⟨hn, ab_fin hk _ (List.mem_singleton.mpr rfl) (cpc + 1, cm_st2 CL t.1.toNat _, sc', M) ⟨rfl, ab_st2_ok gl hv0, gs', gk, gm⟩⟩
    · cases h1
  · cases h1

noncomputable def ab_aload : ab_O := fun h md P t S => match ev_at S.2.1 t.1.toNat with
  | some a => if a.1 = 1 then some [ab_adv S 2 (a :: S.2.2.1)] else none
  | none => none
theorem ab_aload_ok : ab_Snd cm_aload ab_aload := by
  intro h N M0 md E P t S Ss C ρ k hN h1 hG hk
  obtain ⟨pc, L, st, K, Ca⟩ := S
  obtain ⟨cpc, CL, sc, M⟩ := C
  obtain ⟨e0, gl, gs, gk, gm⟩ := hG
  dsimp only at e0 gl gs gk gm
  subst e0
  unfold ab_aload at h1
  dsimp only at h1
  split at h1
  · rename_i a ha
    split at h1
    · rename_i hc
      cases h1
      obtain ⟨v, hl, hv⟩ := gl _ (ev_at_mem ha)
      have hv0 := hv
      obtain ⟨x, hx, rfl⟩ := ab_v1 hc hv
      unfold cm_aload cm_ld
      dsimp only at hl ⊢
      rw [hl]
      exact ab_fin hk _ (List.mem_singleton.mpr rfl) (cpc + 2, CL, _ :: sc, M) ⟨rfl, gl, ⟨hv0, gs⟩, gk, gm⟩
    · cases h1
  · cases h1

noncomputable def ab_astore : ab_O := fun h md P t S => match S.2.2.1 with
  | a :: st => if a.1 = 1 ∧ t.1.toNat < P.2.2.2.2.1 then some [(S.1 + 2, ab_st1 S.2.1 t.1.toNat a, st, S.2.2.2)] else none
  | [] => none
theorem ab_astore_ok : ab_Snd cm_astore ab_astore := by
  intro h N M0 md E P t S Ss C ρ k hN h1 hG hk
  obtain ⟨pc, L, st, K, Ca⟩ := S
  obtain ⟨cpc, CL, sc, M⟩ := C
  obtain ⟨e0, gl, gs, gk, gm⟩ := hG
  dsimp only at e0 gl gs gk gm
  subst e0
  unfold ab_astore at h1
  dsimp only at h1
  split at h1
  · rename_i a st'
    split at h1
    · rename_i hc0
      obtain ⟨hc, hn⟩ := hc0
      cases h1
      obtain ⟨v, sc', rfl, hv, gs'⟩ := ab_s_cons gs
      have hv0 := hv
      obtain ⟨x, hx, rfl⟩ := ab_v1 hc hv
      exact ⟨hn, ab_fin hk _ (List.mem_singleton.mpr rfl) (cpc + 2, cm_st1 CL t.1.toNat _, sc', M) ⟨rfl, ab_st1_ok gl hv0, gs', gk, gm⟩⟩
    · cases h1
  · cases h1

noncomputable def ab_aloadn : ab_O := fun h md P t S => match ev_at S.2.1 t.1.toNat with
  | some a => if a.1 = 1 then some [ab_adv S 1 (a :: S.2.2.1)] else none
  | none => none
theorem ab_aloadn_ok : ab_Snd cm_aloadn ab_aloadn := by
  intro h N M0 md E P t S Ss C ρ k hN h1 hG hk
  obtain ⟨pc, L, st, K, Ca⟩ := S
  obtain ⟨cpc, CL, sc, M⟩ := C
  obtain ⟨e0, gl, gs, gk, gm⟩ := hG
  dsimp only at e0 gl gs gk gm
  subst e0
  unfold ab_aloadn at h1
  dsimp only at h1
  split at h1
  · rename_i a ha
    split at h1
    · rename_i hc
      cases h1
      obtain ⟨v, hl, hv⟩ := gl _ (ev_at_mem ha)
      have hv0 := hv
      obtain ⟨x, hx, rfl⟩ := ab_v1 hc hv
      unfold cm_aloadn cm_ld
      dsimp only at hl ⊢
      rw [hl]
      exact ab_fin hk _ (List.mem_singleton.mpr rfl) (cpc + 1, CL, _ :: sc, M) ⟨rfl, gl, ⟨hv0, gs⟩, gk, gm⟩
    · cases h1
  · cases h1

noncomputable def ab_astoren : ab_O := fun h md P t S => match S.2.2.1 with
  | a :: st => if a.1 = 1 ∧ t.1.toNat < P.2.2.2.2.1 then some [(S.1 + 1, ab_st1 S.2.1 t.1.toNat a, st, S.2.2.2)] else none
  | [] => none
theorem ab_astoren_ok : ab_Snd cm_astoren ab_astoren := by
  intro h N M0 md E P t S Ss C ρ k hN h1 hG hk
  obtain ⟨pc, L, st, K, Ca⟩ := S
  obtain ⟨cpc, CL, sc, M⟩ := C
  obtain ⟨e0, gl, gs, gk, gm⟩ := hG
  dsimp only at e0 gl gs gk gm
  subst e0
  unfold ab_astoren at h1
  dsimp only at h1
  split at h1
  · rename_i a st'
    split at h1
    · rename_i hc0
      obtain ⟨hc, hn⟩ := hc0
      cases h1
      obtain ⟨v, sc', rfl, hv, gs'⟩ := ab_s_cons gs
      have hv0 := hv
      obtain ⟨x, hx, rfl⟩ := ab_v1 hc hv
      exact ⟨hn, ab_fin hk _ (List.mem_singleton.mpr rfl) (cpc + 1, cm_st1 CL t.1.toNat _, sc', M) ⟨rfl, ab_st1_ok gl hv0, gs', gk, gm⟩⟩
    · cases h1
  · cases h1

noncomputable def ab_iadd : ab_O := fun h md P t S => match S.2.2.1 with
  | b :: a :: st => if ab_isI a = true ∧ ab_isI b = true then some [ab_advK S 1 ((ab_new S.2.2.2.1 1 a b).1 :: st) (ab_new S.2.2.2.1 1 a b).2] else none
  | _ => none
theorem ab_iadd_ok : ab_Snd cm_iadd ab_iadd := by
  intro h N M0 md E P t S Ss C ρ k hN h1 hG hk
  obtain ⟨pc, L, st, K, Ca⟩ := S
  obtain ⟨cpc, CL, sc, M⟩ := C
  obtain ⟨e0, gl, gs, gk, gm⟩ := hG
  dsimp only at e0 gl gs gk gm
  subst e0
  unfold ab_iadd at h1
  dsimp only at h1
  split at h1
  · rename_i b a st'
    split at h1
    · rename_i hc
      cases h1
      obtain ⟨vb, sc1, rfl, hvb, gs1⟩ := ab_s_cons gs
      obtain ⟨va, sc2, rfl, hva, gs2⟩ := ab_s_cons gs1
      obtain ⟨y, hy, rfl⟩ := ab_vi hc.2 hvb
      obtain ⟨x, hx, rfl⟩ := ab_vi hc.1 hva
      obtain ⟨ext, k1, k2⟩ := ab_new_ok (op := 1) gk hx hy rfl
      have hfin := hk _ (List.mem_singleton.mpr rfl) ext (cpc + 1, CL, .int (ev_f 1 x y) :: sc2, M) ⟨rfl, ab_l_ap gl, ⟨ab_iv k2, ab_s_ap gs2⟩, k1, ab_m_ap gm⟩
      exact hfin
    · cases h1
  · cases h1

noncomputable def ab_isub : ab_O := fun h md P t S => match S.2.2.1 with
  | b :: a :: st => if ab_isI a = true ∧ ab_isI b = true then some [ab_advK S 1 ((ab_new S.2.2.2.1 2 a b).1 :: st) (ab_new S.2.2.2.1 2 a b).2] else none
  | _ => none
theorem ab_isub_ok : ab_Snd cm_isub ab_isub := by
  intro h N M0 md E P t S Ss C ρ k hN h1 hG hk
  obtain ⟨pc, L, st, K, Ca⟩ := S
  obtain ⟨cpc, CL, sc, M⟩ := C
  obtain ⟨e0, gl, gs, gk, gm⟩ := hG
  dsimp only at e0 gl gs gk gm
  subst e0
  unfold ab_isub at h1
  dsimp only at h1
  split at h1
  · rename_i b a st'
    split at h1
    · rename_i hc
      cases h1
      obtain ⟨vb, sc1, rfl, hvb, gs1⟩ := ab_s_cons gs
      obtain ⟨va, sc2, rfl, hva, gs2⟩ := ab_s_cons gs1
      obtain ⟨y, hy, rfl⟩ := ab_vi hc.2 hvb
      obtain ⟨x, hx, rfl⟩ := ab_vi hc.1 hva
      obtain ⟨ext, k1, k2⟩ := ab_new_ok (op := 2) gk hx hy rfl
      have hfin := hk _ (List.mem_singleton.mpr rfl) ext (cpc + 1, CL, .int (ev_f 2 x y) :: sc2, M) ⟨rfl, ab_l_ap gl, ⟨ab_iv k2, ab_s_ap gs2⟩, k1, ab_m_ap gm⟩
      exact hfin
    · cases h1
  · cases h1

noncomputable def ab_imul : ab_O := fun h md P t S => match S.2.2.1 with
  | b :: a :: st => if ab_isI a = true ∧ ab_isI b = true then some [ab_advK S 1 ((ab_new S.2.2.2.1 3 a b).1 :: st) (ab_new S.2.2.2.1 3 a b).2] else none
  | _ => none
theorem ab_imul_ok : ab_Snd cm_imul ab_imul := by
  intro h N M0 md E P t S Ss C ρ k hN h1 hG hk
  obtain ⟨pc, L, st, K, Ca⟩ := S
  obtain ⟨cpc, CL, sc, M⟩ := C
  obtain ⟨e0, gl, gs, gk, gm⟩ := hG
  dsimp only at e0 gl gs gk gm
  subst e0
  unfold ab_imul at h1
  dsimp only at h1
  split at h1
  · rename_i b a st'
    split at h1
    · rename_i hc
      cases h1
      obtain ⟨vb, sc1, rfl, hvb, gs1⟩ := ab_s_cons gs
      obtain ⟨va, sc2, rfl, hva, gs2⟩ := ab_s_cons gs1
      obtain ⟨y, hy, rfl⟩ := ab_vi hc.2 hvb
      obtain ⟨x, hx, rfl⟩ := ab_vi hc.1 hva
      obtain ⟨ext, k1, k2⟩ := ab_new_ok (op := 3) gk hx hy rfl
      have hfin := hk _ (List.mem_singleton.mpr rfl) ext (cpc + 1, CL, .int (ev_f 3 x y) :: sc2, M) ⟨rfl, ab_l_ap gl, ⟨ab_iv k2, ab_s_ap gs2⟩, k1, ab_m_ap gm⟩
      exact hfin
    · cases h1
  · cases h1

noncomputable def ab_iand : ab_O := fun h md P t S => match S.2.2.1 with
  | b :: a :: st => if ab_isI a = true ∧ ab_isI b = true then some [ab_advK S 1 ((ab_new S.2.2.2.1 4 a b).1 :: st) (ab_new S.2.2.2.1 4 a b).2] else none
  | _ => none
theorem ab_iand_ok : ab_Snd cm_iand ab_iand := by
  intro h N M0 md E P t S Ss C ρ k hN h1 hG hk
  obtain ⟨pc, L, st, K, Ca⟩ := S
  obtain ⟨cpc, CL, sc, M⟩ := C
  obtain ⟨e0, gl, gs, gk, gm⟩ := hG
  dsimp only at e0 gl gs gk gm
  subst e0
  unfold ab_iand at h1
  dsimp only at h1
  split at h1
  · rename_i b a st'
    split at h1
    · rename_i hc
      cases h1
      obtain ⟨vb, sc1, rfl, hvb, gs1⟩ := ab_s_cons gs
      obtain ⟨va, sc2, rfl, hva, gs2⟩ := ab_s_cons gs1
      obtain ⟨y, hy, rfl⟩ := ab_vi hc.2 hvb
      obtain ⟨x, hx, rfl⟩ := ab_vi hc.1 hva
      obtain ⟨ext, k1, k2⟩ := ab_new_ok (op := 4) gk hx hy rfl
      have hfin := hk _ (List.mem_singleton.mpr rfl) ext (cpc + 1, CL, .int (ev_f 4 x y) :: sc2, M) ⟨rfl, ab_l_ap gl, ⟨ab_iv k2, ab_s_ap gs2⟩, k1, ab_m_ap gm⟩
      exact hfin
    · cases h1
  · cases h1

noncomputable def ab_ior : ab_O := fun h md P t S => match S.2.2.1 with
  | b :: a :: st => if ab_isI a = true ∧ ab_isI b = true then some [ab_advK S 1 ((ab_new S.2.2.2.1 5 a b).1 :: st) (ab_new S.2.2.2.1 5 a b).2] else none
  | _ => none
theorem ab_ior_ok : ab_Snd cm_ior ab_ior := by
  intro h N M0 md E P t S Ss C ρ k hN h1 hG hk
  obtain ⟨pc, L, st, K, Ca⟩ := S
  obtain ⟨cpc, CL, sc, M⟩ := C
  obtain ⟨e0, gl, gs, gk, gm⟩ := hG
  dsimp only at e0 gl gs gk gm
  subst e0
  unfold ab_ior at h1
  dsimp only at h1
  split at h1
  · rename_i b a st'
    split at h1
    · rename_i hc
      cases h1
      obtain ⟨vb, sc1, rfl, hvb, gs1⟩ := ab_s_cons gs
      obtain ⟨va, sc2, rfl, hva, gs2⟩ := ab_s_cons gs1
      obtain ⟨y, hy, rfl⟩ := ab_vi hc.2 hvb
      obtain ⟨x, hx, rfl⟩ := ab_vi hc.1 hva
      obtain ⟨ext, k1, k2⟩ := ab_new_ok (op := 5) gk hx hy rfl
      have hfin := hk _ (List.mem_singleton.mpr rfl) ext (cpc + 1, CL, .int (ev_f 5 x y) :: sc2, M) ⟨rfl, ab_l_ap gl, ⟨ab_iv k2, ab_s_ap gs2⟩, k1, ab_m_ap gm⟩
      exact hfin
    · cases h1
  · cases h1

noncomputable def ab_ixor : ab_O := fun h md P t S => match S.2.2.1 with
  | b :: a :: st => if ab_isI a = true ∧ ab_isI b = true then some [ab_advK S 1 ((ab_new S.2.2.2.1 6 a b).1 :: st) (ab_new S.2.2.2.1 6 a b).2] else none
  | _ => none
theorem ab_ixor_ok : ab_Snd cm_ixor ab_ixor := by
  intro h N M0 md E P t S Ss C ρ k hN h1 hG hk
  obtain ⟨pc, L, st, K, Ca⟩ := S
  obtain ⟨cpc, CL, sc, M⟩ := C
  obtain ⟨e0, gl, gs, gk, gm⟩ := hG
  dsimp only at e0 gl gs gk gm
  subst e0
  unfold ab_ixor at h1
  dsimp only at h1
  split at h1
  · rename_i b a st'
    split at h1
    · rename_i hc
      cases h1
      obtain ⟨vb, sc1, rfl, hvb, gs1⟩ := ab_s_cons gs
      obtain ⟨va, sc2, rfl, hva, gs2⟩ := ab_s_cons gs1
      obtain ⟨y, hy, rfl⟩ := ab_vi hc.2 hvb
      obtain ⟨x, hx, rfl⟩ := ab_vi hc.1 hva
      obtain ⟨ext, k1, k2⟩ := ab_new_ok (op := 6) gk hx hy rfl
      have hfin := hk _ (List.mem_singleton.mpr rfl) ext (cpc + 1, CL, .int (ev_f 6 x y) :: sc2, M) ⟨rfl, ab_l_ap gl, ⟨ab_iv k2, ab_s_ap gs2⟩, k1, ab_m_ap gm⟩
      exact hfin
    · cases h1
  · cases h1

noncomputable def ab_ishl : ab_O := fun h md P t S => match S.2.2.1 with
  | b :: a :: st => if ab_isI a = true ∧ ab_isI b = true then some [ab_advK S 1 ((ab_new S.2.2.2.1 7 a b).1 :: st) (ab_new S.2.2.2.1 7 a b).2] else none
  | _ => none
theorem ab_ishl_ok : ab_Snd cm_ishl ab_ishl := by
  intro h N M0 md E P t S Ss C ρ k hN h1 hG hk
  obtain ⟨pc, L, st, K, Ca⟩ := S
  obtain ⟨cpc, CL, sc, M⟩ := C
  obtain ⟨e0, gl, gs, gk, gm⟩ := hG
  dsimp only at e0 gl gs gk gm
  subst e0
  unfold ab_ishl at h1
  dsimp only at h1
  split at h1
  · rename_i b a st'
    split at h1
    · rename_i hc
      cases h1
      obtain ⟨vb, sc1, rfl, hvb, gs1⟩ := ab_s_cons gs
      obtain ⟨va, sc2, rfl, hva, gs2⟩ := ab_s_cons gs1
      obtain ⟨y, hy, rfl⟩ := ab_vi hc.2 hvb
      obtain ⟨x, hx, rfl⟩ := ab_vi hc.1 hva
      obtain ⟨ext, k1, k2⟩ := ab_new_ok (op := 7) gk hx hy rfl
      have hfin := hk _ (List.mem_singleton.mpr rfl) ext (cpc + 1, CL, .int (ev_f 7 x y) :: sc2, M) ⟨rfl, ab_l_ap gl, ⟨ab_iv k2, ab_s_ap gs2⟩, k1, ab_m_ap gm⟩
      exact hfin
    · cases h1
  · cases h1

noncomputable def ab_ishr : ab_O := fun h md P t S => match S.2.2.1 with
  | b :: a :: st => if ab_isI a = true ∧ ab_isI b = true then some [ab_advK S 1 ((ab_new S.2.2.2.1 8 a b).1 :: st) (ab_new S.2.2.2.1 8 a b).2] else none
  | _ => none
theorem ab_ishr_ok : ab_Snd cm_ishr ab_ishr := by
  intro h N M0 md E P t S Ss C ρ k hN h1 hG hk
  obtain ⟨pc, L, st, K, Ca⟩ := S
  obtain ⟨cpc, CL, sc, M⟩ := C
  obtain ⟨e0, gl, gs, gk, gm⟩ := hG
  dsimp only at e0 gl gs gk gm
  subst e0
  unfold ab_ishr at h1
  dsimp only at h1
  split at h1
  · rename_i b a st'
    split at h1
    · rename_i hc
      cases h1
      obtain ⟨vb, sc1, rfl, hvb, gs1⟩ := ab_s_cons gs
      obtain ⟨va, sc2, rfl, hva, gs2⟩ := ab_s_cons gs1
      obtain ⟨y, hy, rfl⟩ := ab_vi hc.2 hvb
      obtain ⟨x, hx, rfl⟩ := ab_vi hc.1 hva
      obtain ⟨ext, k1, k2⟩ := ab_new_ok (op := 8) gk hx hy rfl
      have hfin := hk _ (List.mem_singleton.mpr rfl) ext (cpc + 1, CL, .int (ev_f 8 x y) :: sc2, M) ⟨rfl, ab_l_ap gl, ⟨ab_iv k2, ab_s_ap gs2⟩, k1, ab_m_ap gm⟩
      exact hfin
    · cases h1
  · cases h1

noncomputable def ab_iushr : ab_O := fun h md P t S => match S.2.2.1 with
  | b :: a :: st => if ab_isI a = true ∧ ab_isI b = true then some [ab_advK S 1 ((ab_new S.2.2.2.1 9 a b).1 :: st) (ab_new S.2.2.2.1 9 a b).2] else none
  | _ => none
theorem ab_iushr_ok : ab_Snd cm_iushr ab_iushr := by
  intro h N M0 md E P t S Ss C ρ k hN h1 hG hk
  obtain ⟨pc, L, st, K, Ca⟩ := S
  obtain ⟨cpc, CL, sc, M⟩ := C
  obtain ⟨e0, gl, gs, gk, gm⟩ := hG
  dsimp only at e0 gl gs gk gm
  subst e0
  unfold ab_iushr at h1
  dsimp only at h1
  split at h1
  · rename_i b a st'
    split at h1
    · rename_i hc
      cases h1
      obtain ⟨vb, sc1, rfl, hvb, gs1⟩ := ab_s_cons gs
      obtain ⟨va, sc2, rfl, hva, gs2⟩ := ab_s_cons gs1
      obtain ⟨y, hy, rfl⟩ := ab_vi hc.2 hvb
      obtain ⟨x, hx, rfl⟩ := ab_vi hc.1 hva
      obtain ⟨ext, k1, k2⟩ := ab_new_ok (op := 9) gk hx hy rfl
      have hfin := hk _ (List.mem_singleton.mpr rfl) ext (cpc + 1, CL, .int (ev_f 9 x y) :: sc2, M) ⟨rfl, ab_l_ap gl, ⟨ab_iv k2, ab_s_ap gs2⟩, k1, ab_m_ap gm⟩
      exact hfin
    · cases h1
  · cases h1

noncomputable def ab_idiv : ab_O := fun h md P t S => match S.2.2.1 with
  | b :: a :: st => if ab_isI a = true ∧ ab_isI b = true ∧ (1 ≤ (ab_bd S.2.2.2.1 b).1 ∨ (ab_bd S.2.2.2.1 b).2 ≤ -1) then some [ab_advK S 1 ((ab_new S.2.2.2.1 10 a b).1 :: st) (ab_new S.2.2.2.1 10 a b).2] else none
  | _ => none
theorem ab_idiv_ok : ab_Snd cm_idiv ab_idiv := by
  intro h N M0 md E P t S Ss C ρ k hN h1 hG hk
  obtain ⟨pc, L, st, K, Ca⟩ := S
  obtain ⟨cpc, CL, sc, M⟩ := C
  obtain ⟨e0, gl, gs, gk, gm⟩ := hG
  dsimp only at e0 gl gs gk gm
  subst e0
  unfold ab_idiv at h1
  dsimp only at h1
  split at h1
  · rename_i b a st'
    split at h1
    · rename_i hc
      cases h1
      obtain ⟨vb, sc1, rfl, hvb, gs1⟩ := ab_s_cons gs
      obtain ⟨va, sc2, rfl, hva, gs2⟩ := ab_s_cons gs1
      obtain ⟨y, hy, rfl⟩ := ab_vi hc.2.1 hvb
      obtain ⟨x, hx, rfl⟩ := ab_vi hc.1 hva
      obtain ⟨ext, k1, k2⟩ := ab_new_ok (op := 10) gk hx hy rfl
      have hfin := hk _ (List.mem_singleton.mpr rfl) ext (cpc + 1, CL, .int (ev_f 10 x y) :: sc2, M) ⟨rfl, ab_l_ap gl, ⟨ab_iv k2, ab_s_ap gs2⟩, k1, ab_m_ap gm⟩
      refine ⟨fun e => ?_, hfin⟩
      have hb := ab_bd_in gk hy
      rw [e] at hb
      have h0 : (0 : Int32).toInt = 0 := rfl
      obtain ⟨b1, b2⟩ := hb
      have h3 := hc.2.2
      omega
    · cases h1
  · cases h1

noncomputable def ab_irem : ab_O := fun h md P t S => match S.2.2.1 with
  | b :: a :: st => if ab_isI a = true ∧ ab_isI b = true ∧ (1 ≤ (ab_bd S.2.2.2.1 b).1 ∨ (ab_bd S.2.2.2.1 b).2 ≤ -1) then some [ab_advK S 1 ((ab_new S.2.2.2.1 11 a b).1 :: st) (ab_new S.2.2.2.1 11 a b).2] else none
  | _ => none
theorem ab_irem_ok : ab_Snd cm_irem ab_irem := by
  intro h N M0 md E P t S Ss C ρ k hN h1 hG hk
  obtain ⟨pc, L, st, K, Ca⟩ := S
  obtain ⟨cpc, CL, sc, M⟩ := C
  obtain ⟨e0, gl, gs, gk, gm⟩ := hG
  dsimp only at e0 gl gs gk gm
  subst e0
  unfold ab_irem at h1
  dsimp only at h1
  split at h1
  · rename_i b a st'
    split at h1
    · rename_i hc
      cases h1
      obtain ⟨vb, sc1, rfl, hvb, gs1⟩ := ab_s_cons gs
      obtain ⟨va, sc2, rfl, hva, gs2⟩ := ab_s_cons gs1
      obtain ⟨y, hy, rfl⟩ := ab_vi hc.2.1 hvb
      obtain ⟨x, hx, rfl⟩ := ab_vi hc.1 hva
      obtain ⟨ext, k1, k2⟩ := ab_new_ok (op := 11) gk hx hy rfl
      have hfin := hk _ (List.mem_singleton.mpr rfl) ext (cpc + 1, CL, .int (ev_f 11 x y) :: sc2, M) ⟨rfl, ab_l_ap gl, ⟨ab_iv k2, ab_s_ap gs2⟩, k1, ab_m_ap gm⟩
      refine ⟨fun e => ?_, hfin⟩
      have hb := ab_bd_in gk hy
      rw [e] at hb
      have h0 : (0 : Int32).toInt = 0 := rfl
      obtain ⟨b1, b2⟩ := hb
      have h3 := hc.2.2
      omega
    · cases h1
  · cases h1

theorem ab_cs_ok {ρ : List Int32} : ∀ {st : List ab_A} {sc : List Value}, ab_s ρ st sc → cm_cs sc = (st.map (fun a => if a.1 = 6 then 2 else 1)).sum
  | [], [], _ => rfl
  | [], _ :: _, h => h.elim
  | _ :: _, [], h => h.elim
  | a :: st, v :: sc, h => by
    have ih := ab_cs_ok h.2
    unfold cm_cs at ih ⊢
    rw [List.map_cons, List.map_cons, List.sum_cons, List.sum_cons, ih]
    rcases ab_cat h.1 with ⟨h1, h2⟩ | ⟨h1, h2⟩
    · rw [h2, if_pos h1]
    · rw [h2, if_neg h1]
noncomputable def ab_cs (st : List ab_A) : Nat := (st.map (fun a => if a.1 = 6 then 2 else 1)).sum
noncomputable def ab_mmin : ab_O := fun h md P t S => match S.2.2.1 with
  | b :: a :: st => if ab_isI a = true ∧ ab_isI b = true ∧ ab_cs st ≤ 8 then some [ab_advK S 3 ((ab_new S.2.2.2.1 15 a b).1 :: st) (ab_new S.2.2.2.1 15 a b).2] else none
  | _ => none
theorem ab_mmin_ok : ab_Snd cm_mmin ab_mmin := by
  intro h N M0 md E P t S Ss C ρ k hN h1 hG hk
  obtain ⟨pc, L, st, K, Ca⟩ := S
  obtain ⟨cpc, CL, sc, M⟩ := C
  obtain ⟨e0, gl, gs, gk, gm⟩ := hG
  dsimp only at e0 gl gs gk gm
  subst e0
  unfold ab_mmin at h1
  dsimp only at h1
  split at h1
  · rename_i b a st'
    split at h1
    · rename_i hc
      cases h1
      obtain ⟨vb, sc1, rfl, hvb, gs1⟩ := ab_s_cons gs
      obtain ⟨va, sc2, rfl, hva, gs2⟩ := ab_s_cons gs1
      obtain ⟨y, hy, rfl⟩ := ab_vi hc.2.1 hvb
      obtain ⟨x, hx, rfl⟩ := ab_vi hc.1 hva
      obtain ⟨ext, k1, k2⟩ := ab_new_ok (op := 15) gk hx hy rfl
      have hfin := hk _ (List.mem_singleton.mpr rfl) ext (cpc + 3, CL, .int (ev_f 15 x y) :: sc2, M) ⟨rfl, ab_l_ap gl, ⟨ab_iv k2, ab_s_ap gs2⟩, k1, ab_m_ap gm⟩
      have hcs := ab_cs_ok gs2
      exact ⟨by rw [hcs]; exact hc.2.2, hfin⟩
    · cases h1
  · cases h1

noncomputable def ab_mmax : ab_O := fun h md P t S => match S.2.2.1 with
  | b :: a :: st => if ab_isI a = true ∧ ab_isI b = true ∧ ab_cs st ≤ 8 then some [ab_advK S 3 ((ab_new S.2.2.2.1 16 a b).1 :: st) (ab_new S.2.2.2.1 16 a b).2] else none
  | _ => none
theorem ab_mmax_ok : ab_Snd cm_mmax ab_mmax := by
  intro h N M0 md E P t S Ss C ρ k hN h1 hG hk
  obtain ⟨pc, L, st, K, Ca⟩ := S
  obtain ⟨cpc, CL, sc, M⟩ := C
  obtain ⟨e0, gl, gs, gk, gm⟩ := hG
  dsimp only at e0 gl gs gk gm
  subst e0
  unfold ab_mmax at h1
  dsimp only at h1
  split at h1
  · rename_i b a st'
    split at h1
    · rename_i hc
      cases h1
      obtain ⟨vb, sc1, rfl, hvb, gs1⟩ := ab_s_cons gs
      obtain ⟨va, sc2, rfl, hva, gs2⟩ := ab_s_cons gs1
      obtain ⟨y, hy, rfl⟩ := ab_vi hc.2.1 hvb
      obtain ⟨x, hx, rfl⟩ := ab_vi hc.1 hva
      obtain ⟨ext, k1, k2⟩ := ab_new_ok (op := 16) gk hx hy rfl
      have hfin := hk _ (List.mem_singleton.mpr rfl) ext (cpc + 3, CL, .int (ev_f 16 x y) :: sc2, M) ⟨rfl, ab_l_ap gl, ⟨ab_iv k2, ab_s_ap gs2⟩, k1, ab_m_ap gm⟩
      have hcs := ab_cs_ok gs2
      exact ⟨by rw [hcs]; exact hc.2.2, hfin⟩
    · cases h1
  · cases h1

noncomputable def ab_ineg : ab_O := fun h md P t S => match S.2.2.1 with
  | a :: st => if ab_isI a = true then some [ab_advK S 1 ((ab_new S.2.2.2.1 12 a (ab_c 0)).1 :: st) (ab_new S.2.2.2.1 12 a (ab_c 0)).2] else none
  | _ => none
theorem ab_ineg_ok : ab_Snd cm_ineg ab_ineg := by
  intro h N M0 md E P t S Ss C ρ k hN h1 hG hk
  obtain ⟨pc, L, st, K, Ca⟩ := S
  obtain ⟨cpc, CL, sc, M⟩ := C
  obtain ⟨e0, gl, gs, gk, gm⟩ := hG
  dsimp only at e0 gl gs gk gm
  subst e0
  unfold ab_ineg at h1
  dsimp only at h1
  split at h1
  · rename_i a st'
    split at h1
    · rename_i hc
      cases h1
      obtain ⟨va, sc2, rfl, hva, gs2⟩ := ab_s_cons gs
      obtain ⟨x, hx, rfl⟩ := ab_vi hc hva
      obtain ⟨ext, k1, k2⟩ := ab_new_ok (op := 12) (b := ab_c 0) gk hx rfl rfl
      have hfin := hk _ (List.mem_singleton.mpr rfl) ext (cpc + 1, CL, .int (ev_f 12 x (Int32.ofInt 0)) :: sc2, M) ⟨rfl, ab_l_ap gl, ⟨ab_iv k2, ab_s_ap gs2⟩, k1, ab_m_ap gm⟩
      exact hfin
    · cases h1
  · cases h1

noncomputable def ab_i2b : ab_O := fun h md P t S => match S.2.2.1 with
  | a :: st => if ab_isI a = true then some [ab_advK S 1 ((ab_new S.2.2.2.1 13 a (ab_c 0)).1 :: st) (ab_new S.2.2.2.1 13 a (ab_c 0)).2] else none
  | _ => none
theorem ab_i2b_ok : ab_Snd cm_i2b ab_i2b := by
  intro h N M0 md E P t S Ss C ρ k hN h1 hG hk
  obtain ⟨pc, L, st, K, Ca⟩ := S
  obtain ⟨cpc, CL, sc, M⟩ := C
  obtain ⟨e0, gl, gs, gk, gm⟩ := hG
  dsimp only at e0 gl gs gk gm
  subst e0
  unfold ab_i2b at h1
  dsimp only at h1
  split at h1
  · rename_i a st'
    split at h1
    · rename_i hc
      cases h1
      obtain ⟨va, sc2, rfl, hva, gs2⟩ := ab_s_cons gs
      obtain ⟨x, hx, rfl⟩ := ab_vi hc hva
      obtain ⟨ext, k1, k2⟩ := ab_new_ok (op := 13) (b := ab_c 0) gk hx rfl rfl
      have hfin := hk _ (List.mem_singleton.mpr rfl) ext (cpc + 1, CL, .int (ev_f 13 x (Int32.ofInt 0)) :: sc2, M) ⟨rfl, ab_l_ap gl, ⟨ab_iv k2, ab_s_ap gs2⟩, k1, ab_m_ap gm⟩
      exact hfin
    · cases h1
  · cases h1

noncomputable def ab_i2c : ab_O := fun h md P t S => match S.2.2.1 with
  | a :: st => if ab_isI a = true then some [ab_advK S 1 ((ab_new S.2.2.2.1 14 a (ab_c 0)).1 :: st) (ab_new S.2.2.2.1 14 a (ab_c 0)).2] else none
  | _ => none
theorem ab_i2c_ok : ab_Snd cm_i2c ab_i2c := by
  intro h N M0 md E P t S Ss C ρ k hN h1 hG hk
  obtain ⟨pc, L, st, K, Ca⟩ := S
  obtain ⟨cpc, CL, sc, M⟩ := C
  obtain ⟨e0, gl, gs, gk, gm⟩ := hG
  dsimp only at e0 gl gs gk gm
  subst e0
  unfold ab_i2c at h1
  dsimp only at h1
  split at h1
  · rename_i a st'
    split at h1
    · rename_i hc
      cases h1
      obtain ⟨va, sc2, rfl, hva, gs2⟩ := ab_s_cons gs
      obtain ⟨x, hx, rfl⟩ := ab_vi hc hva
      obtain ⟨ext, k1, k2⟩ := ab_new_ok (op := 14) (b := ab_c 0) gk hx rfl rfl
      have hfin := hk _ (List.mem_singleton.mpr rfl) ext (cpc + 1, CL, .int (ev_f 14 x (Int32.ofInt 0)) :: sc2, M) ⟨rfl, ab_l_ap gl, ⟨ab_iv k2, ab_s_ap gs2⟩, k1, ab_m_ap gm⟩
      exact hfin
    · cases h1
  · cases h1

noncomputable def ab_mabs : ab_O := fun h md P t S => match S.2.2.1 with
  | a :: st => if ab_isI a = true ∧ ab_cs st ≤ 8 then some [ab_advK S 3 ((ab_new S.2.2.2.1 17 a (ab_c 0)).1 :: st) (ab_new S.2.2.2.1 17 a (ab_c 0)).2] else none
  | _ => none
theorem ab_mabs_ok : ab_Snd cm_mabs ab_mabs := by
  intro h N M0 md E P t S Ss C ρ k hN h1 hG hk
  obtain ⟨pc, L, st, K, Ca⟩ := S
  obtain ⟨cpc, CL, sc, M⟩ := C
  obtain ⟨e0, gl, gs, gk, gm⟩ := hG
  dsimp only at e0 gl gs gk gm
  subst e0
  unfold ab_mabs at h1
  dsimp only at h1
  split at h1
  · rename_i a st'
    split at h1
    · rename_i hc
      cases h1
      obtain ⟨va, sc2, rfl, hva, gs2⟩ := ab_s_cons gs
      obtain ⟨x, hx, rfl⟩ := ab_vi hc.1 hva
      obtain ⟨ext, k1, k2⟩ := ab_new_ok (op := 17) (b := ab_c 0) gk hx rfl rfl
      have hfin := hk _ (List.mem_singleton.mpr rfl) ext (cpc + 3, CL, .int (ev_f 17 x (Int32.ofInt 0)) :: sc2, M) ⟨rfl, ab_l_ap gl, ⟨ab_iv k2, ab_s_ap gs2⟩, k1, ab_m_ap gm⟩
      have hcs := ab_cs_ok gs2
      exact ⟨by rw [hcs]; exact hc.2, hfin⟩
    · cases h1
  · cases h1

noncomputable def ab_i2l : ab_O := fun h md P t S => match S.2.2.1 with
  | a :: st => if ab_isI a = true then some [ab_adv S 1 ((6, 0, []) :: st)] else none
  | _ => none
theorem ab_i2l_ok : ab_Snd cm_i2l ab_i2l := by
  intro h N M0 md E P t S Ss C ρ k hN h1 hG hk
  obtain ⟨pc, L, st, K, Ca⟩ := S
  obtain ⟨cpc, CL, sc, M⟩ := C
  obtain ⟨e0, gl, gs, gk, gm⟩ := hG
  dsimp only at e0 gl gs gk gm
  subst e0
  unfold ab_i2l at h1
  dsimp only at h1
  split at h1
  · rename_i a st'
    split at h1
    · rename_i hc
      cases h1
      obtain ⟨va, sc2, rfl, hva, gs2⟩ := ab_s_cons gs
      obtain ⟨x, hx, rfl⟩ := ab_vi hc hva
      exact ab_fin hk _ (List.mem_singleton.mpr rfl) (cpc + 1, CL, .long x.toInt64 :: sc2, M) ⟨rfl, gl, ⟨⟨_, rfl⟩, gs2⟩, gk, gm⟩
    · cases h1
  · cases h1

noncomputable def ab_ladd : ab_O := fun h md P t S => match S.2.2.1 with
  | b :: a :: st => if a.1 = 6 ∧ b.1 = 6 then some [ab_adv S 1 ((6, 0, []) :: st)] else none
  | _ => none
theorem ab_ladd_ok : ab_Snd cm_ladd ab_ladd := by
  intro h N M0 md E P t S Ss C ρ k hN h1 hG hk
  obtain ⟨pc, L, st, K, Ca⟩ := S
  obtain ⟨cpc, CL, sc, M⟩ := C
  obtain ⟨e0, gl, gs, gk, gm⟩ := hG
  dsimp only at e0 gl gs gk gm
  subst e0
  unfold ab_ladd at h1
  dsimp only at h1
  split at h1
  · rename_i b a st'
    split at h1
    · rename_i hc
      cases h1
      obtain ⟨vb, sc1, rfl, hvb, gs1⟩ := ab_s_cons gs
      obtain ⟨va, sc2, rfl, hva, gs2⟩ := ab_s_cons gs1
      obtain ⟨y, rfl⟩ := ab_v6 hc.2 hvb
      obtain ⟨x, rfl⟩ := ab_v6 hc.1 hva
      exact ab_fin hk _ (List.mem_singleton.mpr rfl) (cpc + 1, CL, .long (x + y) :: sc2, M) ⟨rfl, gl, ⟨⟨_, rfl⟩, gs2⟩, gk, gm⟩
    · cases h1
  · cases h1

noncomputable def ab_lsub : ab_O := fun h md P t S => match S.2.2.1 with
  | b :: a :: st => if a.1 = 6 ∧ b.1 = 6 then some [ab_adv S 1 ((6, 0, []) :: st)] else none
  | _ => none
theorem ab_lsub_ok : ab_Snd cm_lsub ab_lsub := by
  intro h N M0 md E P t S Ss C ρ k hN h1 hG hk
  obtain ⟨pc, L, st, K, Ca⟩ := S
  obtain ⟨cpc, CL, sc, M⟩ := C
  obtain ⟨e0, gl, gs, gk, gm⟩ := hG
  dsimp only at e0 gl gs gk gm
  subst e0
  unfold ab_lsub at h1
  dsimp only at h1
  split at h1
  · rename_i b a st'
    split at h1
    · rename_i hc
      cases h1
      obtain ⟨vb, sc1, rfl, hvb, gs1⟩ := ab_s_cons gs
      obtain ⟨va, sc2, rfl, hva, gs2⟩ := ab_s_cons gs1
      obtain ⟨y, rfl⟩ := ab_v6 hc.2 hvb
      obtain ⟨x, rfl⟩ := ab_v6 hc.1 hva
      exact ab_fin hk _ (List.mem_singleton.mpr rfl) (cpc + 1, CL, .long (x - y) :: sc2, M) ⟨rfl, gl, ⟨⟨_, rfl⟩, gs2⟩, gk, gm⟩
    · cases h1
  · cases h1

noncomputable def ab_lmul : ab_O := fun h md P t S => match S.2.2.1 with
  | b :: a :: st => if a.1 = 6 ∧ b.1 = 6 then some [ab_adv S 1 ((6, 0, []) :: st)] else none
  | _ => none
theorem ab_lmul_ok : ab_Snd cm_lmul ab_lmul := by
  intro h N M0 md E P t S Ss C ρ k hN h1 hG hk
  obtain ⟨pc, L, st, K, Ca⟩ := S
  obtain ⟨cpc, CL, sc, M⟩ := C
  obtain ⟨e0, gl, gs, gk, gm⟩ := hG
  dsimp only at e0 gl gs gk gm
  subst e0
  unfold ab_lmul at h1
  dsimp only at h1
  split at h1
  · rename_i b a st'
    split at h1
    · rename_i hc
      cases h1
      obtain ⟨vb, sc1, rfl, hvb, gs1⟩ := ab_s_cons gs
      obtain ⟨va, sc2, rfl, hva, gs2⟩ := ab_s_cons gs1
      obtain ⟨y, rfl⟩ := ab_v6 hc.2 hvb
      obtain ⟨x, rfl⟩ := ab_v6 hc.1 hva
      exact ab_fin hk _ (List.mem_singleton.mpr rfl) (cpc + 1, CL, .long (x * y) :: sc2, M) ⟨rfl, gl, ⟨⟨_, rfl⟩, gs2⟩, gk, gm⟩
    · cases h1
  · cases h1

theorem ab_lcmp_in (x y : Int64) : ev_inb (-1, 1) (lg_cmp x y) := by
  unfold lg_cmp
  repeat' split
  all_goals exact ⟨by decide, by decide⟩
noncomputable def ab_lcmp : ab_O := fun h md P t S => match S.2.2.1 with
  | b :: a :: st => if a.1 = 6 ∧ b.1 = 6 then some [ab_advK S 1 ((ab_any S.2.2.2.1 (-1, 1)).1 :: st) (ab_any S.2.2.2.1 (-1, 1)).2] else none
  | _ => none
theorem ab_lcmp_ok : ab_Snd cm_lcmp ab_lcmp := by
  intro h N M0 md E P t S Ss C ρ k hN h1 hG hk
  obtain ⟨pc, L, st, K, Ca⟩ := S
  obtain ⟨cpc, CL, sc, M⟩ := C
  obtain ⟨e0, gl, gs, gk, gm⟩ := hG
  dsimp only at e0 gl gs gk gm
  subst e0
  unfold ab_lcmp at h1
  dsimp only at h1
  split at h1
  · rename_i b a st'
    split at h1
    · rename_i hc
      cases h1
      obtain ⟨vb, sc1, rfl, hvb, gs1⟩ := ab_s_cons gs
      obtain ⟨va, sc2, rfl, hva, gs2⟩ := ab_s_cons gs1
      obtain ⟨y, rfl⟩ := ab_v6 hc.2 hvb
      obtain ⟨x, rfl⟩ := ab_v6 hc.1 hva
      obtain ⟨ext, k1, k2⟩ := ab_any_ok gk (ab_lcmp_in x y) (rfl : ab_any K (-1, 1) = (_, _))
      exact hk _ (List.mem_singleton.mpr rfl) ext (cpc + 1, CL, .int (lg_cmp x y) :: sc2, M) ⟨rfl, ab_l_ap gl, ⟨ab_iv k2, ab_s_ap gs2⟩, k1, ab_m_ap gm⟩
    · cases h1
  · cases h1

noncomputable def ab_dup : ab_O := fun h md P t S => match S.2.2.1 with
  | a :: st => if a.1 ≠ 6 then some [ab_adv S 1 (a :: a :: st)] else none
  | _ => none
theorem ab_dup_ok : ab_Snd cm_dup ab_dup := by
  intro h N M0 md E P t S Ss C ρ k hN h1 hG hk
  obtain ⟨pc, L, st, K, Ca⟩ := S
  obtain ⟨cpc, CL, sc, M⟩ := C
  obtain ⟨e0, gl, gs, gk, gm⟩ := hG
  dsimp only at e0 gl gs gk gm
  subst e0
  unfold ab_dup at h1
  dsimp only at h1
  split at h1
  · rename_i a st'
    split at h1
    · rename_i hc
      cases h1
      obtain ⟨va, sc2, rfl, hva, gs2⟩ := ab_s_cons gs
      refine ⟨?_, ab_fin hk _ (List.mem_singleton.mpr rfl) (cpc + 1, CL, va :: va :: sc2, M) ⟨rfl, gl, ⟨hva, hva, gs2⟩, gk, gm⟩⟩
      rcases ab_cat hva with ⟨q1, -⟩ | ⟨-, q2⟩
      · exact absurd q1 hc
      · exact q2
    · cases h1
  · cases h1

noncomputable def ab_pop : ab_O := fun h md P t S => match S.2.2.1 with
  | a :: st => if a.1 ≠ 6 then some [ab_adv S 1 st] else none
  | _ => none
theorem ab_pop_ok : ab_Snd cm_pop ab_pop := by
  intro h N M0 md E P t S Ss C ρ k hN h1 hG hk
  obtain ⟨pc, L, st, K, Ca⟩ := S
  obtain ⟨cpc, CL, sc, M⟩ := C
  obtain ⟨e0, gl, gs, gk, gm⟩ := hG
  dsimp only at e0 gl gs gk gm
  subst e0
  unfold ab_pop at h1
  dsimp only at h1
  split at h1
  · rename_i a st'
    split at h1
    · rename_i hc
      cases h1
      obtain ⟨va, sc2, rfl, hva, gs2⟩ := ab_s_cons gs
      refine ⟨?_, ab_fin hk _ (List.mem_singleton.mpr rfl) (cpc + 1, CL, sc2, M) ⟨rfl, gl, gs2, gk, gm⟩⟩
      rcases ab_cat hva with ⟨q1, -⟩ | ⟨-, q2⟩
      · exact absurd q1 hc
      · exact q2
    · cases h1
  · cases h1

noncomputable def ab_pop2 : ab_O := fun h md P t S => match S.2.2.1 with
  | a :: st => if a.1 = 6 then some [ab_adv S 1 st] else none
  | _ => none
theorem ab_pop2_ok : ab_Snd cm_pop2 ab_pop2 := by
  intro h N M0 md E P t S Ss C ρ k hN h1 hG hk
  obtain ⟨pc, L, st, K, Ca⟩ := S
  obtain ⟨cpc, CL, sc, M⟩ := C
  obtain ⟨e0, gl, gs, gk, gm⟩ := hG
  dsimp only at e0 gl gs gk gm
  subst e0
  unfold ab_pop2 at h1
  dsimp only at h1
  split at h1
  · rename_i a st'
    split at h1
    · rename_i hc
      cases h1
      obtain ⟨va, sc2, rfl, hva, gs2⟩ := ab_s_cons gs
      obtain ⟨x, rfl⟩ := ab_v6 hc hva
      exact ab_fin hk _ (List.mem_singleton.mpr rfl) (cpc + 1, CL, sc2, M) ⟨rfl, gl, gs2, gk, gm⟩
    · cases h1
  · cases h1

noncomputable def ab_dup2 : ab_O := fun h md P t S => match S.2.2.1 with
  | a :: b :: st => if a.1 ≠ 6 ∧ b.1 ≠ 6 then some [ab_adv S 1 (a :: b :: a :: b :: st)] else none
  | _ => none
theorem ab_dup2_ok : ab_Snd cm_dup2 ab_dup2 := by
  intro h N M0 md E P t S Ss C ρ k hN h1 hG hk
  obtain ⟨pc, L, st, K, Ca⟩ := S
  obtain ⟨cpc, CL, sc, M⟩ := C
  obtain ⟨e0, gl, gs, gk, gm⟩ := hG
  dsimp only at e0 gl gs gk gm
  subst e0
  unfold ab_dup2 at h1
  dsimp only at h1
  split at h1
  · rename_i a b st'
    split at h1
    · rename_i hc
      cases h1
      obtain ⟨va, sc1, rfl, hva, gs1⟩ := ab_s_cons gs
      obtain ⟨vb, sc2, rfl, hvb, gs2⟩ := ab_s_cons gs1
      refine ⟨?_, ?_, ab_fin hk _ (List.mem_singleton.mpr rfl) (cpc + 1, CL, va :: vb :: va :: vb :: sc2, M) ⟨rfl, gl, ⟨hva, hvb, hva, hvb, gs2⟩, gk, gm⟩⟩
      · rcases ab_cat hva with ⟨q1, -⟩ | ⟨-, q2⟩
        · exact absurd q1 hc.1
        · exact q2
      · rcases ab_cat hvb with ⟨q1, -⟩ | ⟨-, q2⟩
        · exact absurd q1 hc.2
        · exact q2
    · cases h1
  · cases h1

noncomputable def ab_iinc : ab_O := fun h md P t S => match ev_at S.2.1 t.1.toNat with
  | some a => if ab_isI a = true ∧ t.1.toNat < P.2.2.2.2.1 then some [(S.1 + 3, ab_st1 S.2.1 t.1.toNat (ab_new S.2.2.2.1 1 a (ab_c t.2.1)).1, S.2.2.1, (ab_new S.2.2.2.1 1 a (ab_c t.2.1)).2, S.2.2.2.2)] else none
  | none => none
theorem ab_iinc_ok : ab_Snd cm_iinc ab_iinc := by
  intro h N M0 md E P t S Ss C ρ k hN h1 hG hk
  obtain ⟨pc, L, st, K, Ca⟩ := S
  obtain ⟨cpc, CL, sc, M⟩ := C
  obtain ⟨e0, gl, gs, gk, gm⟩ := hG
  dsimp only at e0 gl gs gk gm
  subst e0
  unfold ab_iinc at h1
  dsimp only at h1
  split at h1
  · rename_i a ha
    split at h1
    · rename_i hc
      cases h1
      obtain ⟨v, hl, hv⟩ := gl _ (ev_at_mem ha)
      obtain ⟨x, hx, rfl⟩ := ab_vi hc.1 hv
      obtain ⟨ext, k1, k2⟩ := ab_new_ok (op := 1) (b := ab_c t.2.1) gk hx rfl rfl
      unfold cm_iinc
      dsimp only at hl ⊢
      rw [hl]
      exact ⟨hc.2, hk _ (List.mem_singleton.mpr rfl) ext (cpc + 3, cm_st1 CL t.1.toNat (.int (x + Int32.ofInt t.2.1)), sc, M) ⟨rfl, ab_st1_ok (ab_l_ap gl) (ab_iv k2), ab_s_ap gs, k1, ab_m_ap gm⟩⟩
    · cases h1
  · cases h1

noncomputable def ab_fork (r : Nat) (a b : ab_A) (off : Int) (st : List ab_A) (S : ab_S) : Option (List ab_S) := if 0 ≤ (S.1 : Int) + off then some
  ((match ab_br r a b S.2.2.2.1 with
    | some K => [(((S.1 : Int) + off).toNat, S.2.1, st, K, S.2.2.2.2)]
    | none => []) ++ (match ab_br (ab_ngt r) a b S.2.2.2.1 with
    | some K => [(S.1 + 3, S.2.1, st, K, S.2.2.2.2)]
    | none => [])) else none
theorem ab_fork_ok {h : ab_H} {N : cm_M → Prop} {M0 : cm_M} {md : ab_Md} {ρ : List Int32} {k : cm_S → Prop} {pc : Nat} {L : List (Nat × ab_A)} {st st' : List ab_A} {K : ab_K} {Ca : ab_Ca} {CL : List (Nat × Value)} {sc : List Value} {M : cm_M} {r : Nat} {a b : ab_A} {off : Int} {Ss : List ab_S} (hf : ab_fork r a b off st' (pc, L, st, K, Ca) = some Ss) (hk : ∀ S' ∈ Ss, ∀ (ext : List Int32) (C' : cm_S), ab_G h N M0 md (ρ ++ ext) S' C' → k C') (gl : ab_l ρ L CL) (gs : ab_s ρ st' sc) (gk : ab_k ρ K) (gm : ab_m h N M0 md ρ Ca M) {x y : Int32} (hx : ab_i ρ a = some x) (hy : ab_i ρ b = some y) :
    0 ≤ (pc : Int) + off ∧ (ev_cmp r x y = true → k (((pc : Int) + off).toNat, CL, sc, M)) ∧ (ev_cmp r x y = false → k (pc + 3, CL, sc, M)) := by
  unfold ab_fork at hf
  split at hf
  · rename_i h0
    cases hf
    refine ⟨h0, fun hc => ?_, fun hc => ?_⟩
    · obtain ⟨K', e, hk'⟩ := ab_br_ok gk hx hy hc
      refine ab_fin hk (((pc : Int) + off).toNat, L, st', K', Ca) ?_ _ ⟨rfl, gl, gs, hk', gm⟩
      refine List.mem_append_left _ ?_
      dsimp only
      rw [e]
      exact List.mem_singleton.mpr rfl
    · obtain ⟨K', e, hk'⟩ := ab_br_ok gk hx hy (ab_ngt_ok hc)
      refine ab_fin hk (pc + 3, L, st', K', Ca) ?_ _ ⟨rfl, gl, gs, hk', gm⟩
      refine List.mem_append_right _ ?_
      dsimp only
      rw [e]
      exact List.mem_singleton.mpr rfl
  · cases hf
noncomputable def ab_icmp_eq : ab_O := fun h md P t S => match S.2.2.1 with
  | b :: a :: st => if ab_isI a = true ∧ ab_isI b = true then ab_fork 0 a b t.1 st S else none
  | _ => none
theorem ab_icmp_eq_ok : ab_Snd cm_icmp_eq ab_icmp_eq := by
  intro h N M0 md E P t S Ss C ρ k hN h1 hG hk
  obtain ⟨pc, L, st, K, Ca⟩ := S
  obtain ⟨cpc, CL, sc, M⟩ := C
  obtain ⟨e0, gl, gs, gk, gm⟩ := hG
  dsimp only at e0 gl gs gk gm
  subst e0
  unfold ab_icmp_eq at h1
  dsimp only at h1
  split at h1
  · rename_i b a st'
    split at h1
    · rename_i hc
      obtain ⟨vb, sc1, rfl, hvb, gs1⟩ := ab_s_cons gs
      obtain ⟨va, sc2, rfl, hva, gs2⟩ := ab_s_cons gs1
      obtain ⟨y, hy, rfl⟩ := ab_vi hc.2 hvb
      obtain ⟨x, hx, rfl⟩ := ab_vi hc.1 hva
      exact ab_fork_ok h1 hk gl gs2 gk gm hx hy
    · cases h1
  · cases h1

noncomputable def ab_if_eq : ab_O := fun h md P t S => match S.2.2.1 with
  | a :: st => if ab_isI a = true then ab_fork 0 a (ab_c 0) t.1 st S else none
  | _ => none
theorem ab_if_eq_ok : ab_Snd cm_if_eq ab_if_eq := by
  intro h N M0 md E P t S Ss C ρ k hN h1 hG hk
  obtain ⟨pc, L, st, K, Ca⟩ := S
  obtain ⟨cpc, CL, sc, M⟩ := C
  obtain ⟨e0, gl, gs, gk, gm⟩ := hG
  dsimp only at e0 gl gs gk gm
  subst e0
  unfold ab_if_eq at h1
  dsimp only at h1
  split at h1
  · rename_i a st'
    split at h1
    · rename_i hc
      obtain ⟨va, sc2, rfl, hva, gs2⟩ := ab_s_cons gs
      obtain ⟨x, hx, rfl⟩ := ab_vi hc hva
      exact ab_fork_ok h1 hk gl gs2 gk gm hx (show ab_i ρ (ab_c 0) = some 0 from rfl)
    · cases h1
  · cases h1

noncomputable def ab_icmp_ne : ab_O := fun h md P t S => match S.2.2.1 with
  | b :: a :: st => if ab_isI a = true ∧ ab_isI b = true then ab_fork 1 a b t.1 st S else none
  | _ => none
theorem ab_icmp_ne_ok : ab_Snd cm_icmp_ne ab_icmp_ne := by
  intro h N M0 md E P t S Ss C ρ k hN h1 hG hk
  obtain ⟨pc, L, st, K, Ca⟩ := S
  obtain ⟨cpc, CL, sc, M⟩ := C
  obtain ⟨e0, gl, gs, gk, gm⟩ := hG
  dsimp only at e0 gl gs gk gm
  subst e0
  unfold ab_icmp_ne at h1
  dsimp only at h1
  split at h1
  · rename_i b a st'
    split at h1
    · rename_i hc
      obtain ⟨vb, sc1, rfl, hvb, gs1⟩ := ab_s_cons gs
      obtain ⟨va, sc2, rfl, hva, gs2⟩ := ab_s_cons gs1
      obtain ⟨y, hy, rfl⟩ := ab_vi hc.2 hvb
      obtain ⟨x, hx, rfl⟩ := ab_vi hc.1 hva
      exact ab_fork_ok h1 hk gl gs2 gk gm hx hy
    · cases h1
  · cases h1

noncomputable def ab_if_ne : ab_O := fun h md P t S => match S.2.2.1 with
  | a :: st => if ab_isI a = true then ab_fork 1 a (ab_c 0) t.1 st S else none
  | _ => none
theorem ab_if_ne_ok : ab_Snd cm_if_ne ab_if_ne := by
  intro h N M0 md E P t S Ss C ρ k hN h1 hG hk
  obtain ⟨pc, L, st, K, Ca⟩ := S
  obtain ⟨cpc, CL, sc, M⟩ := C
  obtain ⟨e0, gl, gs, gk, gm⟩ := hG
  dsimp only at e0 gl gs gk gm
  subst e0
  unfold ab_if_ne at h1
  dsimp only at h1
  split at h1
  · rename_i a st'
    split at h1
    · rename_i hc
      obtain ⟨va, sc2, rfl, hva, gs2⟩ := ab_s_cons gs
      obtain ⟨x, hx, rfl⟩ := ab_vi hc hva
      exact ab_fork_ok h1 hk gl gs2 gk gm hx (show ab_i ρ (ab_c 0) = some 0 from rfl)
    · cases h1
  · cases h1

noncomputable def ab_icmp_lt : ab_O := fun h md P t S => match S.2.2.1 with
  | b :: a :: st => if ab_isI a = true ∧ ab_isI b = true then ab_fork 2 a b t.1 st S else none
  | _ => none
theorem ab_icmp_lt_ok : ab_Snd cm_icmp_lt ab_icmp_lt := by
  intro h N M0 md E P t S Ss C ρ k hN h1 hG hk
  obtain ⟨pc, L, st, K, Ca⟩ := S
  obtain ⟨cpc, CL, sc, M⟩ := C
  obtain ⟨e0, gl, gs, gk, gm⟩ := hG
  dsimp only at e0 gl gs gk gm
  subst e0
  unfold ab_icmp_lt at h1
  dsimp only at h1
  split at h1
  · rename_i b a st'
    split at h1
    · rename_i hc
      obtain ⟨vb, sc1, rfl, hvb, gs1⟩ := ab_s_cons gs
      obtain ⟨va, sc2, rfl, hva, gs2⟩ := ab_s_cons gs1
      obtain ⟨y, hy, rfl⟩ := ab_vi hc.2 hvb
      obtain ⟨x, hx, rfl⟩ := ab_vi hc.1 hva
      exact ab_fork_ok h1 hk gl gs2 gk gm hx hy
    · cases h1
  · cases h1

noncomputable def ab_if_lt : ab_O := fun h md P t S => match S.2.2.1 with
  | a :: st => if ab_isI a = true then ab_fork 2 a (ab_c 0) t.1 st S else none
  | _ => none
theorem ab_if_lt_ok : ab_Snd cm_if_lt ab_if_lt := by
  intro h N M0 md E P t S Ss C ρ k hN h1 hG hk
  obtain ⟨pc, L, st, K, Ca⟩ := S
  obtain ⟨cpc, CL, sc, M⟩ := C
  obtain ⟨e0, gl, gs, gk, gm⟩ := hG
  dsimp only at e0 gl gs gk gm
  subst e0
  unfold ab_if_lt at h1
  dsimp only at h1
  split at h1
  · rename_i a st'
    split at h1
    · rename_i hc
      obtain ⟨va, sc2, rfl, hva, gs2⟩ := ab_s_cons gs
      obtain ⟨x, hx, rfl⟩ := ab_vi hc hva
      exact ab_fork_ok h1 hk gl gs2 gk gm hx (show ab_i ρ (ab_c 0) = some 0 from rfl)
    · cases h1
  · cases h1

noncomputable def ab_icmp_ge : ab_O := fun h md P t S => match S.2.2.1 with
  | b :: a :: st => if ab_isI a = true ∧ ab_isI b = true then ab_fork 3 a b t.1 st S else none
  | _ => none
theorem ab_icmp_ge_ok : ab_Snd cm_icmp_ge ab_icmp_ge := by
  intro h N M0 md E P t S Ss C ρ k hN h1 hG hk
  obtain ⟨pc, L, st, K, Ca⟩ := S
  obtain ⟨cpc, CL, sc, M⟩ := C
  obtain ⟨e0, gl, gs, gk, gm⟩ := hG
  dsimp only at e0 gl gs gk gm
  subst e0
  unfold ab_icmp_ge at h1
  dsimp only at h1
  split at h1
  · rename_i b a st'
    split at h1
    · rename_i hc
      obtain ⟨vb, sc1, rfl, hvb, gs1⟩ := ab_s_cons gs
      obtain ⟨va, sc2, rfl, hva, gs2⟩ := ab_s_cons gs1
      obtain ⟨y, hy, rfl⟩ := ab_vi hc.2 hvb
      obtain ⟨x, hx, rfl⟩ := ab_vi hc.1 hva
      exact ab_fork_ok h1 hk gl gs2 gk gm hx hy
    · cases h1
  · cases h1

noncomputable def ab_if_ge : ab_O := fun h md P t S => match S.2.2.1 with
  | a :: st => if ab_isI a = true then ab_fork 3 a (ab_c 0) t.1 st S else none
  | _ => none
theorem ab_if_ge_ok : ab_Snd cm_if_ge ab_if_ge := by
  intro h N M0 md E P t S Ss C ρ k hN h1 hG hk
  obtain ⟨pc, L, st, K, Ca⟩ := S
  obtain ⟨cpc, CL, sc, M⟩ := C
  obtain ⟨e0, gl, gs, gk, gm⟩ := hG
  dsimp only at e0 gl gs gk gm
  subst e0
  unfold ab_if_ge at h1
  dsimp only at h1
  split at h1
  · rename_i a st'
    split at h1
    · rename_i hc
      obtain ⟨va, sc2, rfl, hva, gs2⟩ := ab_s_cons gs
      obtain ⟨x, hx, rfl⟩ := ab_vi hc hva
      exact ab_fork_ok h1 hk gl gs2 gk gm hx (show ab_i ρ (ab_c 0) = some 0 from rfl)
    · cases h1
  · cases h1

noncomputable def ab_icmp_gt : ab_O := fun h md P t S => match S.2.2.1 with
  | b :: a :: st => if ab_isI a = true ∧ ab_isI b = true then ab_fork 4 a b t.1 st S else none
  | _ => none
theorem ab_icmp_gt_ok : ab_Snd cm_icmp_gt ab_icmp_gt := by
  intro h N M0 md E P t S Ss C ρ k hN h1 hG hk
  obtain ⟨pc, L, st, K, Ca⟩ := S
  obtain ⟨cpc, CL, sc, M⟩ := C
  obtain ⟨e0, gl, gs, gk, gm⟩ := hG
  dsimp only at e0 gl gs gk gm
  subst e0
  unfold ab_icmp_gt at h1
  dsimp only at h1
  split at h1
  · rename_i b a st'
    split at h1
    · rename_i hc
      obtain ⟨vb, sc1, rfl, hvb, gs1⟩ := ab_s_cons gs
      obtain ⟨va, sc2, rfl, hva, gs2⟩ := ab_s_cons gs1
      obtain ⟨y, hy, rfl⟩ := ab_vi hc.2 hvb
      obtain ⟨x, hx, rfl⟩ := ab_vi hc.1 hva
      exact ab_fork_ok h1 hk gl gs2 gk gm hx hy
    · cases h1
  · cases h1

noncomputable def ab_if_gt : ab_O := fun h md P t S => match S.2.2.1 with
  | a :: st => if ab_isI a = true then ab_fork 4 a (ab_c 0) t.1 st S else none
  | _ => none
theorem ab_if_gt_ok : ab_Snd cm_if_gt ab_if_gt := by
  intro h N M0 md E P t S Ss C ρ k hN h1 hG hk
  obtain ⟨pc, L, st, K, Ca⟩ := S
  obtain ⟨cpc, CL, sc, M⟩ := C
  obtain ⟨e0, gl, gs, gk, gm⟩ := hG
  dsimp only at e0 gl gs gk gm
  subst e0
  unfold ab_if_gt at h1
  dsimp only at h1
  split at h1
  · rename_i a st'
    split at h1
    · rename_i hc
      obtain ⟨va, sc2, rfl, hva, gs2⟩ := ab_s_cons gs
      obtain ⟨x, hx, rfl⟩ := ab_vi hc hva
      exact ab_fork_ok h1 hk gl gs2 gk gm hx (show ab_i ρ (ab_c 0) = some 0 from rfl)
    · cases h1
  · cases h1

noncomputable def ab_icmp_le : ab_O := fun h md P t S => match S.2.2.1 with
  | b :: a :: st => if ab_isI a = true ∧ ab_isI b = true then ab_fork 5 a b t.1 st S else none
  | _ => none
theorem ab_icmp_le_ok : ab_Snd cm_icmp_le ab_icmp_le := by
  intro h N M0 md E P t S Ss C ρ k hN h1 hG hk
  obtain ⟨pc, L, st, K, Ca⟩ := S
  obtain ⟨cpc, CL, sc, M⟩ := C
  obtain ⟨e0, gl, gs, gk, gm⟩ := hG
  dsimp only at e0 gl gs gk gm
  subst e0
  unfold ab_icmp_le at h1
  dsimp only at h1
  split at h1
  · rename_i b a st'
    split at h1
    · rename_i hc
      obtain ⟨vb, sc1, rfl, hvb, gs1⟩ := ab_s_cons gs
      obtain ⟨va, sc2, rfl, hva, gs2⟩ := ab_s_cons gs1
      obtain ⟨y, hy, rfl⟩ := ab_vi hc.2 hvb
      obtain ⟨x, hx, rfl⟩ := ab_vi hc.1 hva
      exact ab_fork_ok h1 hk gl gs2 gk gm hx hy
    · cases h1
  · cases h1

noncomputable def ab_if_le : ab_O := fun h md P t S => match S.2.2.1 with
  | a :: st => if ab_isI a = true then ab_fork 5 a (ab_c 0) t.1 st S else none
  | _ => none
theorem ab_if_le_ok : ab_Snd cm_if_le ab_if_le := by
  intro h N M0 md E P t S Ss C ρ k hN h1 hG hk
  obtain ⟨pc, L, st, K, Ca⟩ := S
  obtain ⟨cpc, CL, sc, M⟩ := C
  obtain ⟨e0, gl, gs, gk, gm⟩ := hG
  dsimp only at e0 gl gs gk gm
  subst e0
  unfold ab_if_le at h1
  dsimp only at h1
  split at h1
  · rename_i a st'
    split at h1
    · rename_i hc
      obtain ⟨va, sc2, rfl, hva, gs2⟩ := ab_s_cons gs
      obtain ⟨x, hx, rfl⟩ := ab_vi hc hva
      exact ab_fork_ok h1 hk gl gs2 gk gm hx (show ab_i ρ (ab_c 0) = some 0 from rfl)
    · cases h1
  · cases h1

noncomputable def ab_goto : ab_O := fun h md P t S => if 0 ≤ (S.1 : Int) + t.1 then some [(((S.1 : Int) + t.1).toNat, S.2)] else none
theorem ab_goto_ok : ab_Snd cm_goto ab_goto := by
  intro h N M0 md E P t S Ss C ρ k hN h1 hG hk
  obtain ⟨pc, L, st, K, Ca⟩ := S
  obtain ⟨cpc, CL, sc, M⟩ := C
  obtain ⟨e0, gl, gs, gk, gm⟩ := hG
  dsimp only at e0 gl gs gk gm
  subst e0
  unfold ab_goto at h1
  dsimp only at h1
  split at h1
  · rename_i h0
    cases h1
    exact ⟨h0, ab_fin hk _ (List.mem_singleton.mpr rfl) (((cpc : Int) + t.1).toNat, CL, sc, M) ⟨rfl, gl, gs, gk, gm⟩⟩
  · cases h1

noncomputable def ab_swj (a : ab_A) (lo : Int) (st : List ab_A) (S : ab_S) : Nat → List Int → List ab_S
  | _, [] => []
  | j, o :: offs => (match ab_br 0 a (ab_c (Int32.ofInt (lo + (j : Int))).toInt) S.2.2.2.1 with
    | some K => [(((S.1 : Int) + o).toNat, S.2.1, st, K, S.2.2.2.2)]
    | none => []) ++ ab_swj a lo st S (j + 1) offs
theorem ab_swj_in {a : ab_A} {lo : Int} {st : List ab_A} {S : ab_S} {K : ab_K} : ∀ (offs : List Int) (i j : Nat) (o : Int), offs[j]? = some o → ab_br 0 a (ab_c (Int32.ofInt (lo + ((i + j : Nat) : Int))).toInt) S.2.2.2.1 = some K → (((S.1 : Int) + o).toNat, S.2.1, st, K, S.2.2.2.2) ∈ ab_swj a lo st S i offs
  | [], i, j, o, h, _ => by cases h
  | q :: offs, i, 0, o, h, hb => by
    cases h
    unfold ab_swj
    refine List.mem_append_left _ ?_
    rw [Nat.add_zero] at hb
    rw [hb]
    exact List.mem_singleton.mpr rfl
  | q :: offs, i, j + 1, o, h, hb => by
    unfold ab_swj
    refine List.mem_append_right _ ?_
    exact ab_swj_in offs (i + 1) j o h (by rw [show i + 1 + j = i + (j + 1) by omega]; exact hb)
noncomputable def ab_sw : ab_O := fun h md P t S => match t.2.2.2, S.2.2.1 with
  | _ :: offs, a :: st => if ab_isI a = true ∧ t.2.2.1 - t.2.1 + 1 = (offs.length : Int) ∧ 0 ≤ (S.1 : Int) + t.1 ∧ offs.all (fun o => decide (0 ≤ (S.1 : Int) + o)) = true ∧ -2147483648 ≤ t.2.1 ∧ t.2.2.1 ≤ 2147483647 ∧ t.2.1 ≤ 2147483647 ∧ -2147483648 ≤ t.2.2.1 then some (ab_swj a t.2.1 st S 0 offs ++ ((match ab_br 2 a (ab_c t.2.1) S.2.2.2.1 with
      | some K => [(((S.1 : Int) + t.1).toNat, S.2.1, st, K, S.2.2.2.2)]
      | none => []) ++ (match ab_br 4 a (ab_c t.2.2.1) S.2.2.2.1 with
      | some K => [(((S.1 : Int) + t.1).toNat, S.2.1, st, K, S.2.2.2.2)]
      | none => []))) else none
  | _, _ => none
theorem ab_sw_ok : ab_Snd cm_sw ab_sw := by
  intro h N M0 md E P t S Ss C ρ k hN h1 hG hk
  obtain ⟨pc, L, st, K, Ca⟩ := S
  obtain ⟨cpc, CL, sc, M⟩ := C
  obtain ⟨e0, gl, gs, gk, gm⟩ := hG
  dsimp only at e0 gl gs gk gm
  subst e0
  obtain ⟨dflt, lo, hi, offs0⟩ := t
  cases offs0 with
  | nil => cases h1
  | cons len offs =>
    cases st with
    | nil => cases h1
    | cons a st' =>
      unfold ab_sw at h1
      dsimp only at h1
      split at h1
      · rename_i hc
        cases h1
        obtain ⟨hI, hlen, h0, hall, hlo, hhi, hlo2, hhi2⟩ := hc
        obtain ⟨va, sc2, rfl, hva, gs2⟩ := ab_s_cons gs
        obtain ⟨x, hx, rfl⟩ := ab_vi hI hva
        have ex : ∀ n : Int, -2147483648 ≤ n → n ≤ 2147483647 → (Int32.ofInt n).toInt = n := by
          intro n q1 q2
          rw [Int32.toInt_ofInt]
          exact ev_bm q1 q2
        refine ⟨hlen, h0, hall, fun hq => ?_, fun j o ho hj => ?_⟩
        · rcases hq with hq | hq
          · obtain ⟨K', e, hk'⟩ := ab_br_ok (r := 2) (b := ab_c lo) gk hx rfl (by
              unfold ev_cmp
              refine decide_eq_true (Int32.lt_iff_toInt_lt.mpr ?_)
              show x.toInt < (Int32.ofInt lo).toInt
              dsimp only at hq hlen
              rw [ex lo hlo hlo2]
              exact hq)
            refine ab_fin hk (((cpc : Int) + dflt).toNat, L, st', K', Ca) ?_ _ ⟨rfl, gl, gs2, hk', gm⟩
            refine List.mem_append_right _ (List.mem_append_left _ ?_)
            rw [e]
            exact List.mem_singleton.mpr rfl
          · obtain ⟨K', e, hk'⟩ := ab_br_ok (r := 4) (b := ab_c hi) gk hx rfl (by
              unfold ev_cmp
              refine decide_eq_true (Int32.lt_iff_toInt_lt.mpr ?_)
              show (Int32.ofInt hi).toInt < x.toInt
              dsimp only at hq hlen
              rw [ex hi hhi2 hhi]
              exact hq)
            refine ab_fin hk (((cpc : Int) + dflt).toNat, L, st', K', Ca) ?_ _ ⟨rfl, gl, gs2, hk', gm⟩
            refine List.mem_append_right _ (List.mem_append_right _ ?_)
            rw [e]
            exact List.mem_singleton.mpr rfl
        · dsimp only at hj
          obtain ⟨K', e, hk'⟩ := ab_br_ok (r := 0) (b := ab_c (Int32.ofInt (lo + ((0 + j : Nat) : Int))).toInt) gk hx (ab_c_at ρ _) (by
            unfold ev_cmp
            refine decide_eq_true ?_
            rw [Nat.zero_add, ← hj, Int32.ofInt_toInt])
          exact ab_fin hk (((cpc : Int) + o).toNat, L, st', K', Ca) (List.mem_append_left _ (ab_swj_in (S := (cpc, L, a :: st', K, Ca)) offs 0 j o ho e)) _ ⟨rfl, gl, gs2, hk', gm⟩
      · cases h1
noncomputable def ab_fk (c : Nat) : Nat × Nat := cond (Nat.beq c 2) (4, 14) (cond (Nat.beq c 124) (9, 35) (cond (Nat.beq c 0) (8, 15) (cond (Nat.beq c 127) (100, 213) (cond (Nat.beq c 128) (100, 213) (cond (Nat.beq c 6) (7, 19) (cond (Nat.beq c 19) (7, 19) (cond (Nat.beq c 98) (0, 5) (cond (Nat.beq c 4) (100, 16) (cond (Nat.beq c 5) (100, 16) (cond (Nat.beq c 3) (102, 16) (cond (Nat.beq c 126) (100, 8) (cond (Nat.beq c 1) (101, 900) (cm_kind c)))))))))))))
theorem ab_fk_eq (c : Nat) : ab_fk c = cm_kind c := by
  unfold ab_fk
  cases h0 : Nat.beq c 2 with
  | true => exact (congrArg cm_kind (Nat.eq_of_beq_eq_true h0)).symm
  | false =>
    cases h1 : Nat.beq c 124 with
    | true => exact (congrArg cm_kind (Nat.eq_of_beq_eq_true h1)).symm
    | false =>
      cases h2 : Nat.beq c 0 with
      | true => exact (congrArg cm_kind (Nat.eq_of_beq_eq_true h2)).symm
      | false =>
        cases h3 : Nat.beq c 127 with
        | true => exact (congrArg cm_kind (Nat.eq_of_beq_eq_true h3)).symm
        | false =>
          cases h4 : Nat.beq c 128 with
          | true => exact (congrArg cm_kind (Nat.eq_of_beq_eq_true h4)).symm
          | false =>
            cases h5 : Nat.beq c 6 with
            | true => exact (congrArg cm_kind (Nat.eq_of_beq_eq_true h5)).symm
            | false =>
              cases h6 : Nat.beq c 19 with
              | true => exact (congrArg cm_kind (Nat.eq_of_beq_eq_true h6)).symm
              | false =>
                cases h7 : Nat.beq c 98 with
                | true => exact (congrArg cm_kind (Nat.eq_of_beq_eq_true h7)).symm
                | false =>
                  cases h8 : Nat.beq c 4 with
                  | true => exact (congrArg cm_kind (Nat.eq_of_beq_eq_true h8)).symm
                  | false =>
                    cases h9 : Nat.beq c 5 with
                    | true => exact (congrArg cm_kind (Nat.eq_of_beq_eq_true h9)).symm
                    | false =>
                      cases h10 : Nat.beq c 3 with
                      | true => exact (congrArg cm_kind (Nat.eq_of_beq_eq_true h10)).symm
                      | false =>
                        cases h11 : Nat.beq c 126 with
                        | true => exact (congrArg cm_kind (Nat.eq_of_beq_eq_true h11)).symm
                        | false =>
                          cases h12 : Nat.beq c 1 with
                          | true => exact (congrArg cm_kind (Nat.eq_of_beq_eq_true h12)).symm
                          | false =>
                            rfl
/-- all these cells are alike -/
noncomputable def ab_same (cs : List Nat) (kd : Nat × Nat) : Bool := cs.all (fun c => Nat.beq (ab_fk c).1 kd.1 && Nat.beq (ab_fk c).2 kd.2)
theorem ab_same_in {cs : List Nat} {kd : Nat × Nat} (h : ab_same cs kd = true) {c : Nat} (hc : c ∈ cs) : cm_kind c = kd := by
  have h1 := List.all_eq_true.mp h c hc
  rw [Bool.and_eq_true] at h1
  rw [← ab_fk_eq]
  exact Prod.ext (Nat.eq_of_beq_eq_true h1.1) (Nat.eq_of_beq_eq_true h1.2)
noncomputable def ab_kd (cs : List Nat) : Nat × Nat := match cs with
  | c :: _ => ab_fk c
  | [] => (999, 0)
/-- which numbers a value can be -/
noncomputable def ab_rl (b : Int × Int) : Option (List Int) := if b.2 - b.1 < 40 then some ((List.range (b.2 - b.1 + 1).toNat).map (fun (j : Nat) => b.1 + (j : Int))) else none
theorem ab_rl_in {b : Int × Int} {l : List Int} {x : Int32} (h : ab_rl b = some l) (hx : ev_inb b x) : x.toInt ∈ l := by
  unfold ab_rl at h
  split at h
  · cases h
    obtain ⟨h1, h2⟩ := hx
    exact List.mem_map.mpr ⟨(x.toInt - b.1).toNat, List.mem_range.mpr (by omega), by omega⟩
  · cases h
noncomputable def ab_vals : Nat → ab_K → ab_A → Option (List Int)
  | 0, K, a => ab_rl (ab_bd K a)
  | n + 1, K, a => if a.1 = 3 then (match K[a.2.1.toNat]? with
    | some r => if r.2.2.1 = 1 ∨ r.2.2.1 = 2 ∨ r.2.2.1 = 3 then (match ab_vals n K r.2.2.2.1, ab_vals n K r.2.2.2.2 with
        | some l1, some l2 => if l1.length * l2.length ≤ 200 then some (l1.flatMap (fun x => l2.map (fun y => (ev_f r.2.2.1 (Int32.ofInt x) (Int32.ofInt y)).toInt))) else ab_rl (ab_bd K a)
        | _, _ => ab_rl (ab_bd K a)) else ab_rl (ab_bd K a)
    | none => ab_rl (ab_bd K a)) else ab_rl (ab_bd K a)
theorem ab_vals_in {ρ : List Int32} {K : ab_K} (hk : ab_k ρ K) : ∀ (n : Nat) {a : ab_A} {x : Int32} {l : List Int}, ab_i ρ a = some x → ab_vals n K a = some l → x.toInt ∈ l
  | 0, a, x, l, ha, h => ab_rl_in h (ab_bd_in hk ha)
  | n + 1, a, x, l, ha, h => by
    unfold ab_vals at h
    split at h
    · rename_i h3
      split at h
      · rename_i r hr
        split at h
        · rename_i hop
          split at h
          · rename_i l1 l2 e1 e2
            split at h
            · cases h
              have hx : ρ[a.2.1.toNat]? = some x := by
                unfold ab_i at ha
                rw [h3] at ha
                exact ha
              rcases (hk.2 _ r x hr hx).2 with hz | ⟨y, z, hy, hz, e⟩
              · omega
              · have i1 := ab_vals_in hk n hy e1
                have i2 := ab_vals_in hk n hz e2
                exact List.mem_flatMap.mpr ⟨y.toInt, i1, List.mem_map.mpr ⟨z.toInt, i2, by rw [Int32.ofInt_toInt, Int32.ofInt_toInt, ← e]⟩⟩
            · exact ab_rl_in h (ab_bd_in hk ha)
          · exact ab_rl_in h (ab_bd_in hk ha)
        · exact ab_rl_in h (ab_bd_in hk ha)
      · exact ab_rl_in h (ab_bd_in hk ha)
    · exact ab_rl_in h (ab_bd_in hk ha)
/-- a number within an array: which places -/
noncomputable def ab_idx (K : ab_K) (a : ab_A) (len : Nat) : Option ab_Ix := match ab_vals 4 K a with
  | some l => if l.all (fun x => decide (0 ≤ x) && decide (x < (len : Int))) = true then some (some (l.map Int.toNat)) else (if 0 ≤ (ab_bd K a).1 ∧ (ab_bd K a).2 < (len : Int) then some (some (l.map Int.toNat)) else none)
  | none => if 0 ≤ (ab_bd K a).1 ∧ (ab_bd K a).2 < (len : Int) then some none else none
theorem ab_idx_ok {ρ : List Int32} {K : ab_K} {a : ab_A} {x : Int32} {len : Nat} {ix : ab_Ix} (hk : ab_k ρ K) (ha : ab_i ρ a = some x) (h : ab_idx K a len = some ix) : 0 ≤ x.toInt ∧ x.toInt < (len : Int) ∧ ab_ixin ix x.toNatClampNeg := by
  have hb := ab_bd_in hk ha
  unfold ab_idx at h
  split at h
  · rename_i l hl
    have hin := ab_vals_in hk 4 ha hl
    have hm : x.toNatClampNeg ∈ l.map Int.toNat := List.mem_map.mpr ⟨x.toInt, hin, rfl⟩
    split at h
    · rename_i hall
      cases h
      have := List.all_eq_true.mp hall _ hin
      simp only [Bool.and_eq_true, decide_eq_true_eq] at this
      exact ⟨this.1, this.2, hm⟩
    · split at h
      · rename_i hc
        cases h
        obtain ⟨b1, b2⟩ := hb
        exact ⟨by omega, by omega, hm⟩
      · cases h
  · split at h
    · rename_i hc
      cases h
      obtain ⟨b1, b2⟩ := hb
      exact ⟨by omega, by omega, trivial⟩
    · cases h
noncomputable def ab_get : ab_O := fun h md P t S => match S.2.2.1 with
  | x :: st => if x.1 = 1 ∧ ab_same x.2.2 (ab_kd x.2.2) = true ∧ (ab_kd x.2.2).1 = t.1.toNat ∧ t.2.1.toNat < (ab_kd x.2.2).2 then (match cm_ft t.1.toNat t.2.1.toNat with
      | 2 => some [ab_adv S 3 ((6, 0, []) :: st)]
      | 3 => (match ab_ldR h S.2.2.2.2 x.2.2 [t.2.1.toNat] with
        | some a => some [ab_adv S 3 (a :: st)]
        | none => none)
      | 0 => some [(S.1 + 3, S.2.1, (ab_ldI h S.2.2.2.1 S.2.2.2.2 x.2.2 (some [t.2.1.toNat])).1 :: st, (ab_ldI h S.2.2.2.1 S.2.2.2.2 x.2.2 (some [t.2.1.toNat])).2)]
      | _ => none) else none
  | _ => none
theorem ab_get_ok : ab_Snd cm_get ab_get := by
  intro h N M0 md E P t S Ss C ρ k hN h1 hG hk
  obtain ⟨pc, L, st, K, Ca⟩ := S
  obtain ⟨cpc, CL, sc, M⟩ := C
  obtain ⟨e0, gl, gs, gk, gm⟩ := hG
  dsimp only at e0 gl gs gk gm
  subst e0
  unfold ab_get at h1
  dsimp only at h1
  split at h1
  · rename_i x st'
    split at h1
    · rename_i hc
      obtain ⟨hx1, hsm, hk1, hk2⟩ := hc
      obtain ⟨vx, sc2, rfl, hvx, gs2⟩ := ab_s_cons gs
      obtain ⟨c, hc, rfl⟩ := ab_v1 hx1 hvx
      have hkc := ab_same_in hsm hc
      refine ⟨by rw [hkc]; exact hk1, by rw [hkc]; exact hk2, ?_⟩
      split at h1
      · rename_i e
        cases h1
        rw [e]
        exact ab_fin hk _ (List.mem_singleton.mpr rfl) (cpc + 3, CL, .long (M.2.1 c t.2.1.toNat) :: sc2, M) ⟨rfl, gl, ⟨⟨_, rfl⟩, gs2⟩, gk, gm⟩
      · rename_i e
        split at h1
        · rename_i a ha
          cases h1
          rw [e]
          exact ab_fin hk _ (List.mem_singleton.mpr rfl) (cpc + 3, CL, cm_rq (M.2.2 c t.2.1.toNat) :: sc2, M) ⟨rfl, gl, ⟨ab_ldR_ok gm ha hc (List.mem_singleton.mpr rfl), gs2⟩, gk, gm⟩
        · cases h1
      · rename_i e
        cases h1
        rw [e]
        obtain ⟨ext, k1, k2, k3⟩ := ab_ldI_ok (i := t.2.1.toNat) hN gk gm (rfl : ab_ldI h K Ca x.2.2 (some [t.2.1.toNat]) = (_, _, _)) hc (List.mem_singleton.mpr rfl)
        exact hk _ (List.mem_singleton.mpr rfl) ext (cpc + 3, CL, .int (M.1 c t.2.1.toNat) :: sc2, M) ⟨rfl, ab_l_ap gl, ⟨ab_iv k2, ab_s_ap gs2⟩, k1, k3⟩
      · cases h1
    · cases h1
  · cases h1

noncomputable def ab_put : ab_O := fun h md P t S => match S.2.2.1 with
  | a :: x :: st => if x.1 = 1 ∧ ab_same x.2.2 (ab_kd x.2.2) = true ∧ (ab_kd x.2.2).1 = t.1.toNat ∧ t.2.1.toNat < (ab_kd x.2.2).2 ∧ cm_fin t.1.toNat t.2.1.toNat = false then (match cm_ft t.1.toNat t.2.1.toNat with
      | 2 => if a.1 = 6 ∧ ab_stL h md x.2.2 (some [t.2.1.toNat]) = true then some [ab_adv S 3 st] else none
      | 3 => if a.1 = 1 ∧ ab_stR h md a x.2.2 t.2.1.toNat = true then some [(S.1 + 3, S.2.1, st, S.2.2.2.1, ab_keep S.2.2.2.2 x.2.2 (some [t.2.1.toNat]) a)] else none
      | 0 => if ab_isI a = true ∧ (cm_isB t.1.toNat t.2.1.toNat = true → 0 ≤ (ab_bd S.2.2.2.1 a).1 ∧ (ab_bd S.2.2.2.1 a).2 ≤ 1) ∧ ab_stI h md (ab_bd S.2.2.2.1 a) x.2.2 (some [t.2.1.toNat]) = true then some [(S.1 + 3, S.2.1, st, S.2.2.2.1, ab_keep S.2.2.2.2 x.2.2 (some [t.2.1.toNat]) a)] else none
      | _ => none) else none
  | _ => none
theorem ab_put_ok : ab_Snd cm_put ab_put := by
  intro h N M0 md E P t S Ss C ρ k hN h1 hG hk
  obtain ⟨pc, L, st, K, Ca⟩ := S
  obtain ⟨cpc, CL, sc, M⟩ := C
  obtain ⟨e0, gl, gs, gk, gm⟩ := hG
  dsimp only at e0 gl gs gk gm
  subst e0
  unfold ab_put at h1
  dsimp only at h1
  split at h1
  · rename_i a x st'
    split at h1
    · rename_i hc
      obtain ⟨hx1, hsm, hk1, hk2, hfin⟩ := hc
      obtain ⟨va, sc1, rfl, hva, gs1⟩ := ab_s_cons gs
      obtain ⟨vx, sc2, rfl, hvx, gs2⟩ := ab_s_cons gs1
      obtain ⟨c, hc, rfl⟩ := ab_v1 hx1 hvx
      have hkc := ab_same_in hsm hc
      split at h1
      · rename_i e
        split at h1
        · rename_i hq
          cases h1
          obtain ⟨z, rfl⟩ := ab_v6 hq.1 hva
          exact ⟨by rw [hkc]; exact hk1, by rw [hkc]; exact hk2, hfin, e, ab_fin hk _ (List.mem_singleton.mpr rfl) (cpc + 3, CL, sc2, cm_wl M c t.2.1.toNat z) ⟨rfl, gl, gs2, gk, ab_stL_ok hN gm hq.2 hc (List.mem_singleton.mpr rfl)⟩⟩
        · cases h1
      · rename_i e
        split at h1
        · rename_i hq
          cases h1
          have hva0 := hva
          obtain ⟨z, hz, rfl⟩ := ab_v1 hq.1 hva
          exact ⟨by rw [hkc]; exact hk1, by rw [hkc]; exact hk2, hfin, e, ab_fin hk _ (List.mem_singleton.mpr rfl) (cpc + 3, CL, sc2, cm_wr M c t.2.1.toNat (some z)) ⟨rfl, gl, gs2, gk, ab_stR_ok (r := some z) hN gm hq.2 hc (by unfold ab_isI; rw [hq.1]; rfl) hva0⟩⟩
        · cases h1
      · rename_i e
        split at h1
        · rename_i hq
          cases h1
          obtain ⟨z, hz, rfl⟩ := ab_vi hq.1 hva
          have hb := ab_bd_in gk hz
          refine ⟨by rw [hkc]; exact hk1, by rw [hkc]; exact hk2, hfin, ⟨e, fun hB => ?_⟩, ab_fin hk _ (List.mem_singleton.mpr rfl) (cpc + 3, CL, sc2, cm_wi M c t.2.1.toNat z) ⟨rfl, gl, gs2, gk, ab_stI_ok hN gm hq.2.2 hc (List.mem_singleton.mpr rfl) hz hb⟩⟩
          have h2 := hq.2.1 hB
          obtain ⟨b1, b2⟩ := hb
          have : z.toInt = 0 ∨ z.toInt = 1 := by omega
          rcases this with h0 | h0
          · exact Or.inl (Int32.toInt_inj.mp (by rw [h0]; rfl))
          · exact Or.inr (Int32.toInt_inj.mp (by rw [h0]; rfl))
        · cases h1
      · cases h1
    · cases h1
  · cases h1

noncomputable def ab_iaload : ab_O := fun h md P t S => match S.2.2.1 with
  | i :: x :: st => if x.1 = 1 ∧ ab_isI i = true ∧ ab_same x.2.2 (ab_kd x.2.2) = true ∧ (ab_kd x.2.2).1 = 100 + 0 then (match ab_idx S.2.2.2.1 i (ab_kd x.2.2).2 with
      | some ix => some [(S.1 + 1, S.2.1, (ab_ldI h S.2.2.2.1 S.2.2.2.2 x.2.2 ix).1 :: st, (ab_ldI h S.2.2.2.1 S.2.2.2.2 x.2.2 ix).2)]
      | none => none) else none
  | _ => none
theorem ab_iaload_ok : ab_Snd cm_iaload ab_iaload := by
  intro h N M0 md E P t S Ss C ρ k hN h1 hG hk
  obtain ⟨pc, L, st, K, Ca⟩ := S
  obtain ⟨cpc, CL, sc, M⟩ := C
  obtain ⟨e0, gl, gs, gk, gm⟩ := hG
  dsimp only at e0 gl gs gk gm
  subst e0
  unfold ab_iaload at h1
  dsimp only at h1
  split at h1
  · rename_i i x st'
    split at h1
    · rename_i hc
      obtain ⟨hx1, hi0, hsm, hk1⟩ := hc
      obtain ⟨vi, sc1, rfl, hvi, gs1⟩ := ab_s_cons gs
      obtain ⟨vx, sc2, rfl, hvx, gs2⟩ := ab_s_cons gs1
      obtain ⟨j, hj, rfl⟩ := ab_vi hi0 hvi
      obtain ⟨c, hc, rfl⟩ := ab_v1 hx1 hvx
      have hkc := ab_same_in hsm hc
      split at h1
      · rename_i ix hix
        cases h1
        obtain ⟨q1, q2, q3⟩ := ab_idx_ok gk hj hix
        obtain ⟨ext, k1, k2, k3⟩ := ab_ldI_ok (i := j.toNatClampNeg) hN gk gm (rfl : ab_ldI h K Ca x.2.2 ix = (_, _, _)) hc q3
        exact ⟨by rw [hkc]; exact hk1, q1, by rw [hkc]; exact q2, hk _ (List.mem_singleton.mpr rfl) ext (cpc + 1, CL, .int (M.1 c j.toNatClampNeg) :: sc2, M) ⟨rfl, ab_l_ap gl, ⟨ab_iv k2, ab_s_ap gs2⟩, k1, k3⟩⟩
      · cases h1
    · cases h1
  · cases h1

noncomputable def ab_baload : ab_O := fun h md P t S => match S.2.2.1 with
  | i :: x :: st => if x.1 = 1 ∧ ab_isI i = true ∧ ab_same x.2.2 (ab_kd x.2.2) = true ∧ (ab_kd x.2.2).1 = 100 + 1 then (match ab_idx S.2.2.2.1 i (ab_kd x.2.2).2 with
      | some ix => some [(S.1 + 1, S.2.1, (ab_ldI h S.2.2.2.1 S.2.2.2.2 x.2.2 ix).1 :: st, (ab_ldI h S.2.2.2.1 S.2.2.2.2 x.2.2 ix).2)]
      | none => none) else none
  | _ => none
theorem ab_baload_ok : ab_Snd cm_baload ab_baload := by
  intro h N M0 md E P t S Ss C ρ k hN h1 hG hk
  obtain ⟨pc, L, st, K, Ca⟩ := S
  obtain ⟨cpc, CL, sc, M⟩ := C
  obtain ⟨e0, gl, gs, gk, gm⟩ := hG
  dsimp only at e0 gl gs gk gm
  subst e0
  unfold ab_baload at h1
  dsimp only at h1
  split at h1
  · rename_i i x st'
    split at h1
    · rename_i hc
      obtain ⟨hx1, hi0, hsm, hk1⟩ := hc
      obtain ⟨vi, sc1, rfl, hvi, gs1⟩ := ab_s_cons gs
      obtain ⟨vx, sc2, rfl, hvx, gs2⟩ := ab_s_cons gs1
      obtain ⟨j, hj, rfl⟩ := ab_vi hi0 hvi
      obtain ⟨c, hc, rfl⟩ := ab_v1 hx1 hvx
      have hkc := ab_same_in hsm hc
      split at h1
      · rename_i ix hix
        cases h1
        obtain ⟨q1, q2, q3⟩ := ab_idx_ok gk hj hix
        obtain ⟨ext, k1, k2, k3⟩ := ab_ldI_ok (i := j.toNatClampNeg) hN gk gm (rfl : ab_ldI h K Ca x.2.2 ix = (_, _, _)) hc q3
        exact ⟨by rw [hkc]; exact hk1, q1, by rw [hkc]; exact q2, hk _ (List.mem_singleton.mpr rfl) ext (cpc + 1, CL, .int (M.1 c j.toNatClampNeg) :: sc2, M) ⟨rfl, ab_l_ap gl, ⟨ab_iv k2, ab_s_ap gs2⟩, k1, k3⟩⟩
      · cases h1
    · cases h1
  · cases h1

noncomputable def ab_laload : ab_O := fun h md P t S => match S.2.2.1 with
  | i :: x :: st => if x.1 = 1 ∧ ab_isI i = true ∧ ab_same x.2.2 (ab_kd x.2.2) = true ∧ (ab_kd x.2.2).1 = 100 + 2 then (match ab_idx S.2.2.2.1 i (ab_kd x.2.2).2 with
      | some _ => some [ab_adv S 1 ((6, 0, []) :: st)]
      | none => none) else none
  | _ => none
theorem ab_laload_ok : ab_Snd cm_laload ab_laload := by
  intro h N M0 md E P t S Ss C ρ k hN h1 hG hk
  obtain ⟨pc, L, st, K, Ca⟩ := S
  obtain ⟨cpc, CL, sc, M⟩ := C
  obtain ⟨e0, gl, gs, gk, gm⟩ := hG
  dsimp only at e0 gl gs gk gm
  subst e0
  unfold ab_laload at h1
  dsimp only at h1
  split at h1
  · rename_i i x st'
    split at h1
    · rename_i hc
      obtain ⟨hx1, hi0, hsm, hk1⟩ := hc
      obtain ⟨vi, sc1, rfl, hvi, gs1⟩ := ab_s_cons gs
      obtain ⟨vx, sc2, rfl, hvx, gs2⟩ := ab_s_cons gs1
      obtain ⟨j, hj, rfl⟩ := ab_vi hi0 hvi
      obtain ⟨c, hc, rfl⟩ := ab_v1 hx1 hvx
      have hkc := ab_same_in hsm hc
      split at h1
      · rename_i ix hix
        cases h1
        obtain ⟨q1, q2, q3⟩ := ab_idx_ok gk hj hix
        exact ⟨by rw [hkc]; exact hk1, q1, by rw [hkc]; exact q2, ab_fin hk _ (List.mem_singleton.mpr rfl) (cpc + 1, CL, .long (M.2.1 c j.toNatClampNeg) :: sc2, M) ⟨rfl, gl, ⟨⟨_, rfl⟩, gs2⟩, gk, gm⟩⟩
      · cases h1
    · cases h1
  · cases h1

noncomputable def ab_aaload : ab_O := fun h md P t S => match S.2.2.1 with
  | i :: x :: st => if x.1 = 1 ∧ ab_isI i = true ∧ ab_same x.2.2 (ab_kd x.2.2) = true ∧ (ab_kd x.2.2).1 = 100 + 3 then (match ab_idx S.2.2.2.1 i (ab_kd x.2.2).2 with
      | some (some l) => (match ab_ldR h S.2.2.2.2 x.2.2 l with
        | some a => some [ab_adv S 1 (a :: st)]
        | none => none)
      | _ => none) else none
  | _ => none
theorem ab_aaload_ok : ab_Snd cm_aaload ab_aaload := by
  intro h N M0 md E P t S Ss C ρ k hN h1 hG hk
  obtain ⟨pc, L, st, K, Ca⟩ := S
  obtain ⟨cpc, CL, sc, M⟩ := C
  obtain ⟨e0, gl, gs, gk, gm⟩ := hG
  dsimp only at e0 gl gs gk gm
  subst e0
  unfold ab_aaload at h1
  dsimp only at h1
  split at h1
  · rename_i i x st'
    split at h1
    · rename_i hc
      obtain ⟨hx1, hi0, hsm, hk1⟩ := hc
      obtain ⟨vi, sc1, rfl, hvi, gs1⟩ := ab_s_cons gs
      obtain ⟨vx, sc2, rfl, hvx, gs2⟩ := ab_s_cons gs1
      obtain ⟨j, hj, rfl⟩ := ab_vi hi0 hvi
      obtain ⟨c, hc, rfl⟩ := ab_v1 hx1 hvx
      have hkc := ab_same_in hsm hc
      split at h1
      · rename_i l hix
        split at h1
        · rename_i a ha
          cases h1
          obtain ⟨q1, q2, q3⟩ := ab_idx_ok gk hj hix
          exact ⟨by rw [hkc]; exact hk1, q1, by rw [hkc]; exact q2, ab_fin hk _ (List.mem_singleton.mpr rfl) (cpc + 1, CL, cm_rq (M.2.2 c j.toNatClampNeg) :: sc2, M) ⟨rfl, gl, ⟨ab_ldR_ok gm ha hc q3, gs2⟩, gk, gm⟩⟩
        · cases h1
      · cases h1
    · cases h1
  · cases h1

noncomputable def ab_iastore : ab_O := fun h md P t S => match S.2.2.1 with
  | a :: i :: x :: st => if x.1 = 1 ∧ ab_isI i = true ∧ ab_isI a = true ∧ ab_same x.2.2 (ab_kd x.2.2) = true ∧ (ab_kd x.2.2).1 = 100 + 0 then (match ab_idx S.2.2.2.1 i (ab_kd x.2.2).2 with
      | some ix => if ab_stI h md (ab_bd S.2.2.2.1 a) x.2.2 ix = true then some [(S.1 + 1, S.2.1, st, S.2.2.2.1, ab_keep S.2.2.2.2 x.2.2 ix a)] else none
      | none => none) else none
  | _ => none
theorem ab_iastore_ok : ab_Snd cm_iastore ab_iastore := by
  intro h N M0 md E P t S Ss C ρ k hN h1 hG hk
  obtain ⟨pc, L, st, K, Ca⟩ := S
  obtain ⟨cpc, CL, sc, M⟩ := C
  obtain ⟨e0, gl, gs, gk, gm⟩ := hG
  dsimp only at e0 gl gs gk gm
  subst e0
  unfold ab_iastore at h1
  dsimp only at h1
  split at h1
  · rename_i a i x st'
    split at h1
    · rename_i hc
      obtain ⟨hx1, hi0, ha0, hsm, hk1⟩ := hc
      obtain ⟨va, sc0, rfl, hva, gs0⟩ := ab_s_cons gs
      obtain ⟨vi, sc1, rfl, hvi, gs1⟩ := ab_s_cons gs0
      obtain ⟨vx, sc2, rfl, hvx, gs2⟩ := ab_s_cons gs1
      obtain ⟨z, hz, rfl⟩ := ab_vi ha0 hva
      obtain ⟨j, hj, rfl⟩ := ab_vi hi0 hvi
      obtain ⟨c, hc, rfl⟩ := ab_v1 hx1 hvx
      have hkc := ab_same_in hsm hc
      split at h1
      · rename_i ix hix
        split at h1
        · rename_i hs
          cases h1
          obtain ⟨q1, q2, q3⟩ := ab_idx_ok gk hj hix
          exact ⟨by rw [hkc]; exact hk1, q1, by rw [hkc]; exact q2, ab_fin hk _ (List.mem_singleton.mpr rfl) (cpc + 1, CL, sc2, cm_wi M c j.toNatClampNeg z) ⟨rfl, gl, gs2, gk, ab_stI_ok hN gm hs hc q3 hz (ab_bd_in gk hz)⟩⟩
        · cases h1
      · cases h1
    · cases h1
  · cases h1

noncomputable def ab_bastore : ab_O := fun h md P t S => match S.2.2.1 with
  | a :: i :: x :: st => if x.1 = 1 ∧ ab_isI i = true ∧ ab_isI a = true ∧ ab_same x.2.2 (ab_kd x.2.2) = true ∧ (ab_kd x.2.2).1 = 100 + 1 then (match ab_idx S.2.2.2.1 i (ab_kd x.2.2).2 with
      | some ix => if ab_stI h md ev_ful x.2.2 ix = true then some [(S.1 + 1, S.2.1, st, (ab_any S.2.2.2.1 ev_ful).2, ab_keep S.2.2.2.2 x.2.2 ix (ab_any S.2.2.2.1 ev_ful).1)] else none
      | none => none) else none
  | _ => none
theorem ab_bastore_ok : ab_Snd cm_bastore ab_bastore := by
  intro h N M0 md E P t S Ss C ρ k hN h1 hG hk
  obtain ⟨pc, L, st, K, Ca⟩ := S
  obtain ⟨cpc, CL, sc, M⟩ := C
  obtain ⟨e0, gl, gs, gk, gm⟩ := hG
  dsimp only at e0 gl gs gk gm
  subst e0
  unfold ab_bastore at h1
  dsimp only at h1
  split at h1
  · rename_i a i x st'
    split at h1
    · rename_i hc
      obtain ⟨hx1, hi0, ha0, hsm, hk1⟩ := hc
      obtain ⟨va, sc0, rfl, hva, gs0⟩ := ab_s_cons gs
      obtain ⟨vi, sc1, rfl, hvi, gs1⟩ := ab_s_cons gs0
      obtain ⟨vx, sc2, rfl, hvx, gs2⟩ := ab_s_cons gs1
      obtain ⟨z, hz, rfl⟩ := ab_vi ha0 hva
      obtain ⟨j, hj, rfl⟩ := ab_vi hi0 hvi
      obtain ⟨c, hc, rfl⟩ := ab_v1 hx1 hvx
      have hkc := ab_same_in hsm hc
      split at h1
      · rename_i ix hix
        split at h1
        · rename_i hs
          cases h1
          obtain ⟨q1, q2, q3⟩ := ab_idx_ok gk hj hix
          obtain ⟨ext, k1, k2⟩ := ab_any_ok gk (ev_ful_in (vp_nar .byte z)) (rfl : ab_any K ev_ful = (_, _))
          exact ⟨by rw [hkc]; exact hk1, q1, by rw [hkc]; exact q2, hk _ (List.mem_singleton.mpr rfl) ext (cpc + 1, CL, sc2, cm_wi M c j.toNatClampNeg (vp_nar .byte z)) ⟨rfl, ab_l_ap gl, ab_s_ap gs2, k1, ab_stI_ok hN (ab_m_ap gm) hs hc q3 k2 (ev_ful_in _)⟩⟩
        · cases h1
      · cases h1
    · cases h1
  · cases h1

noncomputable def ab_lastore : ab_O := fun h md P t S => match S.2.2.1 with
  | a :: i :: x :: st => if x.1 = 1 ∧ ab_isI i = true ∧ a.1 = 6 ∧ ab_same x.2.2 (ab_kd x.2.2) = true ∧ (ab_kd x.2.2).1 = 100 + 2 then (match ab_idx S.2.2.2.1 i (ab_kd x.2.2).2 with
      | some ix => if ab_stL h md x.2.2 ix = true then some [ab_adv S 1 st] else none
      | none => none) else none
  | _ => none
theorem ab_lastore_ok : ab_Snd cm_lastore ab_lastore := by
  intro h N M0 md E P t S Ss C ρ k hN h1 hG hk
  obtain ⟨pc, L, st, K, Ca⟩ := S
  obtain ⟨cpc, CL, sc, M⟩ := C
  obtain ⟨e0, gl, gs, gk, gm⟩ := hG
  dsimp only at e0 gl gs gk gm
  subst e0
  unfold ab_lastore at h1
  dsimp only at h1
  split at h1
  · rename_i a i x st'
    split at h1
    · rename_i hc
      obtain ⟨hx1, hi0, ha0, hsm, hk1⟩ := hc
      obtain ⟨va, sc0, rfl, hva, gs0⟩ := ab_s_cons gs
      obtain ⟨vi, sc1, rfl, hvi, gs1⟩ := ab_s_cons gs0
      obtain ⟨vx, sc2, rfl, hvx, gs2⟩ := ab_s_cons gs1
      obtain ⟨z, rfl⟩ := ab_v6 ha0 hva
      obtain ⟨j, hj, rfl⟩ := ab_vi hi0 hvi
      obtain ⟨c, hc, rfl⟩ := ab_v1 hx1 hvx
      have hkc := ab_same_in hsm hc
      split at h1
      · rename_i ix hix
        split at h1
        · rename_i hs
          cases h1
          obtain ⟨q1, q2, q3⟩ := ab_idx_ok gk hj hix
          exact ⟨by rw [hkc]; exact hk1, q1, by rw [hkc]; exact q2, ab_fin hk _ (List.mem_singleton.mpr rfl) (cpc + 1, CL, sc2, cm_wl M c j.toNatClampNeg z) ⟨rfl, gl, gs2, gk, ab_stL_ok hN gm hs hc q3⟩⟩
        · cases h1
      · cases h1
    · cases h1
  · cases h1

noncomputable def ab_alen : ab_O := fun h md P t S => match S.2.2.1 with
  | x :: st => if x.1 = 1 ∧ x.2.2.all (fun c => decide (c ≠ 1000)) = true ∧ ab_same x.2.2 (ab_kd x.2.2) = true ∧ 100 ≤ (ab_kd x.2.2).1 ∧ (ab_kd x.2.2).1 < 104 then some [ab_adv S 1 (ab_c (Int32.ofNat (ab_kd x.2.2).2).toInt :: st)] else none
  | _ => none
theorem ab_alen_ok : ab_Snd cm_alen ab_alen := by
  intro h N M0 md E P t S Ss C ρ k hN h1 hG hk
  obtain ⟨pc, L, st, K, Ca⟩ := S
  obtain ⟨cpc, CL, sc, M⟩ := C
  obtain ⟨e0, gl, gs, gk, gm⟩ := hG
  dsimp only at e0 gl gs gk gm
  subst e0
  unfold ab_alen at h1
  dsimp only at h1
  split at h1
  · rename_i x st'
    split at h1
    · rename_i hc
      cases h1
      obtain ⟨hx1, hne, hsm, hk1, hk2⟩ := hc
      obtain ⟨vx, sc2, rfl, hvx, gs2⟩ := ab_s_cons gs
      obtain ⟨c, hc, rfl⟩ := ab_v1 hx1 hvx
      have hkc := ab_same_in hsm hc
      have h0 : ¬ c = 1000 := of_decide_eq_true (List.all_eq_true.mp hne c hc)
      unfold cm_alen
      dsimp only
      rw [if_neg h0, hkc]
      exact ⟨hk1, hk2, ab_fin hk _ (List.mem_singleton.mpr rfl) (cpc + 1, CL, .int (Int32.ofNat (ab_kd x.2.2).2) :: sc2, M) ⟨rfl, gl, ⟨ab_iv (ab_c_at ρ _), gs2⟩, gk, gm⟩⟩
    · cases h1
  · cases h1

noncomputable def ab_getV : ab_O := fun h md P t S => match S.2.2.1 with
  | (1, _, [c]) :: st => if 1001 ≤ c ∧ c < 1081 ∧ c % 2 = 1 then some [ab_adv S 3 ((1, 0, [c + 1]) :: st)] else none
  | _ => none
theorem ab_getV_ok : ab_Snd cm_getV ab_getV := by
  intro h N M0 md E P t S Ss C ρ k hN h1 hG hk
  obtain ⟨pc, L, st, K, Ca⟩ := S
  obtain ⟨cpc, CL, sc, M⟩ := C
  obtain ⟨e0, gl, gs, gk, gm⟩ := hG
  dsimp only at e0 gl gs gk gm
  subst e0
  unfold ab_getV at h1
  dsimp only at h1
  split at h1
  · rename_i n c st'
    split at h1
    · rename_i hc
      cases h1
      obtain ⟨vx, sc2, rfl, ⟨c', hc', rfl⟩, gs2⟩ := ab_s_cons gs
      cases List.mem_singleton.mp hc'
      exact ⟨hc.1, hc.2.1, hc.2.2, ab_fin hk _ (List.mem_singleton.mpr rfl) (cpc + 3, CL, .ref (c + 1) :: sc2, M) ⟨rfl, gl, ⟨⟨_, List.mem_singleton.mpr rfl, rfl⟩, gs2⟩, gk, gm⟩⟩
    · cases h1
  · cases h1

noncomputable def ab_getC : ab_O := fun h md P t S => match S.2.2.1 with
  | (1, _, [c]) :: st => if 1001 ≤ c ∧ c < 1081 ∧ c % 2 = 1 then some [ab_adv S 3 (ab_c 0 :: st)] else none
  | _ => none
theorem ab_getC_ok : ab_Snd cm_getC ab_getC := by
  intro h N M0 md E P t S Ss C ρ k hN h1 hG hk
  obtain ⟨pc, L, st, K, Ca⟩ := S
  obtain ⟨cpc, CL, sc, M⟩ := C
  obtain ⟨e0, gl, gs, gk, gm⟩ := hG
  dsimp only at e0 gl gs gk gm
  subst e0
  unfold ab_getC at h1
  dsimp only at h1
  split at h1
  · rename_i n c st'
    split at h1
    · rename_i hc
      cases h1
      obtain ⟨vx, sc2, rfl, ⟨c', hc', rfl⟩, gs2⟩ := ab_s_cons gs
      cases List.mem_singleton.mp hc'
      exact ⟨hc.1, hc.2.1, hc.2.2, ab_fin hk _ (List.mem_singleton.mpr rfl) (cpc + 3, CL, .int 0 :: sc2, M) ⟨rfl, gl, ⟨rfl, gs2⟩, gk, gm⟩⟩
    · cases h1
  · cases h1

noncomputable def ab_alenS : ab_O := fun h md P t S => match S.2.2.1 with
  | (1, _, [c]) :: st => (match ev_strs[(c - 1001) / 2]? with
    | some r => if 1001 ≤ c ∧ c < 1081 ∧ c % 2 = 0 then some [ab_adv S 1 (ab_c (Int32.ofNat r.2.2.2.length).toInt :: st)] else none
    | none => none)
  | _ => none
theorem ab_alenS_ok : ab_Snd cm_alenS ab_alenS := by
  intro h N M0 md E P t S Ss C ρ k hN h1 hG hk
  obtain ⟨pc, L, st, K, Ca⟩ := S
  obtain ⟨cpc, CL, sc, M⟩ := C
  obtain ⟨e0, gl, gs, gk, gm⟩ := hG
  dsimp only at e0 gl gs gk gm
  subst e0
  unfold ab_alenS at h1
  dsimp only at h1
  split at h1
  · rename_i n c st'
    split at h1
    · rename_i r hr
      split at h1
      · rename_i hc
        cases h1
        obtain ⟨vx, sc2, rfl, ⟨c', hc', rfl⟩, gs2⟩ := ab_s_cons gs
        cases List.mem_singleton.mp hc'
        unfold cm_alenS
        dsimp only
        rw [hr]
        exact ⟨hc.1, hc.2.1, hc.2.2, ab_fin hk _ (List.mem_singleton.mpr rfl) (cpc + 1, CL, .int (Int32.ofNat r.2.2.2.length) :: sc2, M) ⟨rfl, gl, ⟨ab_iv (ab_c_at ρ _), gs2⟩, gk, gm⟩⟩
      · cases h1
    · cases h1
  · cases h1

noncomputable def ab_baloadS : ab_O := fun h md P t S => match S.2.2.1 with
  | i :: (1, _, [c]) :: st => (match ev_strs[(c - 1001) / 2]? with
    | some r => if 1001 ≤ c ∧ c < 1081 ∧ c % 2 = 0 ∧ ab_isI i = true ∧ 0 ≤ (ab_bd S.2.2.2.1 i).1 ∧ (ab_bd S.2.2.2.1 i).2 < (r.2.2.2.length : Int) then some [ab_advK S 1 ((ab_any S.2.2.2.1 ev_ful).1 :: st) (ab_any S.2.2.2.1 ev_ful).2] else none
    | none => none)
  | _ => none
theorem ab_baloadS_ok : ab_Snd cm_baloadS ab_baloadS := by
  intro h N M0 md E P t S Ss C ρ k hN h1 hG hk
  obtain ⟨pc, L, st, K, Ca⟩ := S
  obtain ⟨cpc, CL, sc, M⟩ := C
  obtain ⟨e0, gl, gs, gk, gm⟩ := hG
  dsimp only at e0 gl gs gk gm
  subst e0
  unfold ab_baloadS at h1
  dsimp only at h1
  split at h1
  · rename_i i n c st'
    split at h1
    · rename_i r hr
      split at h1
      · rename_i hc
        cases h1
        obtain ⟨vi, sc1, rfl, hvi, gs1⟩ := ab_s_cons gs
        obtain ⟨vx, sc2, rfl, ⟨c', hc', rfl⟩, gs2⟩ := ab_s_cons gs1
        cases List.mem_singleton.mp hc'
        obtain ⟨c1, c2, c3, c4, c5, c6⟩ := hc
        obtain ⟨j, hj, rfl⟩ := ab_vi c4 hvi
        obtain ⟨b1, b2⟩ := ab_bd_in gk hj
        obtain ⟨ext, k1, k2⟩ := ab_any_ok gk (ev_ful_in (r.2.2.2.getD j.toNatClampNeg 0)) (rfl : ab_any K ev_ful = (_, _))
        unfold cm_baloadS
        dsimp only
        rw [hr]
        exact ⟨c1, c2, c3, by omega, by omega, hk _ (List.mem_singleton.mpr rfl) ext (cpc + 1, CL, .int (r.2.2.2.getD j.toNatClampNeg 0) :: sc2, M) ⟨rfl, ab_l_ap gl, ⟨ab_iv k2, ab_s_ap gs2⟩, k1, ab_m_ap gm⟩⟩
      · cases h1
    · cases h1
  · cases h1

theorem ab_tens_in (j : Nat) (hj : j < 5) : ev_inb (1, 10000) (cm_tens j) := by
  have : ∀ j : Fin 5, ev_inb (1, 10000) (cm_tens j.val) := by
    unfold ev_inb
    decide
  exact this ⟨j, hj⟩
noncomputable def ab_tald : ab_O := fun h md P t S => match S.2.2.1 with
  | i :: (1, _, [c]) :: st => if c = 1100 ∧ ab_isI i = true ∧ 0 ≤ (ab_bd S.2.2.2.1 i).1 ∧ (ab_bd S.2.2.2.1 i).2 < 5 then some [ab_advK S 1 ((ab_any S.2.2.2.1 (1, 10000)).1 :: st) (ab_any S.2.2.2.1 (1, 10000)).2] else none
  | _ => none
theorem ab_tald_ok : ab_Snd cm_tald ab_tald := by
  intro h N M0 md E P t S Ss C ρ k hN h1 hG hk
  obtain ⟨pc, L, st, K, Ca⟩ := S
  obtain ⟨cpc, CL, sc, M⟩ := C
  obtain ⟨e0, gl, gs, gk, gm⟩ := hG
  dsimp only at e0 gl gs gk gm
  subst e0
  unfold ab_tald at h1
  dsimp only at h1
  split at h1
  · rename_i i n c st'
    split at h1
    · rename_i hc
      cases h1
      obtain ⟨vi, sc1, rfl, hvi, gs1⟩ := ab_s_cons gs
      obtain ⟨vx, sc2, rfl, ⟨c', hc', rfl⟩, gs2⟩ := ab_s_cons gs1
      cases List.mem_singleton.mp hc'
      obtain ⟨c1, c4, c5, c6⟩ := hc
      obtain ⟨j, hj, rfl⟩ := ab_vi c4 hvi
      obtain ⟨b1, b2⟩ := ab_bd_in gk hj
      have hj5 : j.toNatClampNeg < 5 := by
        show j.toInt.toNat < 5
        omega
      obtain ⟨ext, k1, k2⟩ := ab_any_ok gk (ab_tens_in j.toNatClampNeg hj5) (rfl : ab_any K (1, 10000) = (_, _))
      exact ⟨c1, by omega, by omega, hk _ (List.mem_singleton.mpr rfl) ext (cpc + 1, CL, .int (cm_tens j.toNatClampNeg) :: sc2, M) ⟨rfl, ab_l_ap gl, ⟨ab_iv k2, ab_s_ap gs2⟩, k1, ab_m_ap gm⟩⟩
    · cases h1
  · cases h1

noncomputable def ab_alenT : ab_O := fun h md P t S => match S.2.2.1 with
  | (1, _, [c]) :: st => if c = 1100 then some [ab_adv S 1 (ab_c 5 :: st)] else none
  | _ => none
theorem ab_alenT_ok : ab_Snd cm_alenT ab_alenT := by
  intro h N M0 md E P t S Ss C ρ k hN h1 hG hk
  obtain ⟨pc, L, st, K, Ca⟩ := S
  obtain ⟨cpc, CL, sc, M⟩ := C
  obtain ⟨e0, gl, gs, gk, gm⟩ := hG
  dsimp only at e0 gl gs gk gm
  subst e0
  unfold ab_alenT at h1
  dsimp only at h1
  split at h1
  · rename_i n c st'
    split at h1
    · rename_i hc
      cases h1
      obtain ⟨vx, sc2, rfl, ⟨c', hc', rfl⟩, gs2⟩ := ab_s_cons gs
      cases List.mem_singleton.mp hc'
      exact ⟨hc, ab_fin hk _ (List.mem_singleton.mpr rfl) (cpc + 1, CL, .int 5 :: sc2, M) ⟨rfl, gl, ⟨rfl, gs2⟩, gk, gm⟩⟩
    · cases h1
  · cases h1

noncomputable def ab_copyi : ab_O := fun h md P t S => match S.2.2.1 with
  | n :: dp :: y :: sp :: x :: st => if ab_cs st ≤ 8 ∧ x.1 = 1 ∧ y.1 = 1 ∧ ab_isI n = true ∧ ab_isI dp = true ∧ ab_isI sp = true ∧ ab_same x.2.2 (ab_kd x.2.2) = true ∧ ab_same y.2.2 (ab_kd y.2.2) = true ∧ (ab_kd x.2.2).1 = 100 ∧ (ab_kd y.2.2).1 = 100 ∧ 0 ≤ (ab_bd S.2.2.2.1 sp).1 ∧ 0 ≤ (ab_bd S.2.2.2.1 dp).1 ∧ 0 ≤ (ab_bd S.2.2.2.1 n).1 ∧ (ab_bd S.2.2.2.1 sp).2 + (ab_bd S.2.2.2.1 n).2 ≤ ((ab_kd x.2.2).2 : Int) ∧ (ab_bd S.2.2.2.1 dp).2 + (ab_bd S.2.2.2.1 n).2 ≤ ((ab_kd y.2.2).2 : Int) ∧ ab_stC h md y.2.2 = true then some [(S.1 + 3, S.2.1, st, S.2.2.2.1, ab_drop S.2.2.2.2 y.2.2 none)] else none
  | _ => none
theorem ab_copyi_ok : ab_Snd cm_copyi ab_copyi := by
  intro h N M0 md E P t S Ss C ρ k hN h1 hG hk
  obtain ⟨pc, L, st, K, Ca⟩ := S
  obtain ⟨cpc, CL, sc, M⟩ := C
  obtain ⟨e0, gl, gs, gk, gm⟩ := hG
  dsimp only at e0 gl gs gk gm
  subst e0
  unfold ab_copyi at h1
  dsimp only at h1
  split at h1
  · rename_i n dp y sp x st'
    split at h1
    · rename_i hc
      cases h1
      obtain ⟨z0, z1, z2, z3, z4, z5, z6, z7, z8, z9, y1, y2, y3, y4, y5, y6⟩ := hc
      obtain ⟨v1, sc1, rfl, h1v, gs1⟩ := ab_s_cons gs
      obtain ⟨v2, sc2, rfl, h2v, gs2⟩ := ab_s_cons gs1
      obtain ⟨v3, sc3, rfl, h3v, gs3⟩ := ab_s_cons gs2
      obtain ⟨v4, sc4, rfl, h4v, gs4⟩ := ab_s_cons gs3
      obtain ⟨v5, sc5, rfl, h5v, gs5⟩ := ab_s_cons gs4
      obtain ⟨n0, hn, rfl⟩ := ab_vi z3 h1v
      obtain ⟨dp0, hdp, rfl⟩ := ab_vi z4 h2v
      obtain ⟨d, hd, rfl⟩ := ab_v1 z2 h3v
      obtain ⟨sp0, hsp, rfl⟩ := ab_vi z5 h4v
      obtain ⟨c, hc, rfl⟩ := ab_v1 z1 h5v
      have hkc := ab_same_in z6 hc
      have hkd := ab_same_in z7 hd
      obtain ⟨a1, a2⟩ := ab_bd_in gk hn
      obtain ⟨b1, b2⟩ := ab_bd_in gk hdp
      obtain ⟨c1, c2⟩ := ab_bd_in gk hsp
      have hcs := ab_cs_ok gs5
      exact ⟨by rw [hcs]; exact z0, by rw [hkc]; exact z8, by rw [hkd]; exact z9, by omega, by omega, by omega, by rw [hkc]; omega, by rw [hkd]; omega, ab_fin hk _ (List.mem_singleton.mpr rfl) (cpc + 3, CL, sc5, cm_cp M c sp0.toNatClampNeg d dp0.toNatClampNeg n0.toNatClampNeg) ⟨rfl, gl, gs5, gk, ab_stC_ok hN gm y6 hd⟩⟩
    · cases h1
  · cases h1
noncomputable def ab_ops : List ab_O := [ab_iconst, ab_bipush, ab_sipush, ab_lconst, ab_iload, ab_iloadn, ab_lload, ab_lloadn, ab_aload, ab_aloadn, ab_istore, ab_istoren, ab_lstore, ab_lstoren, ab_astore, ab_astoren, ab_iadd, ab_isub, ab_imul, ab_iand, ab_ior, ab_ixor, ab_ishl, ab_ishr, ab_iushr, ab_idiv, ab_irem, ab_ineg, ab_i2b, ab_i2l, ab_lcmp, ab_dup, ab_pop, ab_dup2, ab_iinc, ab_icmp_eq, ab_icmp_ne, ab_icmp_lt, ab_icmp_ge, ab_icmp_gt, ab_icmp_le, ab_if_eq, ab_if_ne, ab_if_lt, ab_if_ge, ab_if_gt, ab_if_le, ab_goto, ab_sw, ab_get, ab_put, ab_no, ab_iaload, ab_baload, ab_laload, ab_aaload, ab_iastore, ab_bastore, ab_no, ab_no, ab_no, ab_no, ab_no, ab_no, ab_alen, ab_no, ab_no, ab_mmin, ab_ldc, ab_ldcS, ab_getV, ab_getC, ab_gets, ab_alenS, ab_baloadS, ab_i2c, ab_ladd, ab_lsub, ab_lmul, ab_no, ab_no, ab_ldc2, ab_getsF, ab_ldcw, ab_mmax, ab_mabs, ab_copyi, ab_getT, ab_tald, ab_alenT, ab_lastore, ab_pop2]
noncomputable def ab_All2 : List cm_O → List ab_O → Prop
  | [], [] => True
  | o :: os, a :: as => ab_Snd o a ∧ ab_All2 os as
  | _, _ => False
theorem ab_All2_at : ∀ {os : List cm_O} {as : List ab_O}, ab_All2 os as → ∀ (k : Nat) (a : ab_O), as[k]? = some a → ∃ o, os[k]? = some o ∧ ab_Snd o a
  | [], [], _, k, a, h => by cases h
  | [], _ :: _, h, _, _, _ => h.elim
  | _ :: _, [], h, _, _, _ => h.elim
  | o :: os, x :: as, h, 0, a, e => by cases e; exact ⟨o, rfl, h.1⟩
  | o :: os, x :: as, h, k + 1, a, e => ab_All2_at h.2 k a e
theorem ab_ops_ok : ab_All2 cm_ops ab_ops := ⟨ab_iconst_ok, ⟨ab_bipush_ok, ⟨ab_sipush_ok, ⟨ab_lconst_ok, ⟨ab_iload_ok, ⟨ab_iloadn_ok, ⟨ab_lload_ok, ⟨ab_lloadn_ok, ⟨ab_aload_ok, ⟨ab_aloadn_ok, ⟨ab_istore_ok, ⟨ab_istoren_ok, ⟨ab_lstore_ok, ⟨ab_lstoren_ok, ⟨ab_astore_ok, ⟨ab_astoren_ok, ⟨ab_iadd_ok, ⟨ab_isub_ok, ⟨ab_imul_ok, ⟨ab_iand_ok, ⟨ab_ior_ok, ⟨ab_ixor_ok, ⟨ab_ishl_ok, ⟨ab_ishr_ok, ⟨ab_iushr_ok, ⟨ab_idiv_ok, ⟨ab_irem_ok, ⟨ab_ineg_ok, ⟨ab_i2b_ok, ⟨ab_i2l_ok, ⟨ab_lcmp_ok, ⟨ab_dup_ok, ⟨ab_pop_ok, ⟨ab_dup2_ok, ⟨ab_iinc_ok, ⟨ab_icmp_eq_ok, ⟨ab_icmp_ne_ok, ⟨ab_icmp_lt_ok, ⟨ab_icmp_ge_ok, ⟨ab_icmp_gt_ok, ⟨ab_icmp_le_ok, ⟨ab_if_eq_ok, ⟨ab_if_ne_ok, ⟨ab_if_lt_ok, ⟨ab_if_ge_ok, ⟨ab_if_gt_ok, ⟨ab_if_le_ok, ⟨ab_goto_ok, ⟨ab_sw_ok, ⟨ab_get_ok, ⟨ab_put_ok, ⟨ab_no_ok _, ⟨ab_iaload_ok, ⟨ab_baload_ok, ⟨ab_laload_ok, ⟨ab_aaload_ok, ⟨ab_iastore_ok, ⟨ab_bastore_ok, ⟨ab_no_ok _, ⟨ab_no_ok _, ⟨ab_no_ok _, ⟨ab_no_ok _, ⟨ab_no_ok _, ⟨ab_no_ok _, ⟨ab_alen_ok, ⟨ab_no_ok _, ⟨ab_no_ok _, ⟨ab_mmin_ok, ⟨ab_ldc_ok, ⟨ab_ldcS_ok, ⟨ab_getV_ok, ⟨ab_getC_ok, ⟨ab_gets_ok, ⟨ab_alenS_ok, ⟨ab_baloadS_ok, ⟨ab_i2c_ok, ⟨ab_ladd_ok, ⟨ab_lsub_ok, ⟨ab_lmul_ok, ⟨ab_no_ok _, ⟨ab_no_ok _, ⟨ab_ldc2_ok, ⟨ab_getsF_ok, ⟨ab_ldcw_ok, ⟨ab_mmax_ok, ⟨ab_mabs_ok, ⟨ab_copyi_ok, ⟨ab_getT_ok, ⟨ab_tald_ok, ⟨ab_alenT_ok, ⟨ab_lastore_ok, ⟨ab_pop2_ok, trivial⟩⟩⟩⟩⟩⟩⟩⟩⟩⟩⟩⟩⟩⟩⟩⟩⟩⟩⟩⟩⟩⟩⟩⟩⟩⟩⟩⟩⟩⟩⟩⟩⟩⟩⟩⟩⟩⟩⟩⟩⟩⟩⟩⟩⟩⟩⟩⟩⟩⟩⟩⟩⟩⟩⟩⟩⟩⟩⟩⟩⟩⟩⟩⟩⟩⟩⟩⟩⟩⟩⟩⟩⟩⟩⟩⟩⟩⟩⟩⟩⟩⟩⟩⟩⟩⟩⟩⟩⟩⟩⟩⟩
noncomputable abbrev ab_Out : Type := List ab_A × ab_K × ab_Ca
noncomputable abbrev ab_Cl : Type := Nat → List ab_A → ab_K → ab_Ca → Option (List ab_Out)
noncomputable def ab_take (recv : Bool) (n : Nat) (st : List ab_A) : Option (List ab_A × List ab_A) :=
  if recv = true then (match st.drop n with
    | x :: rest => if (st.take n).length = n then some (x :: (st.take n).reverse, rest) else none
    | [] => none)
  else (if (st.take n).length = n then some ((st.take n).reverse, st.drop n) else none)
/-- the receiver: one of the class's cells (99: a text) -/
noncomputable def ab_recv (ci : Int) : List ab_A → Bool
  | a :: _ => decide (a.1 = 1) && a.2.2.all (fun c => if ci = 99 then decide (1001 ≤ c) && (decide (c < 1081) && decide (c % 2 = 1)) else decide ((cm_kind c).1 = ci.toNat))
  | [] => false
noncomputable def ab_rcv (r : ev_Row) (as : List ab_A) : Bool := if r.1 = 200 then (match r.2.2.2.2 with
  | [ci] => ab_recv ci as
  | _ => false) else true
noncomputable def ab_inv (cl : ab_Cl) (r : ev_Row) (S : ab_S) : Option (List ab_S) := match ab_take (!(r.1 == 201)) r.2.2.2.1.toNat S.2.2.1 with
  | some (as, rest) => if ab_cs rest ≤ 8 ∧ ab_rcv r as = true then (match cl r.2.1.toNat as S.2.2.2.1 S.2.2.2.2 with
      | some outs => some (outs.map (fun o => (S.1 + 3, S.2.1, o.1 ++ rest, o.2)))
      | none => none) else none
  | none => none
noncomputable def ab_pick (L : List (Nat × ab_A)) : List Nat → Option (List (Nat × ab_A))
  | [] => some []
  | i :: r => match ev_at L i, ab_pick L r with
    | some v, some l => some ((i, v) :: l)
    | _, _ => none
theorem ab_pick_at {L : List (Nat × ab_A)} : ∀ {live : List Nat} {L' : List (Nat × ab_A)}, ab_pick L live = some L' → ∀ q ∈ L', ev_at L q.1 = some q.2
  | [], L', h => by cases h; exact fun q hq => nomatch hq
  | i :: r, L', h => by
    unfold ab_pick at h
    split at h
    · rename_i v l h1 h2
      cases h
      intro q hq
      rcases List.mem_cons.mp hq with rfl | hq
      · exact h1
      · exact ab_pick_at h2 q hq
    · cases h
theorem ab_pick_ok {ρ : List Int32} {L : List (Nat × ab_A)} {CL : List (Nat × Value)} (hl : ab_l ρ L CL) : ∀ {live : List Nat} {L' : List (Nat × ab_A)}, ab_pick L live = some L' → ∃ CL', cm_pick CL live = some CL' ∧ ab_l ρ L' CL'
  | [], L', h => by cases h; exact ⟨[], rfl, fun q hq => nomatch hq⟩
  | i :: r, L', h => by
    unfold ab_pick at h
    split at h
    · rename_i v l h1 h2
      cases h
      obtain ⟨CL', e1, e2⟩ := ab_pick_ok hl h2
      obtain ⟨x, x1, x2⟩ := hl _ (ev_at_mem h1)
      refine ⟨(i, x) :: CL', by unfold cm_pick; rw [x1, e1], fun q hq => ?_⟩
      rcases List.mem_cons.mp hq with rfl | hq
      · exact ⟨x, by unfold cm_look; rw [if_pos rfl], x2⟩
      · by_cases e : i = q.1
        · have := ab_pick_at h2 q hq
          rw [← e, h1] at this
          cases this
          exact ⟨x, by unfold cm_look; rw [if_pos e], x2⟩
        · obtain ⟨y, y1, y2⟩ := e2 q hq
          exact ⟨y, by unfold cm_look; rw [if_neg e]; exact y1, y2⟩
    · cases h
noncomputable def ab_all {α β : Type} (f : α → Option (List β)) : List α → Option (List β)
  | [] => some []
  | S :: r => match f S, ab_all f r with
    | some a, some b => some (a ++ b)
    | _, _ => none
theorem ab_all_ok {α β : Type} {f : α → Option (List β)} : ∀ {Ss : List α} {o : List β}, ab_all f Ss = some o → ∀ S ∈ Ss, ∃ o', f S = some o' ∧ ∀ x ∈ o', x ∈ o
  | [], o, h => fun S hS => nomatch hS
  | S :: r, o, h => by
    unfold ab_all at h
    split at h
    · rename_i a b ha hb
      cases h
      intro S' hS'
      rcases List.mem_cons.mp hS' with rfl | hS'
      · exact ⟨a, ha, fun x hx => List.mem_append_left _ hx⟩
      · obtain ⟨o', h1, h2⟩ := ab_all_ok hb S' hS'
        exact ⟨o', h1, fun x hx => List.mem_append_right _ (h2 x hx)⟩
    · cases h
noncomputable def ab_stop (stops : List (Nat × List Nat)) (k : ab_S → Option (List (Bool × ab_S))) (S : ab_S) : Option (List (Bool × ab_S)) := match ev_at stops S.1 with
  | none => k S
  | some live => (match ab_pick S.2.1 live with
    | some L => some [(true, S.1, L, S.2.2)]
    | none => none)
noncomputable def ol_0 : List ab_O := [ab_iconst, ab_bipush, ab_sipush, ab_lconst, ab_iload, ab_iloadn]
noncomputable def ol_1 : List ab_O := [ab_lload, ab_lloadn, ab_aload, ab_aloadn, ab_istore, ab_istoren]
noncomputable def ol_2 : List ab_O := [ab_lstore, ab_lstoren, ab_astore, ab_astoren, ab_iadd, ab_isub]
noncomputable def ol_3 : List ab_O := [ab_imul, ab_iand, ab_ior, ab_ixor, ab_ishl, ab_ishr]
noncomputable def ol_4 : List ab_O := [ab_iushr, ab_idiv, ab_irem, ab_ineg, ab_i2b, ab_i2l]
noncomputable def ol_5 : List ab_O := [ab_lcmp, ab_dup, ab_pop, ab_dup2, ab_iinc, ab_icmp_eq]
noncomputable def ol_6 : List ab_O := [ab_icmp_ne, ab_icmp_lt, ab_icmp_ge, ab_icmp_gt, ab_icmp_le, ab_if_eq]
noncomputable def ol_7 : List ab_O := [ab_if_ne, ab_if_lt, ab_if_ge, ab_if_gt, ab_if_le, ab_goto]
noncomputable def ol_8 : List ab_O := [ab_sw, ab_get, ab_put, ab_no, ab_iaload, ab_baload]
noncomputable def ol_9 : List ab_O := [ab_laload, ab_aaload, ab_iastore, ab_bastore, ab_no, ab_no]
noncomputable def ol_10 : List ab_O := [ab_no, ab_no, ab_no, ab_no, ab_alen, ab_no]
noncomputable def ol_11 : List ab_O := [ab_no, ab_mmin, ab_ldc, ab_ldcS, ab_getV, ab_getC]
noncomputable def ol_12 : List ab_O := [ab_gets, ab_alenS, ab_baloadS, ab_i2c, ab_ladd, ab_lsub]
noncomputable def ol_13 : List ab_O := [ab_lmul, ab_no, ab_no, ab_ldc2, ab_getsF, ab_ldcw]
noncomputable def ol_14 : List ab_O := [ab_mmax, ab_mabs, ab_copyi, ab_getT, ab_tald, ab_alenT]
noncomputable def ol_15 : List ab_O := [ab_lastore, ab_pop2]
theorem ap_at {α : Type} {A B : List α} {N k : Nat} {x y : Option α} (h : A.length = N) (hb : y = B[k - N]?) (ha : x = A[k]?) : cond (Nat.ble N k) y x = (A ++ B)[k]? := by
  subst h
  cases hk : Nat.ble A.length k with
  | true => exact hb.trans (List.getElem?_append_right (Nat.le_of_ble_eq_true hk)).symm
  | false =>
    have hlt : k < A.length := Nat.lt_of_not_le (fun z => by
      have := Nat.ble_eq_true_of_le z
      rw [hk] at this
      cases this)
    exact ha.trans (List.getElem?_append_left hlt).symm
noncomputable def ab_opF (k : Nat) : Option ab_O := cond (Nat.ble 48 k) (cond (Nat.ble 24 (k - 48)) (cond (Nat.ble 12 ((k - 48) - 24)) (cond (Nat.ble 6 (((k - 48) - 24) - 12)) (ol_15[(((k - 48) - 24) - 12) - 6]?) (ol_14[((k - 48) - 24) - 12]?)) (cond (Nat.ble 6 ((k - 48) - 24)) (ol_13[((k - 48) - 24) - 6]?) (ol_12[(k - 48) - 24]?))) (cond (Nat.ble 12 (k - 48)) (cond (Nat.ble 6 ((k - 48) - 12)) (ol_11[((k - 48) - 12) - 6]?) (ol_10[(k - 48) - 12]?)) (cond (Nat.ble 6 (k - 48)) (ol_9[(k - 48) - 6]?) (ol_8[k - 48]?)))) (cond (Nat.ble 24 k) (cond (Nat.ble 12 (k - 24)) (cond (Nat.ble 6 ((k - 24) - 12)) (ol_7[((k - 24) - 12) - 6]?) (ol_6[(k - 24) - 12]?)) (cond (Nat.ble 6 (k - 24)) (ol_5[(k - 24) - 6]?) (ol_4[k - 24]?))) (cond (Nat.ble 12 k) (cond (Nat.ble 6 (k - 12)) (ol_3[(k - 12) - 6]?) (ol_2[k - 12]?)) (cond (Nat.ble 6 k) (ol_1[k - 6]?) (ol_0[k]?))))
theorem ab_opF_eq (k : Nat) : ab_opF k = ab_ops[k]? := by
  have e : ab_ops = (((ol_0 ++ ol_1) ++ (ol_2 ++ ol_3)) ++ ((ol_4 ++ ol_5) ++ (ol_6 ++ ol_7))) ++ (((ol_8 ++ ol_9) ++ (ol_10 ++ ol_11)) ++ ((ol_12 ++ ol_13) ++ (ol_14 ++ ol_15))) := rfl
  rw [e]
  unfold ab_opF
  exact ap_at rfl (ap_at rfl (ap_at rfl (ap_at rfl rfl rfl) (ap_at rfl rfl rfl)) (ap_at rfl (ap_at rfl rfl rfl) (ap_at rfl rfl rfl))) (ap_at rfl (ap_at rfl (ap_at rfl rfl rfl) (ap_at rfl rfl rfl)) (ap_at rfl (ap_at rfl rfl rfl) (ap_at rfl rfl rfl)))
/-- rows: by the tail behind the last one -/
noncomputable def ab_srt : List (Nat × ev_Row) → Bool
  | [] => true
  | q :: l => (match l with
    | [] => true
    | p :: _ => Nat.blt q.1 p.1) && ab_srt l
theorem ab_srt_tl {q : Nat × ev_Row} {l : List (Nat × ev_Row)} (h : ab_srt (q :: l) = true) : ab_srt l = true := by
  unfold ab_srt at h
  rw [Bool.and_eq_true] at h
  exact h.2
theorem ab_srt_lt : ∀ {l : List (Nat × ev_Row)} {q : Nat × ev_Row}, ab_srt (q :: l) = true → ∀ x ∈ l, q.1 < x.1
  | [], q, _ => fun x hx => nomatch hx
  | p :: l, q, h => by
    have h2 := ab_srt_tl h
    have h : (Nat.blt q.1 p.1 && ab_srt (p :: l)) = true := h
    rw [Bool.and_eq_true] at h
    have h1 : q.1 < p.1 := Nat.le_of_ble_eq_true (show Nat.ble (q.1 + 1) p.1 = true from h.1)
    intro x hx
    rcases List.mem_cons.mp hx with rfl | hx
    · exact h1
    · exact Nat.lt_trans h1 (ab_srt_lt h2 x hx)
theorem ab_at_mid : ∀ {pre : List (Nat × ev_Row)} {q : Nat × ev_Row} {tl : List (Nat × ev_Row)}, ab_srt (pre ++ q :: tl) = true → ev_at (pre ++ q :: tl) q.1 = some q.2
  | [], q, tl, _ => by
    show cond (Nat.beq q.1 q.1) (some q.2) (ev_at tl q.1) = some q.2
    exact (congrArg (fun b => cond b (some q.2) (ev_at tl q.1)) (Nat.beq_refl q.1)).trans rfl
  | p :: pre, q, tl, h => by
    have h1 : p.1 < q.1 := ab_srt_lt (show ab_srt (p :: (pre ++ q :: tl)) = true from h) q (List.mem_append_right _ List.mem_cons_self)
    have h2 : ab_srt (pre ++ q :: tl) = true := ab_srt_tl (show ab_srt (p :: (pre ++ q :: tl)) = true from h)
    show cond (Nat.beq p.1 q.1) (some p.2) (ev_at (pre ++ q :: tl) q.1) = some q.2
    cases hb : Nat.beq p.1 q.1 with
    | true =>
      have := Nat.eq_of_beq_eq_true hb
      omega
    | false => exact ab_at_mid h2
noncomputable def ab_tl (rows : List (Nat × ev_Row)) (pc : Nat) : List (Nat × ev_Row) := List.rec (motive := fun _ => List (Nat × ev_Row)) [] (fun q l r => cond (Nat.beq q.1 pc) (q :: l) r) rows
theorem ab_tl_ok : ∀ {rows : List (Nat × ev_Row)} {pc : Nat} {q : Nat × ev_Row} {tl : List (Nat × ev_Row)}, ab_tl rows pc = q :: tl → q.1 = pc ∧ ∃ pre, rows = pre ++ q :: tl
  | [], pc, q, tl, h => by
    have h : ([] : List (Nat × ev_Row)) = q :: tl := h
    cases h
  | p :: l, pc, q, tl, h => by
    have h : cond (Nat.beq p.1 pc) (p :: l) (ab_tl l pc) = q :: tl := h
    cases hb : Nat.beq p.1 pc with
    | true =>
      rw [hb] at h
      have h : p :: l = q :: tl := h
      cases h
      exact ⟨Nat.eq_of_beq_eq_true hb, [], rfl⟩
    | false =>
      rw [hb] at h
      obtain ⟨h1, pre, h2⟩ := ab_tl_ok (show ab_tl l pc = q :: tl from h)
      exact ⟨h1, p :: pre, congrArg (List.cons p) h2⟩
noncomputable def ab_nx (rows tl : List (Nat × ev_Row)) (pc : Nat) : List (Nat × ev_Row) := match tl with
  | [] => ab_tl rows pc
  | q :: l => cond (Nat.beq q.1 pc) (q :: l) (ab_tl rows pc)
theorem ab_nx_ok {rows tl : List (Nat × ev_Row)} {pc : Nat} {q : Nat × ev_Row} {tl' : List (Nat × ev_Row)} (hs : ab_srt rows = true) (ht : ∃ pre, rows = pre ++ tl) (h : ab_nx rows tl pc = q :: tl') : ev_at rows pc = some q.2 ∧ q ∈ rows ∧ ∃ pre, rows = pre ++ tl' := by
  have k : q.1 = pc ∧ ∃ pre, rows = pre ++ q :: tl' := by
    cases tl with
    | nil => exact ab_tl_ok (show ab_tl rows pc = q :: tl' from h)
    | cons p l =>
      have h : cond (Nat.beq p.1 pc) (p :: l) (ab_tl rows pc) = q :: tl' := h
      cases hb : Nat.beq p.1 pc with
      | true =>
        rw [hb] at h
        have h : p :: l = q :: tl' := h
        cases h
        exact ⟨Nat.eq_of_beq_eq_true hb, ht⟩
      | false =>
        rw [hb] at h
        exact ab_tl_ok (show ab_tl rows pc = q :: tl' from h)
  obtain ⟨k1, pre, k2⟩ := k
  subst k1
  subst k2
  exact ⟨ab_at_mid hs, List.mem_append_right _ List.mem_cons_self, pre ++ [q], by simp⟩
/-- a run to its ends: at stops (true), at returns (false) -/
noncomputable def ab_runT (cl : ab_Cl) (h : ab_H) (md : ab_Md) (P : ev_P) (rows : List (Nat × ev_Row)) (stops : List (Nat × List Nat)) : Nat → List (Nat × ev_Row) → ab_S → Option (List (Bool × ab_S))
  | 0, _, _ => none
  | n + 1, tl, S => match ab_nx rows tl S.1 with
    | [] => none
    | r :: tl' =>
      if 210 ≤ r.2.1 then some [(false, S)]
      else if 200 ≤ r.2.1 then (match ab_inv cl r.2 S with
        | some Ss => ab_all (ab_stop stops (ab_runT cl h md P rows stops n tl')) Ss
        | none => none)
      else (match ab_opF r.2.1 with
        | some o => (match o h md P r.2.2 S with
          | some Ss => ab_all (ab_stop stops (ab_runT cl h md P rows stops n tl')) Ss
          | none => none)
        | none => none)
noncomputable def ab_run (cl : ab_Cl) (h : ab_H) (md : ab_Md) (P : ev_P) (rows : List (Nat × ev_Row)) (stops : List (Nat × List Nat)) (n : Nat) (S : ab_S) : Option (List (Bool × ab_S)) := cond (ab_srt rows) (ab_runT cl h md P rows stops n rows S) none
theorem ab_s_app {ρ : List Int32} : ∀ {a b : List ab_A} {x y : List Value}, ab_s ρ a x → ab_s ρ b y → ab_s ρ (a ++ b) (x ++ y)
  | [], _, [], _, _, h => h
  | [], _, _ :: _, _, h, _ => h.elim
  | _ :: _, _, [], _, h, _ => h.elim
  | _ :: _, _, _ :: _, _, h1, h2 => ⟨h1.1, ab_s_app h1.2 h2⟩
theorem ab_s_rev {ρ : List Int32} : ∀ {a : List ab_A} {x : List Value}, ab_s ρ a x → ab_s ρ a.reverse x.reverse
  | [], [], _ => trivial
  | [], _ :: _, h => h.elim
  | _ :: _, [], h => h.elim
  | a :: as, x :: xs, h => by
    rw [List.reverse_cons, List.reverse_cons]
    exact ab_s_app (ab_s_rev h.2) ⟨h.1, trivial⟩
theorem ab_s_split {ρ : List Int32} : ∀ (n : Nat) {a : List ab_A} {x : List Value}, ab_s ρ a x → ab_s ρ (a.take n) (x.take n) ∧ ab_s ρ (a.drop n) (x.drop n)
  | 0, _, _, h => ⟨trivial, h⟩
  | _ + 1, [], [], _ => ⟨trivial, trivial⟩
  | _ + 1, [], _ :: _, h => h.elim
  | _ + 1, _ :: _, [], h => h.elim
  | n + 1, _ :: _, _ :: _, h => ⟨⟨h.1, (ab_s_split n h.2).1⟩, (ab_s_split n h.2).2⟩
theorem ab_s_len {ρ : List Int32} : ∀ {a : List ab_A} {x : List Value}, ab_s ρ a x → a.length = x.length
  | [], [], _ => rfl
  | [], _ :: _, h => h.elim
  | _ :: _, [], h => h.elim
  | _ :: _, _ :: _, h => congrArg Nat.succ (ab_s_len h.2)
theorem ab_take_ok {ρ : List Int32} {recv : Bool} {n : Nat} {st as rest : List ab_A} {sc : List Value} (h : ab_take recv n st = some (as, rest)) (hs : ab_s ρ st sc) : ∃ vs restc, cm_take recv n sc = some (vs, restc) ∧ ab_s ρ as vs ∧ ab_s ρ rest restc := by
  obtain ⟨t1, t2⟩ := ab_s_split n hs
  have hl := ab_s_len t1
  unfold ab_take at h
  unfold cm_take
  split at h
  · rename_i hr
    rw [if_pos hr]
    split at h
    · rename_i x rest' hd
      split at h
      · rename_i hn
        cases h
        rw [hd] at t2
        obtain ⟨v, sc', e1, e2, e3⟩ := ab_s_cons t2
        rw [e1]
        dsimp only
        rw [if_pos (by rw [← hl]; exact hn)]
        exact ⟨_, _, rfl, ⟨e2, ab_s_rev t1⟩, e3⟩
      · cases h
    · cases h
  · rename_i hr
    rw [if_neg hr]
    split at h
    · rename_i hn
      cases h
      rw [if_pos (by rw [← hl]; exact hn)]
      exact ⟨_, _, rfl, ab_s_rev t1, t2⟩
    · cases h
section ABR
variable {ms : List ev_MI} {h : ab_H} {N : cm_M → Prop} {M0 : cm_M} {md : ab_Md} {d : Nat} {cl : ab_Cl} {E : cm_E} {P : ev_P} {rows : List (Nat × ev_Row)} {stops : List (Nat × List Nat)} {J : cm_S → Prop} {Z : Nat → cm_S → Prop}
/-- what a call may answer -/
noncomputable def ab_Post (h : ab_H) (N : cm_M → Prop) (M0 : cm_M) (md : ab_Md) (ρ : List Int32) (outs : List ab_Out) : cm_K := fun v M' => ∃ o ∈ outs, ∃ ext, ab_s (ρ ++ ext) o.1 v.toList ∧ ab_k (ρ ++ ext) o.2.1 ∧ ab_m h N M0 md (ρ ++ ext) o.2.2 M'
noncomputable def ab_ClOk (ms : List ev_MI) (h : ab_H) (N : cm_M → Prop) (M0 : cm_M) (md : ab_Md) (d : Nat) (cl : ab_Cl) : Prop := ∀ (k : Nat) (as : List ab_A) (K : ab_K) (Ca : ab_Ca) (outs : List ab_Out) (ρ : List Int32) (vs : List Value) (M : cm_M), cl k as K Ca = some outs → ab_s ρ as vs → ab_k ρ K → ab_m h N M0 md ρ Ca M → cm_Call ms d k vs M (ab_Post h N M0 md ρ outs)
theorem ab_inv_ok (hcl : ab_ClOk ms h N M0 md d cl) {q : Nat × ev_Row} (hrc : ab_RC ms q) (h200 : 200 ≤ q.2.1) (h210 : q.2.1 < 210) {S : ab_S} {Ss : List ab_S} {C : cm_S} {ρ : List Int32} {k : cm_S → Prop} (hi : ab_inv cl q.2 S = some Ss) (hG : ab_G h N M0 md ρ S C) (hk : ∀ S' ∈ Ss, ∀ (ext : List Int32) (C' : cm_S), ab_G h N M0 md (ρ ++ ext) S' C' → k C') : cm_inv ms (cm_Call ms d) q.2 C k := by
  obtain ⟨pc, L, st, K, Ca⟩ := S
  obtain ⟨cpc, CL, sc, M⟩ := C
  obtain ⟨e0, gl, gs, gk, gm⟩ := hG
  dsimp only at e0 gl gs gk gm
  subst e0
  obtain ⟨mi, hmi, hn, hrv⟩ := hrc h200 h210
  obtain ⟨qpc, op, t1, t2, t3, t4⟩ := q
  dsimp only at hmi hn hrv h200 h210 hi ⊢
  unfold ab_inv at hi
  dsimp only at hi
  split at hi
  · rename_i as rest htk
    split at hi
    · rename_i hc
      split at hi
      · rename_i outs hcall
        cases hi
        obtain ⟨vs, restc, e1, e2, e3⟩ := ab_take_ok htk gs
        unfold cm_inv
        dsimp only
        rw [hmi]
        dsimp only
        rw [e1]
        have hcs := ab_cs_ok e3
        refine ⟨by rw [hcs]; exact hc.1, hn, fun h2 => ?_, cm_Call_up (hcl _ _ _ _ _ ρ vs M hcall e2 gk gm) (Nat.le_refl _) (fun v M' hp => ?_)⟩
        · obtain ⟨ci, hci, hrecv⟩ : ∃ ci, t4 = [ci] ∧ ab_recv ci as = true := by
            have h3 := hc.2
            unfold ab_rcv at h3
            rw [if_pos h2] at h3
            split at h3
            · rename_i ci e
              exact ⟨ci, e, h3⟩
            · cases h3
          have hrv := hrv h2 ci hci
          unfold ab_recv at hrecv
          split at hrecv
          · rename_i a as'
            simp only [Bool.and_eq_true, decide_eq_true_eq] at hrecv
            obtain ⟨v, vs', rfl, hv, -⟩ := ab_s_cons e2
            obtain ⟨c, hc1, rfl⟩ := ab_v1 hrecv.1 hv
            have hcc := List.all_eq_true.mp hrecv.2 c hc1
            rcases hrv with ⟨h99, hs⟩ | ⟨h99, hs⟩
            · rw [if_pos h99] at hcc
              simp only [Bool.and_eq_true, decide_eq_true_eq] at hcc
              exact Or.inl ⟨hcc.1, hcc.2.1, hcc.2.2, hs⟩
            · rw [if_neg h99] at hcc
              simp only [decide_eq_true_eq] at hcc
              exact Or.inr (by rw [hcc]; exact hs)
          · cases hrecv
        · obtain ⟨o, ho, ext, p1, p2, p3⟩ := hp
          exact hk _ (List.mem_map.mpr ⟨o, ho, rfl⟩) ext (cpc + 3, CL, v.toList ++ restc, M') ⟨rfl, ab_l_ap gl, ab_s_app p1 (ab_s_ap e3), p2, p3⟩
      · cases hi
    · cases hi
  · cases hi
theorem ab_runT_ok (hN : ab_NP h N) (hcl : ab_ClOk ms h N M0 md d cl) (hrc : ∀ q ∈ rows, ab_RC ms q) (hs : ab_srt rows = true) : ∀ (n : Nat) (tl : List (Nat × ev_Row)) (S : ab_S) (fs : List (Bool × ab_S)) (C : cm_S) (ρ : List Int32), (∃ pre, rows = pre ++ tl) → ab_runT cl h md P rows stops n tl S = some fs → ab_G h N M0 md ρ S C → (∀ f ∈ fs, ∀ (ext : List Int32) (C' : cm_S), ab_G h N M0 md (ρ ++ ext) f.2 C' → (f.1 = true → J C') ∧ (f.1 = false → ∀ r, ev_at rows C'.1 = some r → 210 ≤ r.1 → Z r.1 C')) → cm_wp ms (cm_Call ms d) E P rows stops J Z n C
  | 0, tl, S, fs, C, ρ, _, hr, _, _ => by cases hr
  | n + 1, tl, S, fs, C, ρ, htl, hr, hG, hf => by
    have hst : ∀ (tl' : List (Nat × ev_Row)), (∃ pre, rows = pre ++ tl') → ∀ (Ss : List ab_S), ab_all (ab_stop stops (ab_runT cl h md P rows stops n tl')) Ss = some fs → ∀ S' ∈ Ss, ∀ (ext : List Int32) (C' : cm_S), ab_G h N M0 md (ρ ++ ext) S' C' → cm_stop stops J (cm_wp ms (cm_Call ms d) E P rows stops J Z n) C' := by
      intro tl' htl' Ss hall S' hS' ext C' hG'
      obtain ⟨o', h1, h2⟩ := ab_all_ok hall S' hS'
      unfold ab_stop at h1
      unfold cm_stop
      rw [hG'.1]
      split at h1
      · rename_i e
        rw [e]
        exact ab_runT_ok hN hcl hrc hs n tl' S' o' C' (ρ ++ ext) htl' h1 hG' (fun f hf1 ext' C2 hG2 => hf f (h2 f hf1) (ext ++ ext') C2 (by rw [← List.append_assoc]; exact hG2))
      · rename_i live e
        rw [e]
        split at h1
        · rename_i L' hL'
          cases h1
          obtain ⟨CL', e1, e2⟩ := ab_pick_ok hG'.2.1 hL'
          dsimp only
          rw [e1]
          exact (hf _ (h2 _ (List.mem_singleton.mpr rfl)) ext (S'.1, CL', C'.2.2) ⟨rfl, e2, hG'.2.2⟩).1 rfl
        · cases h1
    unfold ab_runT at hr
    unfold cm_wp
    rw [hG.1]
    split at hr
    · cases hr
    · rename_i r tl' hnx
      obtain ⟨hrr, hmem, htl'⟩ := ab_nx_ok hs htl hnx
      rw [hrr]
      dsimp only
      split at hr
      · rename_i h210
        rw [if_pos h210]
        cases hr
        exact (hf _ (List.mem_singleton.mpr rfl) [] C (by rw [ab_nil]; exact hG)).2 rfl r.2 (by rw [hG.1]; exact hrr) h210
      · rename_i h210
        rw [if_neg h210]
        split at hr
        · rename_i h200
          rw [if_pos h200]
          split at hr
          · rename_i Ss hSs
            exact ab_inv_ok hcl (hrc _ (ev_at_mem hrr)) h200 (by dsimp only; omega) hSs hG (hst tl' htl' Ss hr)
          · cases hr
        · rename_i h200
          rw [if_neg h200]
          split at hr
          · rename_i o ho
            split at hr
            · rename_i Ss hSs
              rw [ab_opF_eq] at ho
              obtain ⟨co, hco, hsnd⟩ := ab_All2_at ab_ops_ok r.2.1 o ho
              rw [hco]
              exact hsnd h N M0 md E P r.2.2 S Ss C ρ _ hN hSs hG (hst tl' htl' Ss hr)
            · cases hr
          · cases hr
theorem ab_run_ok (hN : ab_NP h N) (hcl : ab_ClOk ms h N M0 md d cl) (hrc : ∀ q ∈ rows, ab_RC ms q) (n : Nat) (S : ab_S) (fs : List (Bool × ab_S)) (C : cm_S) (ρ : List Int32) (hr : ab_run cl h md P rows stops n S = some fs) (hG : ab_G h N M0 md ρ S C) (hf : ∀ f ∈ fs, ∀ (ext : List Int32) (C' : cm_S), ab_G h N M0 md (ρ ++ ext) f.2 C' → (f.1 = true → J C') ∧ (f.1 = false → ∀ r, ev_at rows C'.1 = some r → 210 ≤ r.1 → Z r.1 C')) : cm_wp ms (cm_Call ms d) E P rows stops J Z n C := by
  unfold ab_run at hr
  cases hs : ab_srt rows with
  | true =>
    rw [hs] at hr
    exact ab_runT_ok hN hcl hrc hs n rows S fs C ρ ⟨[], rfl⟩ hr hG hf
  | false =>
    rw [hs] at hr
    have hr : (none : Option (List (Bool × ab_S))) = some fs := hr
    cases hr
end ABR
noncomputable def ab_eqA (a b : ab_A) : Bool := decide (a.1 = b.1) && (decide (a.2.1 = b.2.1) && decide (a.2.2 = b.2.2))
theorem ab_eqA_ok {a b : ab_A} (h : ab_eqA a b = true) : a = b := by
  obtain ⟨a1, a2, a3⟩ := a
  obtain ⟨b1, b2, b3⟩ := b
  simp only [ab_eqA, Bool.and_eq_true, decide_eq_true_eq] at h
  obtain ⟨rfl, rfl, rfl⟩ := h
  rfl
/-- a's value is as t says, t's variables being sg -/
noncomputable def ab_sub (K : ab_K) (sg : List ab_A) (t a : ab_A) : Bool := match t.1 with
  | 0 => ab_isI a && (decide ((ab_bd K a).1 = (Int32.ofInt t.2.1).toInt) && decide ((ab_bd K a).2 = (Int32.ofInt t.2.1).toInt))
  | 1 => decide (a.1 = 1) && a.2.2.all (fun c => t.2.2.contains c)
  | 2 => decide (a.1 = 2)
  | 3 => (match sg[t.2.1.toNat]? with
    | some b => ab_eqA b a && ab_isI a
    | none => false)
  | 6 => decide (a.1 = 6)
  | 7 => (decide (a.1 = 1) || (decide (a.1 = 2) || decide (a.1 = 7))) && a.2.2.all (fun c => t.2.2.contains c)
  | _ => false
noncomputable def ab_rT (ρ : List Int32) (sg : List ab_A) : List Int32 := sg.map (fun b => (ab_i ρ b).getD 0)
theorem ab_rT_at {ρ : List Int32} {sg : List ab_A} {j : Nat} {b : ab_A} {x : Int32} (h : sg[j]? = some b) (hb : ab_i ρ b = some x) : (ab_rT ρ sg)[j]? = some x := by
  unfold ab_rT
  rw [List.getElem?_map, h]
  simp [hb]
theorem ab_sub_ok {ρ : List Int32} {K : ab_K} {sg : List ab_A} {t a : ab_A} {v : Value} (h : ab_sub K sg t a = true) (hk : ab_k ρ K) (hv : ab_v ρ a v) : ab_v (ab_rT ρ sg) t v := by
  unfold ab_sub at h
  split at h
  · rename_i e
    simp only [Bool.and_eq_true, decide_eq_true_eq] at h
    obtain ⟨h1, h2, h3⟩ := h
    obtain ⟨x, hx, rfl⟩ := ab_vi h1 hv
    obtain ⟨b1, b2⟩ := ab_bd_in hk hx
    unfold ab_v
    rw [e]
    have : x = Int32.ofInt t.2.1 := Int32.toInt_inj.mp (by omega)
    show Value.int x = .int (Int32.ofInt t.2.1)
    rw [this]
  · rename_i e
    simp only [Bool.and_eq_true, decide_eq_true_eq] at h
    obtain ⟨c, hc, rfl⟩ := ab_v1 h.1 hv
    unfold ab_v
    rw [e]
    exact ⟨c, List.contains_iff_mem.mp (List.all_eq_true.mp h.2 c hc), rfl⟩
  · rename_i e
    have h := of_decide_eq_true h
    unfold ab_v at hv ⊢
    rw [h] at hv
    rw [e]
    exact hv
  · rename_i e
    split at h
    · rename_i b hb
      simp only [Bool.and_eq_true] at h
      cases ab_eqA_ok h.1
      obtain ⟨x, hx, rfl⟩ := ab_vi h.2 hv
      unfold ab_v
      rw [e]
      exact ⟨x, ab_rT_at hb hx, rfl⟩
    · cases h
  · rename_i e
    have h := of_decide_eq_true h
    obtain ⟨x, rfl⟩ := ab_v6 h hv
    unfold ab_v
    rw [e]
    exact ⟨x, rfl⟩
  · rename_i e
    simp only [Bool.and_eq_true, Bool.or_eq_true, decide_eq_true_eq] at h
    obtain ⟨h1, h2⟩ := h
    unfold ab_v
    rw [e]
    have hin : ∀ c, c ∈ a.2.2 → c ∈ t.2.2 := fun c hc => List.contains_iff_mem.mp (List.all_eq_true.mp h2 c hc)
    unfold ab_v at hv
    rcases h1 with h1 | h1 | h1
    · rw [h1] at hv
      obtain ⟨c, hc, rfl⟩ := hv
      exact Or.inr ⟨c, hin c hc, rfl⟩
    · rw [h1] at hv
      exact Or.inl hv
    · rw [h1] at hv
      rcases hv with hv | ⟨c, hc, rfl⟩
      · exact Or.inl hv
      · exact Or.inr ⟨c, hin c hc, rfl⟩
  · cases h
/-- a value that stands -/
noncomputable def ab_def (K : ab_K) (b : ab_A) : Bool := decide (b.1 = 0) || (decide (b.1 = 3) && decide (b.2.1.toNat < K.length))
theorem ab_def_ok {ρ : List Int32} {K : ab_K} {b : ab_A} (h : ab_def K b = true) (hk : ab_k ρ K) : ∃ x, ab_i ρ b = some x := by
  simp only [ab_def, Bool.or_eq_true, Bool.and_eq_true, decide_eq_true_eq] at h
  unfold ab_i
  rcases h with h | ⟨h, h2⟩
  · rw [h]; exact ⟨_, rfl⟩
  · rw [h]; exact ⟨_, List.getElem?_eq_getElem (by rw [← hk.1]; exact h2)⟩
noncomputable def ab_sb (sg : List ab_A) (a : ab_A) : ab_A := if a.1 = 3 then (match sg[a.2.1.toNat]? with
  | some b => b
  | none => (9, 0, [])) else a
theorem ab_sb_ok {ρ : List Int32} {sg : List ab_A} {a : ab_A} {y : Int32} (h : ab_i ρ (ab_sb sg a) = some y) : ab_i (ab_rT ρ sg) a = some y := by
  unfold ab_sb at h
  split at h
  · rename_i h3
    split at h
    · rename_i b hb
      unfold ab_i
      rw [h3]
      exact ab_rT_at hb h
    · cases h
  · rename_i h3
    unfold ab_i at h ⊢
    split at h
    · rename_i e; exact h
    · rename_i e; exact absurd e h3
    · cases h
/-- the template's knowledge holds -/
noncomputable def ab_kin (K : ab_K) (sg : List ab_A) (b : ab_A) (r : ab_Ke) : Bool := ab_def K b && (decide (r.1 ≤ (ab_bd K b).1) && (decide ((ab_bd K b).2 ≤ r.2.1) && (decide (r.2.2.1 = 0) || (decide (b.1 = 3) && (match K[b.2.1.toNat]? with
  | some q => decide (q.2.2.1 = r.2.2.1) && (decide (q.2.2.1 ≠ 0) && (ab_eqA q.2.2.2.1 (ab_sb sg r.2.2.2.1) && ab_eqA q.2.2.2.2 (ab_sb sg r.2.2.2.2)))
  | none => false)))))
noncomputable def ab_kins (K : ab_K) (sg : List ab_A) : List ab_A → ab_K → Bool
  | [], [] => true
  | b :: bs, r :: rs => ab_kin K sg b r && ab_kins K sg bs rs
  | _, _ => false
theorem ab_kins_at {K : ab_K} {sg : List ab_A} : ∀ {bs : List ab_A} {rs : ab_K}, ab_kins K sg bs rs = true → bs.length = rs.length ∧ ∀ (j : Nat) (b : ab_A) (r : ab_Ke), bs[j]? = some b → rs[j]? = some r → ab_kin K sg b r = true
  | [], [], _ => ⟨rfl, fun j b r h => by cases h⟩
  | [], _ :: _, h => by cases h
  | _ :: _, [], h => by cases h
  | b :: bs, r :: rs, h => by
    unfold ab_kins at h
    simp only [Bool.and_eq_true] at h
    obtain ⟨i1, i2⟩ := ab_kins_at h.2
    refine ⟨by rw [List.length_cons, List.length_cons, i1], fun j b' r' h1 h2 => ?_⟩
    cases j with
    | zero => cases h1; cases h2; exact h.1
    | succ j => exact i2 j b' r' h1 h2
theorem ab_kins_ok {ρ : List Int32} {K TK : ab_K} {sg : List ab_A} (hk : ab_k ρ K) (h : ab_kins K sg sg TK = true) : ab_k (ab_rT ρ sg) TK ∧ ∀ b ∈ sg, ∃ x, ab_i ρ b = some x := by
  obtain ⟨hl, hat⟩ := ab_kins_at h
  have hall : ∀ b ∈ sg, ∃ x, ab_i ρ b = some x := by
    intro b hb
    obtain ⟨j, hj⟩ := List.getElem?_of_mem hb
    have hlt : j < TK.length := by rw [← hl]; exact (List.getElem?_eq_some_iff.mp hj).1
    have h1 := hat j b _ hj (List.getElem?_eq_getElem hlt)
    unfold ab_kin at h1
    simp only [Bool.and_eq_true] at h1
    exact ab_def_ok h1.1 hk
  refine ⟨⟨by unfold ab_rT; rw [List.length_map, hl], fun j r x h1 h2 => ?_⟩, hall⟩
  have hlt : j < sg.length := by rw [hl]; exact (List.getElem?_eq_some_iff.mp h1).1
  have hb := List.getElem?_eq_getElem hlt
  obtain ⟨y, hy⟩ := hall _ (List.mem_of_getElem? hb)
  rw [ab_rT_at hb hy] at h2
  cases h2
  have h3 := hat j _ r hb h1
  unfold ab_kin at h3
  simp only [Bool.and_eq_true, Bool.or_eq_true, decide_eq_true_eq] at h3
  obtain ⟨d1, d2, d3, d4⟩ := h3
  obtain ⟨b1, b2⟩ := ab_bd_in hk hy
  refine ⟨⟨Int.le_trans d2 b1, Int.le_trans b2 d3⟩, ?_⟩
  rcases d4 with d4 | ⟨d4, d5⟩
  · exact Or.inl d4
  · refine Or.inr ?_
    split at d5
    · rename_i q hq
      simp only [Bool.and_eq_true, decide_eq_true_eq] at d5
      obtain ⟨f1, f2, f3, f4⟩ := d5
      have hy2 : ρ[(sg[j]).2.1.toNat]? = some x := by
        unfold ab_i at hy
        rw [d4] at hy
        exact hy
      rcases (hk.2 _ q x hq hy2).2 with hz | ⟨u, z, hu, hz, e⟩
      · exact absurd hz f2
      · rw [ab_eqA_ok f3] at hu
        rw [ab_eqA_ok f4] at hz
        exact ⟨u, z, ab_sb_ok hu, ab_sb_ok hz, by rw [← f1]; exact e⟩
    · cases d5
/-- entries of the memory that the template tells are read -/
noncomputable def ab_fill (h : ab_H) : ab_Ca → ab_K → ab_Ca → ab_K × ab_Ca
  | [], K, Ca => (K, Ca)
  | q :: r, K, Ca => if ab_isI q.2.2 = true ∧ ab_cf Ca q.1 q.2.1 = none then ab_fill h r (ab_ldI h K Ca [q.1] (some [q.2.1])).2.1 (ab_ldI h K Ca [q.1] (some [q.2.1])).2.2 else ab_fill h r K Ca
theorem ab_fill_ok {h : ab_H} {N : cm_M → Prop} {M0 : cm_M} {md : ab_Md} {M : cm_M} (hN : ab_NP h N) : ∀ (T : ab_Ca) {K : ab_K} {Ca : ab_Ca} {ρ : List Int32}, ab_k ρ K → ab_m h N M0 md ρ Ca M → ∃ ext, ab_k (ρ ++ ext) (ab_fill h T K Ca).1 ∧ ab_m h N M0 md (ρ ++ ext) (ab_fill h T K Ca).2 M
  | [], K, Ca, ρ, hk, hm => ⟨[], by rw [ab_nil]; exact hk, by rw [ab_nil]; exact hm⟩
  | q :: r, K, Ca, ρ, hk, hm => by
    unfold ab_fill
    split
    · obtain ⟨ext, k1, k2, k3⟩ := ab_ldI_ok (c := q.1) (i := q.2.1) hN hk hm (rfl : ab_ldI h K Ca [q.1] (some [q.2.1]) = (_, _, _)) (List.mem_singleton.mpr rfl) (List.mem_singleton.mpr rfl)
      obtain ⟨ext2, e1, e2⟩ := ab_fill_ok hN r k1 k3
      exact ⟨ext ++ ext2, by rw [← List.append_assoc]; exact e1, by rw [← List.append_assoc]; exact e2⟩
    · exact ab_fill_ok hN r hk hm
noncomputable def ab_subs (K : ab_K) (sg : List ab_A) : List ab_A → List ab_A → Bool
  | [], [] => true
  | t :: ts, a :: as => ab_sub K sg t a && ab_subs K sg ts as
  | _, _ => false
theorem ab_subs_ok {ρ : List Int32} {K : ab_K} {sg : List ab_A} (hk : ab_k ρ K) : ∀ {ts as : List ab_A} {vs : List Value}, ab_subs K sg ts as = true → ab_s ρ as vs → ab_s (ab_rT ρ sg) ts vs
  | [], [], [], _, _ => trivial
  | [], [], _ :: _, _, h => h.elim
  | [], _ :: _, _, h, _ => by cases h
  | _ :: _, [], _, h, _ => by cases h
  | _ :: _, _ :: _, [], _, h => h.elim
  | t :: ts, a :: as, v :: vs, h, hs => by
    unfold ab_subs at h
    simp only [Bool.and_eq_true] at h
    exact ⟨ab_sub_ok h.1 hk hs.1, ab_subs_ok hk h.2 hs.2⟩
noncomputable def ab_subL (K : ab_K) (sg : List ab_A) (TL L : List (Nat × ab_A)) : Bool := TL.all (fun q => match ev_at L q.1 with
  | some a => ab_sub K sg q.2 a
  | none => false)
theorem ab_subL_ok {ρ : List Int32} {K : ab_K} {sg : List ab_A} {TL L : List (Nat × ab_A)} {CL : List (Nat × Value)} (hk : ab_k ρ K) (h : ab_subL K sg TL L = true) (hl : ab_l ρ L CL) : ab_l (ab_rT ρ sg) TL CL := by
  intro q hq
  have h1 := List.all_eq_true.mp h q hq
  split at h1
  · rename_i a ha
    obtain ⟨v, x1, x2⟩ := hl _ (ev_at_mem ha)
    exact ⟨v, x1, ab_sub_ok h1 hk x2⟩
  · cases h1
noncomputable def ab_subC (h : ab_H) (K : ab_K) (sg : List ab_A) (T Ca : ab_Ca) : Bool := T.all (fun q => if ab_isI q.2.2 = true then (match ab_cf Ca q.1 q.2.1 with
    | some a => ab_isI a && ab_sub K sg q.2.2 a
    | none => false) else (match ab_ldR h Ca [q.1] [q.2.1] with
    | some a => ab_sub K sg q.2.2 a
    | none => false))
theorem ab_subC_ok {h : ab_H} {N : cm_M → Prop} {M0 : cm_M} {md : ab_Md} {ρ : List Int32} {K : ab_K} {sg : List ab_A} {T Ca : ab_Ca} {M : cm_M} (hk : ab_k ρ K) (hs : ab_subC h K sg T Ca = true) (hm : ab_m h N M0 md ρ Ca M) : ab_ca (ab_rT ρ sg) M T := by
  intro q hq
  have h1 := List.all_eq_true.mp hs q hq
  unfold ab_ce
  split
  · rename_i hI
    rw [if_pos hI] at h1
    split at h1
    · rename_i a ha
      simp only [Bool.and_eq_true] at h1
      have h2 := hm.2.2 _ (ab_cf_mem ha)
      unfold ab_ce at h2
      rw [if_pos h1.1] at h2
      exact ab_vint (ab_sub_ok h1.2 hk (ab_iv h2))
    · cases h1
  · rename_i hI
    rw [if_neg hI] at h1
    split at h1
    · rename_i a ha
      exact ab_sub_ok h1 hk (ab_ldR_ok hm ha (List.mem_singleton.mpr rfl) (List.mem_singleton.mpr rfl))
    · cases h1
/-- the template's variables, found where they stand -/
noncomputable def ab_prs (T S : ab_S) : List (ab_A × ab_A) := T.2.1.filterMap (fun q => (ev_at S.2.1 q.1).map (fun a => (q.2, a))) ++ (T.2.2.1.zip S.2.2.1 ++ T.2.2.2.2.filterMap (fun q => (ab_cf S.2.2.2.2 q.1 q.2.1).map (fun a => (q.2.2, a))))
noncomputable def ab_sgf (prs : List (ab_A × ab_A)) (j : Nat) : ab_A := match prs with
  | [] => (9, 0, [])
  | p :: r => if p.1.1 = 3 ∧ p.1.2.1 = (j : Int) then p.2 else ab_sgf r j
noncomputable def ab_sig (nE : Nat) (T S : ab_S) : List ab_A := (List.range T.2.2.2.1.length).map (fun j => if j < nE then ab_x j else ab_sgf (ab_prs T S) j)
/-- a value as another one and a number -/
noncomputable def ab_un1 (K : ab_K) (a : ab_A) : ab_A × Int := if a.1 = 3 then (match K[a.2.1.toNat]? with
  | some r => if r.2.2.1 = 1 ∧ r.2.2.2.2.1 = 0 ∧ -2147483648 ≤ (ab_bd K r.2.2.2.1).1 + (Int32.ofInt r.2.2.2.2.2.1).toInt ∧ (ab_bd K r.2.2.2.1).2 + (Int32.ofInt r.2.2.2.2.2.1).toInt ≤ 2147483647 then (r.2.2.2.1, (Int32.ofInt r.2.2.2.2.2.1).toInt) else (a, 0)
  | none => (a, 0)) else (a, 0)
theorem ab_un1_ok {ρ : List Int32} {K : ab_K} {a u : ab_A} {c : Int} {x : Int32} (hk : ab_k ρ K) (ha : ab_i ρ a = some x) (h : ab_un1 K a = (u, c)) : ∃ y, ab_i ρ u = some y ∧ x.toInt = y.toInt + c := by
  unfold ab_un1 at h
  split at h
  · rename_i h3
    split at h
    · rename_i r hr
      split at h
      · rename_i hc
        cases h
        have hx : ρ[a.2.1.toNat]? = some x := by
          unfold ab_i at ha
          rw [h3] at ha
          exact ha
        have hcn : ab_i ρ r.2.2.2.2 = some (Int32.ofInt r.2.2.2.2.2.1) := by
          unfold ab_i
          rw [hc.2.1]
          rfl
        rcases (hk.2 _ r x hr hx).2 with hz | ⟨y, z, hy, hz, e⟩
        · omega
        · rw [hcn] at hz
          cases hz
          obtain ⟨y1, y2⟩ := ab_bd_in hk hy
          rw [hc.1] at e
          have e : x = y + Int32.ofInt r.2.2.2.2.2.1 := e
          refine ⟨y, hy, ?_⟩
          rw [e, Int32.toInt_add]
          exact ev_bm (by omega) (by omega)
      · cases h
        exact ⟨x, ha, by omega⟩
    · cases h
      exact ⟨x, ha, by omega⟩
  · cases h
    exact ⟨x, ha, by omega⟩
/-- bounds of y - x that a relation tells -/
noncomputable def ab_rfd (y x : ab_A) : List ab_Ke → Option (Int × Int)
  | [] => none
  | r :: l => if r.2.2.1 = 22 ∧ ab_eqA r.2.2.2.1 y = true ∧ ab_eqA r.2.2.2.2 x = true then some (r.1, r.2.1) else ab_rfd y x l
theorem ab_rfd_ok {ρ : List Int32} {y x : ab_A} {yv xv : Int32} (hy : ab_i ρ y = some yv) (hx : ab_i ρ x = some xv) : ∀ {l : List ab_Ke} {b : Int × Int}, (∀ r ∈ l, ∃ w, ab_e ρ r w) → ab_rfd y x l = some b → ev_inb b (yv - xv)
  | [], b, _, h => by cases h
  | r :: l, b, hl, h => by
    unfold ab_rfd at h
    split at h
    · rename_i hc
      cases h
      obtain ⟨w, hw⟩ := hl r List.mem_cons_self
      rcases hw.2 with hz | ⟨y', x', h1, h2, e⟩
      · omega
      · rw [ab_eqA_ok hc.2.1, hy] at h1
        rw [ab_eqA_ok hc.2.2, hx] at h2
        cases h1
        cases h2
        rw [hc.1] at e
        have e : w = yv - xv := e
        rw [← e]
        exact hw.1
    · exact ab_rfd_ok hy hx (fun q hq => hl q (List.mem_cons_of_mem _ hq)) h
noncomputable def ab_df (K : ab_K) (y x : ab_A) : Int × Int :=
  let g := ev_bd 22 (ab_bd K y) (ab_bd K x)
  let u := ab_un1 K y
  let v := ab_un1 K x
  match ab_rfd u.1 v.1 K with
  | some b => if -2147483648 ≤ (ab_bd K u.1).1 - (ab_bd K v.1).2 ∧ (ab_bd K u.1).2 - (ab_bd K v.1).1 ≤ 2147483647 ∧ -2147483648 ≤ b.1 + u.2 - v.2 ∧ b.2 + u.2 - v.2 ≤ 2147483647 then (max g.1 (b.1 + u.2 - v.2), min g.2 (b.2 + u.2 - v.2)) else g
  | none => g
theorem ab_df_in {ρ : List Int32} {K : ab_K} {y x : ab_A} {yv xv : Int32} (hk : ab_k ρ K) (hy : ab_i ρ y = some yv) (hx : ab_i ρ x = some xv) : ev_inb (ab_df K y x) (ev_f 22 yv xv) := by
  have hg : ev_inb (ev_bd 22 (ab_bd K y) (ab_bd K x)) (ev_f 22 yv xv) := ev_bd_in (ab_bd_in hk hy) (ab_bd_in hk hx)
  obtain ⟨ua, uc, hua⟩ : ∃ a b, ab_un1 K y = (a, b) := ⟨_, _, rfl⟩
  obtain ⟨va, vc, hva⟩ : ∃ a b, ab_un1 K x = (a, b) := ⟨_, _, rfl⟩
  unfold ab_df
  rw [hua, hva]
  dsimp only
  split
  · rename_i b hb
    split
    · rename_i hc
      obtain ⟨u, hu, eu⟩ := ab_un1_ok hk hy hua
      obtain ⟨v, hv, ev⟩ := ab_un1_ok hk hx hva
      obtain ⟨b1, b2⟩ := ab_rfd_ok hu hv (ab_k_all hk) hb
      obtain ⟨u1, u2⟩ := ab_bd_in hk hu
      obtain ⟨v1, v2⟩ := ab_bd_in hk hv
      have e1 : (u - v).toInt = u.toInt - v.toInt := by
        rw [Int32.toInt_sub]
        exact ev_bm (by omega) (by omega)
      have e2 : (ev_f 22 yv xv).toInt = yv.toInt - xv.toInt := by
        show (yv - xv).toInt = _
        rw [Int32.toInt_sub]
        exact ev_bm (by omega) (by omega)
      obtain ⟨g1, g2⟩ := hg
      refine ⟨?_, ?_⟩
      · dsimp only; omega
      · dsimp only; omega
    · exact hg
  · exact hg
/-- the relations of the template, made new in the state -/
noncomputable def ab_rls (sg0 : List ab_A) : ab_K → List ab_A → ab_K → ab_K × List ab_A
  | r :: TK, b :: sg, K => if r.2.2.1 = 22 then
      (let q := ab_rls sg0 TK sg (K ++ [((ab_df K (ab_sb sg0 r.2.2.2.1) (ab_sb sg0 r.2.2.2.2)).1, (ab_df K (ab_sb sg0 r.2.2.2.1) (ab_sb sg0 r.2.2.2.2)).2, 22, ab_sb sg0 r.2.2.2.1, ab_sb sg0 r.2.2.2.2)])
       if ab_def K (ab_sb sg0 r.2.2.2.1) = true ∧ ab_def K (ab_sb sg0 r.2.2.2.2) = true then (q.1, ab_x K.length :: q.2) else (K, []))
    else (let q := ab_rls sg0 TK sg K
          (q.1, b :: q.2))
  | _, _, K => (K, [])
theorem ab_rls_ok {h : ab_H} {N : cm_M → Prop} {M0 : cm_M} {md : ab_Md} {Ca : ab_Ca} {M : cm_M} {sg0 : List ab_A} : ∀ (TK : ab_K) (sg : List ab_A) {K : ab_K} {ρ : List Int32}, ab_k ρ K → ab_m h N M0 md ρ Ca M → ∃ ext, ab_k (ρ ++ ext) (ab_rls sg0 TK sg K).1 ∧ ab_m h N M0 md (ρ ++ ext) Ca M
  | [], sg, K, ρ, hk, hm => ⟨[], by rw [ab_nil]; unfold ab_rls; exact hk, by rw [ab_nil]; exact hm⟩
  | _ :: _, [], K, ρ, hk, hm => ⟨[], by rw [ab_nil]; unfold ab_rls; exact hk, by rw [ab_nil]; exact hm⟩
  | r :: TK, b :: sg, K, ρ, hk, hm => by
    unfold ab_rls
    split
    · dsimp only
      split
      · rename_i hd
        obtain ⟨y, hy⟩ := ab_def_ok hd.1 hk
        obtain ⟨x, hx⟩ := ab_def_ok hd.2 hk
        have hk2 := ab_push hk (r := ((ab_df K (ab_sb sg0 r.2.2.2.1) (ab_sb sg0 r.2.2.2.2)).1, (ab_df K (ab_sb sg0 r.2.2.2.1) (ab_sb sg0 r.2.2.2.2)).2, 22, ab_sb sg0 r.2.2.2.1, ab_sb sg0 r.2.2.2.2)) (x := ev_f 22 y x) ⟨ab_df_in hk hy hx, Or.inr ⟨y, x, hy, hx, rfl⟩⟩
        obtain ⟨ext, e1, e2⟩ := ab_rls_ok (sg0 := sg0) TK sg hk2 (ab_m_ap hm)
        exact ⟨[ev_f 22 y x] ++ ext, by rw [← List.append_assoc]; exact e1, by rw [← List.append_assoc]; exact e2⟩
      · exact ⟨[], by rw [ab_nil]; exact hk, by rw [ab_nil]; exact hm⟩
    · dsimp only
      exact ab_rls_ok (sg0 := sg0) TK sg hk hm
noncomputable def ab_in (h : ab_H) (nE : Nat) (T S : ab_S) : Option (ab_K × ab_Ca × List ab_A) :=
  let f := ab_fill h T.2.2.2.2 S.2.2.2.1 S.2.2.2.2
  let g := ab_rls (ab_sig nE T (S.1, S.2.1, S.2.2.1, f.1, f.2)) T.2.2.2.1 (ab_sig nE T (S.1, S.2.1, S.2.2.1, f.1, f.2)) f.1
  if nE ≤ g.2.length ∧ (List.range nE).all (fun j => match g.2[j]? with
      | some b => ab_eqA b (ab_x j)
      | none => false) = true ∧ ab_kins g.1 g.2 g.2 T.2.2.2.1 = true ∧ ab_subL g.1 g.2 T.2.1 S.2.1 = true ∧ ab_subs g.1 g.2 T.2.2.1 S.2.2.1 = true ∧ ab_subC h g.1 g.2 T.2.2.2.2 f.2 = true then some (g.1, f.2, g.2) else none
theorem ab_sig_pre {nE : Nat} {sg : List ab_A} {ρ0 e : List Int32} (h0 : ρ0.length = nE) (hn : nE ≤ sg.length) (hs : (List.range nE).all (fun j => match sg[j]? with
      | some b => ab_eqA b (ab_x j)
      | none => false) = true) : ∃ eT, ab_rT (ρ0 ++ e) sg = ρ0 ++ eT := by
  refine ⟨(ab_rT (ρ0 ++ e) sg).drop nE, ?_⟩
  have : (ab_rT (ρ0 ++ e) sg).take nE = ρ0 := by
    apply List.ext_getElem?
    intro j
    by_cases hj : j < nE
    · rw [List.getElem?_take_of_lt hj]
      have h1 := List.all_eq_true.mp hs j (List.mem_range.mpr hj)
      split at h1
      · rename_i b hb
        have hb2 := ab_eqA_ok h1
        subst hb2
        rw [List.getElem?_eq_getElem (show j < ρ0.length by omega)]
        refine ab_rT_at hb ?_
        show (ρ0 ++ e)[((j : Int)).toNat]? = some ρ0[j]
        rw [Int.toNat_natCast, List.getElem?_append_left (by omega), List.getElem?_eq_getElem (by omega)]
      · cases h1
    · rw [List.getElem?_eq_none (by rw [List.length_take]; omega), List.getElem?_eq_none (by omega)]
  have h1 := List.take_append_drop nE (ab_rT (ρ0 ++ e) sg)
  rw [this] at h1
  exact h1.symm
theorem ab_in_ok {h : ab_H} {N : cm_M → Prop} {M0 : cm_M} {md : ab_Md} {nE : Nat} {T S : ab_S} {K1 : ab_K} {Ca1 : ab_Ca} {sg : List ab_A} {ρ0 e : List Int32} {C : cm_S} (hN : ab_NP h N) (hin : ab_in h nE T S = some (K1, Ca1, sg)) (h0 : ρ0.length = nE) (gl : ab_l (ρ0 ++ e) S.2.1 C.2.1) (gs : ab_s (ρ0 ++ e) S.2.2.1 C.2.2.1) (gk : ab_k (ρ0 ++ e) S.2.2.2.1) (gm : ab_m h N M0 md (ρ0 ++ e) S.2.2.2.2 C.2.2.2) :
    ∃ e1 eT, ab_k (ρ0 ++ e ++ e1) K1 ∧ ab_m h N M0 md (ρ0 ++ e ++ e1) Ca1 C.2.2.2 ∧ ab_rT (ρ0 ++ e ++ e1) sg = ρ0 ++ eT ∧ (∀ b ∈ sg, ∃ x, ab_i (ρ0 ++ e ++ e1) b = some x) ∧ ab_l (ρ0 ++ eT) T.2.1 C.2.1 ∧ ab_s (ρ0 ++ eT) T.2.2.1 C.2.2.1 ∧ ab_k (ρ0 ++ eT) T.2.2.2.1 ∧ ab_m h N M0 md (ρ0 ++ eT) T.2.2.2.2 C.2.2.2 := by
  unfold ab_in at hin
  dsimp only at hin
  split at hin
  · rename_i hc
    cases hin
    obtain ⟨c0, cp, c1, c2, c3, c4⟩ := hc
    obtain ⟨e1, k1, k2⟩ := ab_fill_ok hN T.2.2.2.2 gk gm
    obtain ⟨e2, k1, k2⟩ := ab_rls_ok (sg0 := ab_sig nE T (S.1, S.2.1, S.2.2.1, (ab_fill h T.2.2.2.2 S.2.2.2.1 S.2.2.2.2).1, (ab_fill h T.2.2.2.2 S.2.2.2.1 S.2.2.2.2).2)) T.2.2.2.1 (ab_sig nE T (S.1, S.2.1, S.2.2.1, (ab_fill h T.2.2.2.2 S.2.2.2.1 S.2.2.2.2).1, (ab_fill h T.2.2.2.2 S.2.2.2.1 S.2.2.2.2).2)) k1 k2
    rw [List.append_assoc (ρ0 ++ e)] at k1 k2
    obtain ⟨r1, r2⟩ := ab_kins_ok k1 c1
    obtain ⟨eT, hT⟩ := ab_sig_pre (e := e ++ (e1 ++ e2)) h0 c0 cp
    rw [← List.append_assoc] at hT
    refine ⟨e1 ++ e2, eT, k1, k2, hT, r2, ?_, ?_, ?_, k2.1, k2.2.1, ?_⟩
    · rw [← hT]; exact ab_subL_ok k1 c2 (ab_l_ap gl)
    · rw [← hT]; exact ab_subs_ok k1 c3 (ab_s_ap gs)
    · rw [← hT]; exact r1
    · rw [← hT]; exact ab_subC_ok k1 c4 k2
  · cases hin
noncomputable abbrev ab_Ct : Type := Nat × List ab_A × ab_K × ab_Ca × ab_Md × List ab_Out
noncomputable def ab_CT (ms : List ev_MI) (h : ab_H) (N : cm_M → Prop) (d : Nat) (c : ab_Ct) : Prop := ∀ (ρ : List Int32) (vs : List Value) (M : cm_M), ab_s ρ c.2.1 vs → ab_k ρ c.2.2.1 → ab_ok h N M → ab_ca ρ M c.2.2.2.1 → cm_Call ms d c.1 vs M (ab_Post h N M c.2.2.2.2.1 ρ c.2.2.2.2.2)
noncomputable def ab_mds (a b : ab_Md) : Bool := a.all (fun q => match ev_at b q.1 with
  | some l => l.isEmpty || (!(q.2.isEmpty) && q.2.all (fun i => l.contains i))
  | none => false)
theorem ab_mds_ok {a b : ab_Md} (h : ab_mds a b = true) {c i : Nat} (hb : ab_inM b c i = false) : ab_inM a c i = false := by
  cases ha : ab_inM a c i with
  | false => rfl
  | true =>
    unfold ab_inM at ha
    split at ha
    · rename_i l hl
      have h1 := List.all_eq_true.mp h _ (ev_at_mem hl)
      dsimp only at h1
      unfold ab_inM at hb
      split at h1
      · rename_i l2 hl2
        rw [hl2] at hb
        simp only [Bool.or_eq_false_iff] at hb
        simp only [Bool.or_eq_true, Bool.and_eq_true, Bool.not_eq_true'] at h1
        rcases h1 with h1 | ⟨h1, h2⟩
        · rw [hb.1] at h1; cases h1
        · simp only [Bool.or_eq_true] at ha
          rcases ha with ha | ha
          · rw [h1] at ha; cases ha
          · have h3 := List.all_eq_true.mp h2 i (List.contains_iff_mem.mp ha)
            rw [hb.2] at h3
            cases h3
      · cases h1
    · cases ha
/-- a contract's variables at a call: those of its start by sg, new ones behind -/
noncomputable def ab_tv (sg : List ab_A) (n : Nat) (a : ab_A) : ab_A := if a.1 = 3 then (match sg[a.2.1.toNat]? with
  | some b => b
  | none => ab_x (n + (a.2.1.toNat - sg.length))) else a
noncomputable def ab_tk (sg : List ab_A) (n : Nat) (r : ab_Ke) : ab_Ke := (r.1, r.2.1, r.2.2.1, ab_tv sg n r.2.2.2.1, ab_tv sg n r.2.2.2.2)
theorem ab_tv_i {ρ ext : List Int32} {sg : List ab_A} {n : Nat} (hn : n = ρ.length) (hsg : ∀ b ∈ sg, ∃ x, ab_i ρ b = some x) {a : ab_A} {y : Int32} (h : ab_i (ab_rT ρ sg ++ ext) a = some y) : ab_i (ρ ++ ext) (ab_tv sg n a) = some y := by
  unfold ab_tv
  split
  · rename_i h3
    unfold ab_i at h
    rw [h3] at h
    have h : (ab_rT ρ sg ++ ext)[a.2.1.toNat]? = some y := h
    have hlen : (ab_rT ρ sg).length = sg.length := by unfold ab_rT; rw [List.length_map]
    split
    · rename_i b hb
      have hlt := (List.getElem?_eq_some_iff.mp hb).1
      rw [List.getElem?_append_left (by rw [hlen]; exact hlt)] at h
      obtain ⟨x, hx⟩ := hsg b (List.mem_of_getElem? hb)
      rw [ab_rT_at hb hx] at h
      cases h
      exact ab_i_ap hx
    · rename_i hb
      have hge : sg.length ≤ a.2.1.toNat := List.getElem?_eq_none_iff.mp hb
      rw [List.getElem?_append_right (by rw [hlen]; exact hge), hlen] at h
      unfold ab_x ab_i
      dsimp only
      rw [Int.toNat_natCast, List.getElem?_append_right (by omega)]
      rw [show n + (a.2.1.toNat - sg.length) - ρ.length = a.2.1.toNat - sg.length by omega]
      exact h
  · rename_i h3
    unfold ab_i at h ⊢
    split at h
    · exact h
    · rename_i e; exact absurd e h3
    · cases h
theorem ab_tv_v {ρ ext : List Int32} {sg : List ab_A} {n : Nat} (hn : n = ρ.length) (hsg : ∀ b ∈ sg, ∃ x, ab_i ρ b = some x) {a : ab_A} {v : Value} (h : ab_v (ab_rT ρ sg ++ ext) a v) : ab_v (ρ ++ ext) (ab_tv sg n a) v := by
  by_cases h3 : a.1 = 3
  · obtain ⟨x, hx, rfl⟩ := ab_vi (by unfold ab_isI; rw [h3]; rfl) h
    exact ab_iv (ab_tv_i hn hsg hx)
  · have e : ab_tv sg n a = a := by unfold ab_tv; rw [if_neg h3]
    rw [e]
    unfold ab_v at h ⊢
    split at h
    · exact h
    · exact h
    · exact h
    · rename_i e2; exact absurd e2 h3
    · exact h
    · exact h
    · exact h
theorem ab_tv_s {ρ ext : List Int32} {sg : List ab_A} {n : Nat} (hn : n = ρ.length) (hsg : ∀ b ∈ sg, ∃ x, ab_i ρ b = some x) : ∀ {st : List ab_A} {vs : List Value}, ab_s (ab_rT ρ sg ++ ext) st vs → ab_s (ρ ++ ext) (st.map (ab_tv sg n)) vs
  | [], [], _ => trivial
  | [], _ :: _, h => h.elim
  | _ :: _, [], h => h.elim
  | _ :: _, _ :: _, h => ⟨ab_tv_v hn hsg h.1, ab_tv_s hn hsg h.2⟩
theorem ab_tv_isI {ρ : List Int32} {sg : List ab_A} {n : Nat} (hsg : ∀ b ∈ sg, ∃ x, ab_i ρ b = some x) (a : ab_A) : ab_isI (ab_tv sg n a) = ab_isI a := by
  unfold ab_tv
  split
  · rename_i h3
    have e : ab_isI a = true := by unfold ab_isI; rw [h3]; rfl
    rw [e]
    split
    · rename_i b hb
      obtain ⟨x, hx⟩ := hsg b (List.mem_of_getElem? hb)
      exact ab_ivI hx
    · rfl
  · rfl
/-- an end's bounds of the start's variables are known behind the call -/
noncomputable def ab_rf : List ab_A → ab_K → ab_K → ab_K
  | b :: sg, r :: eK, K => ab_rf sg eK (ab_set1 K b (max (ab_bd K b).1 r.1, min (ab_bd K b).2 r.2.1))
  | _, _, K => K
theorem ab_set1_len (K : ab_K) (a : ab_A) (b : Int × Int) : (ab_set1 K a b).length = K.length := by
  unfold ab_set1
  split
  · split
    · rw [List.length_set]
    · rfl
  · rfl
theorem ab_rf_len : ∀ (sg : List ab_A) (eK K : ab_K), (ab_rf sg eK K).length = K.length
  | [], _, K => by unfold ab_rf; rfl
  | _ :: _, [], K => by unfold ab_rf; rfl
  | b :: sg, r :: eK, K => by
    unfold ab_rf
    rw [ab_rf_len, ab_set1_len]
theorem ab_rf_ok {ρ : List Int32} : ∀ (sg : List ab_A) (eK : ab_K) {K : ab_K}, (∀ (j : Nat) (b : ab_A) (r : ab_Ke), sg[j]? = some b → eK[j]? = some r → ∃ x, ab_i ρ b = some x ∧ ev_inb (r.1, r.2.1) x) → ab_k ρ K → ab_k ρ (ab_rf sg eK K)
  | [], _, K, _, hk => by unfold ab_rf; exact hk
  | _ :: _, [], K, _, hk => by unfold ab_rf; exact hk
  | b :: sg, r :: eK, K, hj, hk => by
    unfold ab_rf
    obtain ⟨x, hx, hb⟩ := hj 0 b r rfl rfl
    have h1 := ab_bd_in hk hx
    obtain ⟨a1, a2⟩ := h1
    obtain ⟨b1, b2⟩ := hb
    dsimp only at b1 b2
    exact ab_rf_ok sg eK (fun j b' r' e1 e2 => hj (j + 1) b' r' e1 e2) (ab_set1_ok hk hx ⟨by dsimp only; omega, by dsimp only; omega⟩)
noncomputable def ab_use (h : ab_H) (md : ab_Md) (c : ab_Ct) (as : List ab_A) (K : ab_K) (Ca : ab_Ca) : Option (List ab_Out) :=
  if ab_mds c.2.2.2.2.1 md = true then (match ab_in h 0 (0, [], c.2.1, c.2.2.1, c.2.2.2.1) (0, [], as, K, Ca) with
    | some (K1, Ca1, sg) => some (c.2.2.2.2.2.map (fun e => (e.1.map (ab_tv sg K1.length), ab_rf sg e.2.1 K1 ++ (e.2.1.drop sg.length).map (ab_tk sg K1.length), Ca1.filter (fun q => !(ab_inM c.2.2.2.2.1 q.1 q.2.1)) ++ e.2.2.map (fun q => (q.1, q.2.1, ab_tv sg K1.length q.2.2)))))
    | none => none) else none
theorem ab_use_ok {ms : List ev_MI} {h : ab_H} {N : cm_M → Prop} {M0 : cm_M} {md : ab_Md} {d : Nat} {c : ab_Ct} (hN : ab_NP h N) (hc : ab_CT ms h N d c) {as : List ab_A} {K : ab_K} {Ca : ab_Ca} {outs : List ab_Out} {ρ : List Int32} {vs : List Value} {M : cm_M} (hu : ab_use h md c as K Ca = some outs) (gs : ab_s ρ as vs) (gk : ab_k ρ K) (gm : ab_m h N M0 md ρ Ca M) : cm_Call ms d c.1 vs M (ab_Post h N M0 md ρ outs) := by
  unfold ab_use at hu
  split at hu
  · rename_i hmd
    split at hu
    · rename_i K1 Ca1 sg hin
      cases hu
      obtain ⟨e1, eT, k1, k2, k3, k4, -, k6, k7, k8⟩ := ab_in_ok (N := N) (M0 := M0) (md := md) (ρ0 := []) (e := ρ) (C := (0, [], vs, M)) hN hin rfl (fun q hq => nomatch hq) gs gk gm
      rw [List.nil_append] at k1 k2 k3 k4 k6 k7 k8
      dsimp only at k6 k7 k8 k2
      rw [List.nil_append] at k3
      rw [← k3] at k6 k7 k8
      refine cm_Call_up (hc _ vs M k6 k7 k8.1 k8.2.2) (Nat.le_refl _) (fun v M' hp => ?_)
      obtain ⟨o, ho, ext, p1, p2, p3⟩ := hp
      have hn : K1.length = (ρ ++ e1).length := k1.1
      have hlen : (ab_rT (ρ ++ e1) sg).length = sg.length := by unfold ab_rT; rw [List.length_map]
      refine ⟨_, List.mem_map.mpr ⟨o, ho, rfl⟩, e1 ++ ext, ?_, ?_, p3.1, ?_, ?_⟩
      · rw [← List.append_assoc]
        exact ab_tv_s hn k4 p1
      · rw [← List.append_assoc]
        have hol : o.2.1.length = sg.length + ext.length := by rw [p2.1, List.length_append, hlen]
        have hrf : ab_k (ρ ++ e1) (ab_rf sg o.2.1 K1) := by
          refine ab_rf_ok sg o.2.1 (fun j b r g1 g2 => ?_) k1
          obtain ⟨x, hx⟩ := k4 b (List.mem_of_getElem? g1)
          have g3 := ab_rT_at g1 hx
          exact ⟨x, hx, (p2.2 j r x g2 (ev_ap g3)).1⟩
        have hrl := ab_rf_len sg o.2.1 K1
        refine ⟨by simp only [List.length_append, List.length_map, List.length_drop]; rw [hrl, hn, hol, List.length_append]; omega, fun j r x h1 h2 => ?_⟩
        by_cases hj : j < K1.length
        · rw [List.getElem?_append_left (by rw [hrl]; exact hj)] at h1
          rw [List.getElem?_append_left (by rw [← hn]; exact hj)] at h2
          exact ab_e_ap (hrf.2 j r x h1 h2)
        · rw [List.getElem?_append_right (by rw [hrl]; omega), List.getElem?_map, List.getElem?_drop, hrl] at h1
          rw [List.getElem?_append_right (by rw [← hn]; omega)] at h2
          cases hz : o.2.1[sg.length + (j - K1.length)]? with
          | none => rw [hz] at h1; cases h1
          | some r0 =>
            rw [hz] at h1
            cases h1
            have h5 := p2.2 (sg.length + (j - K1.length)) r0 x hz (by
              rw [List.getElem?_append_right (by rw [hlen]; omega), hlen, show sg.length + (j - K1.length) - sg.length = j - (ρ ++ e1).length by omega]
              exact h2)
            refine ⟨h5.1, ?_⟩
            rcases h5.2 with h6 | ⟨y, z, hy, hz2, e⟩
            · exact Or.inl h6
            · exact Or.inr ⟨y, z, ab_tv_i hn k4 hy, ab_tv_i hn k4 hz2, e⟩
      · intro c' i' hm'
        obtain ⟨f1, f2, f3⟩ := p3.2.1 c' i' (ab_mds_ok hmd hm')
        obtain ⟨g1, g2, g3⟩ := k2.2.1 c' i' hm'
        exact ⟨f1.trans g1, f2.trans g2, f3.trans g3⟩
      · intro q hq
        rw [← List.append_assoc]
        rcases List.mem_append.mp hq with hq | hq
        · obtain ⟨q1, q2⟩ := List.mem_filter.mp hq
          have q2 : ab_inM c.2.2.2.2.1 q.1 q.2.1 = false := by simpa using q2
          obtain ⟨f1, -, f3⟩ := p3.2.1 q.1 q.2.1 q2
          exact ab_ce_ap (ab_ce_ne f1 f3 (k2.2.2 q q1))
        · obtain ⟨q0, h0, rfl⟩ := List.mem_map.mp hq
          have h1 := p3.2.2 q0 h0
          unfold ab_ce at h1 ⊢
          dsimp only
          rw [ab_tv_isI k4]
          split
          · rename_i hI
            rw [if_pos hI] at h1
            exact ab_tv_i hn k4 h1
          · rename_i hI
            rw [if_neg hI] at h1
            exact ab_tv_v hn k4 h1
    · cases hu
  · cases hu
noncomputable def ab_uses (h : ab_H) (md : ab_Md) (us : List ab_Ct) (k : Nat) (as : List ab_A) (K : ab_K) (Ca : ab_Ca) : Option (List ab_Out) := match us with
  | [] => none
  | c :: r => if c.1 = k then (match ab_use h md c as K Ca with
      | some o => some o
      | none => ab_uses h md r k as K Ca) else ab_uses h md r k as K Ca
theorem ab_uses_ok {ms : List ev_MI} {h : ab_H} {N : cm_M → Prop} {M0 : cm_M} {md : ab_Md} {d : Nat} (hN : ab_NP h N) : ∀ {us : List ab_Ct}, (∀ c ∈ us, ab_CT ms h N d c) → ab_ClOk ms h N M0 md d (ab_uses h md us)
  | [], _ => fun k as K Ca outs ρ vs M hu => by cases hu
  | c :: r, hus => fun k as K Ca outs ρ vs M hu gs gk gm => by
    have ih := ab_uses_ok hN (M0 := M0) (md := md) (us := r) (fun x hx => hus x (List.mem_cons_of_mem _ hx))
    unfold ab_uses at hu
    split at hu
    · rename_i hk
      split at hu
      · rename_i o ho
        cases hu
        rw [← hk]
        exact ab_use_ok hN (hus c List.mem_cons_self) ho gs gk gm
      · exact ih k as K Ca outs ρ vs M hu gs gk gm
    · exact ih k as K Ca outs ρ vs M hu gs gk gm
noncomputable def ab_ret (ret : Option FieldType) (rows : List (Nat × ev_Row)) (S : ab_S) : Bool := match ev_at rows S.1 with
  | some r => (match r.1, ret, S.2.2.1 with
    | 210, some .int, [a] => ab_isI a
    | 210, some .boolean, [a] => ab_isI a && (decide (0 ≤ (ab_bd S.2.2.2.1 a).1) && decide ((ab_bd S.2.2.2.1 a).2 ≤ 1))
    | 210, some .char, [a] => ab_isI a && (decide (0 ≤ (ab_bd S.2.2.2.1 a).1) && decide ((ab_bd S.2.2.2.1 a).2 ≤ 65535))
    | 210, some .byte, [a] => ab_isI a && (decide (0 ≤ (ab_bd S.2.2.2.1 a).1) && decide ((ab_bd S.2.2.2.1 a).2 ≤ 0))
    | 211, some .long, [a] => decide (a.1 = 6)
    | 212, some (.object _), [a] => decide (a.1 = 1)
    | 213, none, [] => true
    | _, _, _ => false)
  | none => false
theorem ab_ret_ok {h : ab_H} {N : cm_M → Prop} {M0 : cm_M} {md : ab_Md} {ret : Option FieldType} {rows : List (Nat × ev_Row)} {S : ab_S} {C : cm_S} {ρ : List Int32} {Post : cm_K} {r : ev_Row} (hr : ab_ret ret rows S = true) (hG : ab_G h N M0 md ρ S C) (he : ev_at rows C.1 = some r) (hp : ∀ v : Option Value, ab_s ρ S.2.2.1 v.toList → Post v C.2.2.2) : cm_ret ret Post r.1 C := by
  obtain ⟨pc, L, st, K, Ca⟩ := S
  obtain ⟨cpc, CL, sc, M⟩ := C
  obtain ⟨e0, gl, gs, gk, gm⟩ := hG
  dsimp only at e0 gl gs gk gm hp he
  subst e0
  unfold ab_ret at hr
  dsimp only at hr
  rw [he] at hr
  dsimp only at hr
  split at hr
  · rename_i a0 e1
    obtain ⟨v, sc', rfl, hv, gs'⟩ := ab_s_cons gs
    cases ab_s_nil gs'
    obtain ⟨x, hx, rfl⟩ := ab_vi hr hv
    rw [e1]
    exact hp (some (.int x)) ⟨hv, trivial⟩
  · rename_i a0 e1
    simp only [Bool.and_eq_true, decide_eq_true_eq] at hr
    obtain ⟨v, sc', rfl, hv, gs'⟩ := ab_s_cons gs
    cases ab_s_nil gs'
    obtain ⟨x, hx, rfl⟩ := ab_vi hr.1 hv
    obtain ⟨b1, b2⟩ := ab_bd_in gk hx
    rw [e1]
    refine ⟨?_, hp (some (.int x)) ⟨hv, trivial⟩⟩
    have : x.toInt = 0 ∨ x.toInt = 1 := by omega
    rcases this with h0 | h0
    · exact Or.inl (Int32.toInt_inj.mp (by rw [h0]; rfl))
    · exact Or.inr (Int32.toInt_inj.mp (by rw [h0]; rfl))
  · rename_i a0 e1
    simp only [Bool.and_eq_true, decide_eq_true_eq] at hr
    obtain ⟨v, sc', rfl, hv, gs'⟩ := ab_s_cons gs
    cases ab_s_nil gs'
    obtain ⟨x, hx, rfl⟩ := ab_vi hr.1 hv
    obtain ⟨b1, b2⟩ := ab_bd_in gk hx
    rw [e1]
    exact ⟨by omega, by omega, hp (some (.int x)) ⟨hv, trivial⟩⟩
  · rename_i a0 e1
    simp only [Bool.and_eq_true, decide_eq_true_eq] at hr
    obtain ⟨v, sc', rfl, hv, gs'⟩ := ab_s_cons gs
    cases ab_s_nil gs'
    obtain ⟨x, hx, rfl⟩ := ab_vi hr.1 hv
    obtain ⟨b1, b2⟩ := ab_bd_in gk hx
    rw [e1]
    exact ⟨Int32.toInt_inj.mp (by have : x.toInt = 0 := by omega
                                  rw [this]; rfl), hp (some (.int x)) ⟨hv, trivial⟩⟩
  · rename_i a0 e1
    obtain ⟨v, sc', rfl, hv, gs'⟩ := ab_s_cons gs
    cases ab_s_nil gs'
    obtain ⟨x, rfl⟩ := ab_v6 (of_decide_eq_true hr) hv
    rw [e1]
    exact hp (some (.long x)) ⟨hv, trivial⟩
  · rename_i a0 e1
    obtain ⟨v, sc', rfl, hv, gs'⟩ := ab_s_cons gs
    cases ab_s_nil gs'
    obtain ⟨x, -, rfl⟩ := ab_v1 (of_decide_eq_true hr) hv
    rw [e1]
    exact hp (some (.ref x)) ⟨hv, trivial⟩
  · rename_i e1
    cases ab_s_nil gs
    rw [e1]
    exact hp none trivial
  · cases hr
noncomputable def ab_args : Nat → List ab_A → List (Nat × ab_A)
  | _, [] => []
  | i, a :: as => (i, a) :: ab_args (i + if a.1 = 6 then 2 else 1) as
theorem ab_args_ge : ∀ (as : List ab_A) (i : Nat), ∀ q ∈ ab_args i as, i ≤ q.1
  | [], i, q, hq => nomatch hq
  | a :: as, i, q, hq => by
    unfold ab_args at hq
    rcases List.mem_cons.mp hq with rfl | hq
    · exact Nat.le_refl _
    · have := ab_args_ge as _ q hq
      omega
theorem ab_args_ok {ρ : List Int32} : ∀ {as : List ab_A} {vs : List Value} (i : Nat), ab_s ρ as vs → ab_l ρ (ab_args i as) (cm_args i vs)
  | [], [], i, _ => fun q hq => nomatch hq
  | [], _ :: _, _, h => h.elim
  | _ :: _, [], _, h => h.elim
  | a :: as, v :: vs, i, h => by
    intro q hq
    unfold ab_args at hq
    unfold cm_args cm_look
    rcases List.mem_cons.mp hq with rfl | hq
    · rw [if_pos rfl]
      exact ⟨v, rfl, h.1⟩
    · have hge := ab_args_ge as _ q hq
      have hne : ¬ i = q.1 := by
        have : 1 ≤ (if a.1 = 6 then 2 else 1) := by split <;> omega
        omega
      rw [if_neg hne]
      have hcat : v.category = (if a.1 = 6 then 2 else 1) := by
        rcases ab_cat h.1 with ⟨h1, h2⟩ | ⟨h1, h2⟩
        · rw [h2, if_pos h1]
        · rw [h2, if_neg h1]
      rw [hcat]
      exact ab_args_ok _ h.2 q hq
noncomputable def ab_outs (ret : Option FieldType) (rows : List (Nat × ev_Row)) : List (Bool × ab_S) → Option (List ab_Out)
  | [] => some []
  | f :: r => if f.1 = false ∧ ab_ret ret rows f.2 = true then (match ab_outs ret rows r with
      | some o => some ((f.2.2.2.1, f.2.2.2.2.1, f.2.2.2.2.2) :: o)
      | none => none) else none
theorem ab_outs_ok {ret : Option FieldType} {rows : List (Nat × ev_Row)} : ∀ {fs : List (Bool × ab_S)} {o : List ab_Out}, ab_outs ret rows fs = some o → ∀ f ∈ fs, f.1 = false ∧ ab_ret ret rows f.2 = true ∧ (f.2.2.2.1, f.2.2.2.2.1, f.2.2.2.2.2) ∈ o
  | [], o, h => fun f hf => nomatch hf
  | g :: r, o, h => by
    unfold ab_outs at h
    split at h
    · rename_i hc
      split at h
      · rename_i o' ho
        cases h
        intro f hf
        rcases List.mem_cons.mp hf with rfl | hf
        · exact ⟨hc.1, hc.2, List.mem_cons_self⟩
        · obtain ⟨a, b, c⟩ := ab_outs_ok ho f hf
          exact ⟨a, b, List.mem_cons_of_mem _ c⟩
      · cases h
    · cases h
/-- a call: by its body where its number stands in inl, else by a contract -/
noncomputable def ab_cl (ms : List ev_MI) (h : ab_H) (md : ab_Md) (us : List ab_Ct) (inl : List (Nat × ev_MI)) : Nat → ab_Cl
  | 0 => ab_uses h md us
  | n + 1 => fun k as K Ca => (match ev_at inl k with
      | some mi => if ab_cs as ≤ mi.2.2.1 then (match ab_run (ab_cl ms h md us inl n) h md (cm_P mi) mi.2.2.2.2.2.2 [] 2000 (0, ab_args 0 as, [], K, Ca) with
          | some fs => ab_outs mi.2.2.2.1 mi.2.2.2.2.2.2 fs
          | none => none) else none
      | none => ab_uses h md us k as K Ca)
section ABC
variable {ms : List ev_MI} {h : ab_H} {N : cm_M → Prop}
theorem ab_CT_up {c : ab_Ct} {d e : Nat} (hc : ab_CT ms h N d c) (hd : d ≤ e) : ab_CT ms h N e c := fun ρ vs M h1 h2 h3 h4 => cm_Call_up (hc ρ vs M h1 h2 h3 h4) hd (fun _ _ q => q)
theorem ab_cl_ok (hMS : ∀ (k : Nat) (mi : ev_MI), ms[k]? = some mi → cm_MOK ms mi) (hRC : ∀ (k : Nat) (mi : ev_MI), ms[k]? = some mi → ∀ q ∈ mi.2.2.2.2.2.2, ab_RC ms q) {inl : List (Nat × ev_MI)} (hin : ∀ q ∈ inl, ms[q.1]? = some q.2) (hN : ab_NP h N) {M0 : cm_M} {md : ab_Md} {us : List ab_Ct} {d : Nat} (hus : ∀ c ∈ us, ab_CT ms h N d c) : ∀ n : Nat, ab_ClOk ms h N M0 md (d + n) (ab_cl ms h md us inl n)
  | 0 => ab_uses_ok hN hus
  | n + 1 => fun k as K Ca outs ρ vs M hu gs gk gm => by
    unfold ab_cl at hu
    split at hu
    · rename_i mi hmi0
      have hmi := hin _ (ev_at_mem hmi0)
      dsimp only at hmi
      · split at hu
        · rename_i hcs
          split at hu
          · rename_i fs hfs
            refine cm_Call_of hMS hmi (by rw [ab_cs_ok gs]; exact hcs) ?_
            refine cm_At_run hMS hmi (stops := []) (J := fun _ => False) (fun S hS => hS.elim) (n := 2000) ?_
            refine ab_run_ok hN (ab_cl_ok hMS hRC hin hN hus n) (hRC k mi hmi) 2000 _ fs _ ρ hfs ⟨rfl, ab_args_ok 0 gs, trivial, gk, gm⟩ (fun f hf ext C' hG => ⟨fun ht => ?_, fun _ r hr _ => ?_⟩)
            · have := (ab_outs_ok hu f hf).1
              rw [this] at ht
              cases ht
            · obtain ⟨-, o2, o3⟩ := ab_outs_ok hu f hf
              exact ab_ret_ok o2 hG hr (fun v hv => ⟨_, o3, ext, hv, hG.2.2.2.1, hG.2.2.2.2⟩)
          · cases hu
        · cases hu
    · exact cm_Call_up (ab_uses_ok hN hus k as K Ca outs ρ vs M hu gs gk gm) (by omega) (fun _ _ q => q)
end ABC
noncomputable abbrev ab_Mu : Type := List (Int × Int × ab_A)
noncomputable def ab_tm (ρ : List Int32) (m : Int × Int × ab_A) : Int := m.2.1 + m.1 * ((ab_i ρ m.2.2).getD 0).toInt
noncomputable def ab_tb (K : ab_K) (m : Int × Int × ab_A) : Int × Int := if m.1 = 1 then (m.2.1 + (ab_bd K m.2.2).1, m.2.1 + (ab_bd K m.2.2).2) else if m.1 = -1 then (m.2.1 - (ab_bd K m.2.2).2, m.2.1 - (ab_bd K m.2.2).1) else (m.2.1, m.2.1)
noncomputable def ab_tok (K : ab_K) (m : Int × Int × ab_A) : Bool := ab_def K m.2.2 && (decide (m.1 = 1 ∨ m.1 = -1 ∨ m.1 = 0) && (decide (0 ≤ (ab_tb K m).1) && decide ((ab_tb K m).2 < 17179869184)))
theorem ab_tb_in {ρ : List Int32} {K : ab_K} {m : Int × Int × ab_A} (hk : ab_k ρ K) (h : ab_tok K m = true) : (ab_tb K m).1 ≤ ab_tm ρ m ∧ ab_tm ρ m ≤ (ab_tb K m).2 ∧ 0 ≤ ab_tm ρ m ∧ ab_tm ρ m < 17179869184 := by
  simp only [ab_tok, Bool.and_eq_true, decide_eq_true_eq] at h
  obtain ⟨h1, h2, h3, h4⟩ := h
  obtain ⟨x, hx⟩ := ab_def_ok h1 hk
  obtain ⟨b1, b2⟩ := ab_bd_in hk hx
  unfold ab_tm
  rw [hx]
  unfold ab_tb at h3 h4 ⊢
  simp only [Option.getD_some]
  rcases h2 with h2 | h2 | h2
  · rw [if_pos h2] at h3 h4 ⊢
    rw [h2]
    dsimp only at h3 h4 ⊢
    omega
  · rw [if_neg (by omega), if_pos h2] at h3 h4 ⊢
    rw [h2]
    dsimp only at h3 h4 ⊢
    omega
  · rw [if_neg (by omega), if_neg (by omega)] at h3 h4 ⊢
    rw [h2]
    dsimp only at h3 h4 ⊢
    omega
noncomputable def ab_mu (ρ : List Int32) : ab_Mu → Nat
  | [] => 0
  | m :: ms => (ab_tm ρ m).toNat * 17179869184 ^ ms.length + ab_mu ρ ms
theorem ab_mu_lt {ρ : List Int32} {K : ab_K} (hk : ab_k ρ K) : ∀ {l : ab_Mu}, l.all (ab_tok K) = true → ab_mu ρ l < 17179869184 ^ l.length
  | [], _ => by show 0 < 17179869184 ^ 0; decide
  | m :: l, h => by
    rw [List.all_cons, Bool.and_eq_true] at h
    have ih := ab_mu_lt hk h.2
    obtain ⟨-, -, t1, t2⟩ := ab_tb_in hk h.1
    unfold ab_mu
    rw [List.length_cons, Nat.pow_succ]
    have h1 : (ab_tm ρ m).toNat + 1 ≤ 17179869184 := by omega
    have h2 := Nat.mul_le_mul_right (17179869184 ^ l.length) h1
    rw [Nat.add_mul, Nat.one_mul, Nat.mul_comm 17179869184] at h2
    omega
theorem ab_mu_ap {ρ ext : List Int32} : ∀ {m : ab_Mu}, (∀ q ∈ m, ∃ x, ab_i ρ q.2.2 = some x) → ab_mu (ρ ++ ext) m = ab_mu ρ m
  | [], _ => rfl
  | a :: m, hq => by
    unfold ab_mu
    rw [ab_mu_ap (fun q h => hq q (List.mem_cons_of_mem _ h))]
    obtain ⟨x, hx⟩ := hq a List.mem_cons_self
    unfold ab_tm
    rw [ab_i_ap hx, hx]
/-- the new term is less: by bounds, or one is a sum of the other -/
noncomputable def ab_tlt (K : ab_K) (o n : Int × Int × ab_A) : Bool := decide ((ab_tb K n).2 < (ab_tb K o).1) || (decide (n.1 = o.1) && (decide (n.2.1 = o.2.1) && (decide (n.2.2.1 = 3) && (match K[n.2.2.2.1.toNat]? with
  | some r => (decide (r.2.2.1 = 1) || decide (r.2.2.1 = 2)) && (ab_eqA r.2.2.2.1 o.2.2 && (decide (r.2.2.2.2.1 = 0) &&
      (let c := if r.2.2.1 = 1 then (Int32.ofInt r.2.2.2.2.2.1).toInt else - (Int32.ofInt r.2.2.2.2.2.1).toInt
       decide (o.1 * c < 0) && (decide (-2147483648 ≤ (ab_bd K o.2.2).1 + c) && decide ((ab_bd K o.2.2).2 + c ≤ 2147483647)))))
  | none => false))))
theorem ab_tlt_ok {ρ : List Int32} {K : ab_K} {o n : Int × Int × ab_A} (hk : ab_k ρ K) (ho : ab_tok K o = true) (hn : ab_tok K n = true) (h : ab_tlt K o n = true) : ab_tm ρ n < ab_tm ρ o := by
  have o1 := ab_tb_in hk ho
  have n1 := ab_tb_in hk hn
  unfold ab_tlt at h
  rw [Bool.or_eq_true] at h
  rcases h with h | h
  · have h := of_decide_eq_true h
    omega
  · simp only [Bool.and_eq_true, decide_eq_true_eq] at h
    obtain ⟨e1, e2, e3, h⟩ := h
    split at h
    · rename_i r hr
      simp only [Bool.and_eq_true, Bool.or_eq_true, decide_eq_true_eq] at h
      obtain ⟨f1, f2, f3, f4, f5, f6⟩ := h
      simp only [ab_tok, Bool.and_eq_true] at ho hn
      obtain ⟨x, hx⟩ := ab_def_ok ho.1 hk
      obtain ⟨y, hy⟩ := ab_def_ok hn.1 hk
      have hy2 : ρ[n.2.2.2.1.toNat]? = some y := by
        unfold ab_i at hy
        rw [e3] at hy
        exact hy
      have hc : ab_i ρ r.2.2.2.2 = some (Int32.ofInt r.2.2.2.2.2.1) := by
        unfold ab_i
        rw [f3]
        rfl
      obtain ⟨b1, b2⟩ := ab_bd_in hk hx
      rcases (hk.2 _ r y hr hy2).2 with hz | ⟨u, z, hu, hz, e⟩
      · omega
      · rw [hc] at hz
        cases hz
        rw [ab_eqA_ok f2, hx] at hu
        cases hu
        unfold ab_tm
        rw [hx, hy, e1, e2]
        simp only [Option.getD_some]
        have hyx : y.toInt = x.toInt + (if r.2.2.1 = 1 then (Int32.ofInt r.2.2.2.2.2.1).toInt else - (Int32.ofInt r.2.2.2.2.2.1).toInt) := by
          rcases f1 with f1 | f1
          · rw [if_pos f1] at f5 f6 ⊢
            rw [f1] at e
            have e : y = x + Int32.ofInt r.2.2.2.2.2.1 := e
            rw [e, Int32.toInt_add]
            exact ev_bm (by omega) (by omega)
          · rw [if_neg (by omega)] at f5 f6 ⊢
            rw [f1] at e
            have e : y = x - Int32.ofInt r.2.2.2.2.2.1 := e
            rw [e, Int32.toInt_sub]
            rw [show x.toInt - (Int32.ofInt r.2.2.2.2.2.1).toInt = x.toInt + - (Int32.ofInt r.2.2.2.2.2.1).toInt by omega]
            exact ev_bm (by omega) (by omega)
        rw [hyx, Int.mul_add]
        omega
    · cases h
noncomputable def ab_teq (o n : Int × Int × ab_A) : Bool := decide (n.1 = o.1) && (decide (n.2.1 = o.2.1) && ab_eqA n.2.2 o.2.2)
noncomputable def ab_lex (K : ab_K) : ab_Mu → ab_Mu → Bool
  | o :: os, n :: ns => if ab_teq o n = true then ab_lex K os ns else ab_tlt K o n
  | _, _ => false
theorem ab_lex_ok {ρ : List Int32} {K : ab_K} (hk : ab_k ρ K) : ∀ {os ns : ab_Mu}, os.length = ns.length → os.all (ab_tok K) = true → ns.all (ab_tok K) = true → ab_lex K os ns = true → ab_mu ρ ns < ab_mu ρ os
  | [], _, _, _, _, h => by cases h
  | _ :: _, [], _, _, _, h => by cases h
  | o :: os, n :: ns, hl, ho, hn, h => by
    rw [List.all_cons, Bool.and_eq_true] at ho hn
    have hl : os.length = ns.length := Nat.succ.inj hl
    unfold ab_lex at h
    unfold ab_mu
    rw [hl]
    split at h
    · rename_i he
      simp only [ab_teq, Bool.and_eq_true, decide_eq_true_eq] at he
      obtain ⟨a1, a2, a3⟩ := he
      have : n = o := Prod.ext a1 (Prod.ext a2 (ab_eqA_ok a3))
      rw [this]
      have := ab_lex_ok hk hl ho.2 hn.2 h
      omega
    · have h1 := ab_tlt_ok hk ho.1 hn.1 h
      have h2 := ab_tb_in hk ho.1
      have h3 := ab_tb_in hk hn.1
      have h4 := ab_mu_lt hk hn.2
      have h5 : (ab_tm ρ n).toNat + 1 ≤ (ab_tm ρ o).toNat := by omega
      have h6 := Nat.mul_le_mul_right (17179869184 ^ ns.length) h5
      rw [Nat.add_mul, Nat.one_mul] at h6
      omega
/-- a template at a loop's head, with its measure -/
noncomputable abbrev ab_Tm : Type := ab_S × ab_Mu
noncomputable def ab_sbm (sg : List ab_A) (mu : ab_Mu) : ab_Mu := mu.map (fun m => (m.1, m.2.1, ab_sb sg m.2.2))
theorem ab_sbm_ok {ρ : List Int32} {sg : List ab_A} {K : ab_K} (hk : ab_k ρ K) : ∀ {mu : ab_Mu}, (ab_sbm sg mu).all (ab_tok K) = true → ab_mu (ab_rT ρ sg) mu = ab_mu ρ (ab_sbm sg mu)
  | [], _ => rfl
  | m :: mu, h => by
    unfold ab_sbm at h ⊢
    rw [List.map_cons] at h ⊢
    rw [List.all_cons, Bool.and_eq_true] at h
    have ih := ab_sbm_ok hk (mu := mu) h.2
    unfold ab_sbm at ih
    unfold ab_mu
    rw [List.length_map, ih]
    congr 2
    have h1 := h.1
    simp only [ab_tok, Bool.and_eq_true] at h1
    obtain ⟨x, hx⟩ := ab_def_ok h1.1 hk
    unfold ab_tm
    dsimp only at hx ⊢
    rw [hx, ab_sb_ok hx]
/-- an end of a run: at a head, where the measure is less (if one is given), or at one of the method's ends -/
noncomputable def ab_end (h : ab_H) (nE : Nat) (ret : Option FieldType) (rows : List (Nat × ev_Row)) (tms : List ab_Tm) (ex : List ab_Out) (mu : Option ab_Mu) (f : Bool × ab_S) : Bool :=
  if f.1 = true then tms.any (fun T => decide (T.1.1 = f.2.1) && (match ab_in h nE T.1 f.2 with
    | some (K1, _, sg) => (match mu with
      | none => true
      | some m => decide (m.length = T.2.length) && (m.all (ab_tok K1) && ((ab_sbm sg T.2).all (ab_tok K1) && ab_lex K1 m (ab_sbm sg T.2))))
    | none => false))
  else ab_ret ret rows f.2 && ex.any (fun e => (ab_in h nE (f.2.1, [], e.1, e.2.1, e.2.2) (f.2.1, [], f.2.2.2)).isSome)
noncomputable def ab_chk1 (ms : List ev_MI) (h : ab_H) (us : List ab_Ct) (inl : List (Nat × ev_MI)) (dd n : Nat) (c : ab_Ct) (mi : ev_MI) (tms : List ab_Tm) (mu : Option ab_Mu) (S : ab_S) : Bool := match ab_run (ab_cl ms h c.2.2.2.2.1 us inl dd) h c.2.2.2.2.1 (cm_P mi) mi.2.2.2.2.2.2 (tms.map (fun T => (T.1.1, T.1.2.1.map (fun q => q.1)))) n S with
  | some fs => fs.all (ab_end h c.2.2.1.length mi.2.2.2.1 mi.2.2.2.2.2.2 tms c.2.2.2.2.2 mu)
  | none => false
noncomputable def ab_chk (ms : List ev_MI) (h : ab_H) (us : List ab_Ct) (inl : List (Nat × ev_MI)) (dd n : Nat) (c : ab_Ct) (tms : List ab_Tm) : Bool := match ms[c.1]? with
  | some mi => decide (ab_cs c.2.1 ≤ mi.2.2.1) && (ab_chk1 ms h us inl dd n c mi tms none (0, ab_args 0 c.2.1, [], c.2.2.1, c.2.2.2.1) && tms.all (fun T => ab_chk1 ms h us inl dd n c mi tms (some T.2) T.1))
  | none => false
section ABD
variable {ms : List ev_MI} {h : ab_H} {N : cm_M → Prop}
theorem ab_chk1_ok (hMS : ∀ (k : Nat) (mi : ev_MI), ms[k]? = some mi → cm_MOK ms mi) (hRC : ∀ (k : Nat) (mi : ev_MI), ms[k]? = some mi → ∀ q ∈ mi.2.2.2.2.2.2, ab_RC ms q) {inl : List (Nat × ev_MI)} (hin : ∀ q ∈ inl, ms[q.1]? = some q.2) (hN : ab_NP h N) {us : List ab_Ct} {d dd n : Nat} (hus : ∀ c ∈ us, ab_CT ms h N d c) {c : ab_Ct} {mi : ev_MI} (hmi : ms[c.1]? = some mi) {tms : List ab_Tm} {mu : Option ab_Mu} {S : ab_S} {C : cm_S} {M0 : cm_M} {ρ0 e : List Int32} (h0 : ρ0.length = c.2.2.1.length) (hk : ab_chk1 ms h us inl dd n c mi tms mu S = true) (hG : ab_G h N M0 c.2.2.2.2.1 (ρ0 ++ e) S C)
    (IH : ∀ T ∈ tms, ∀ (eT : List Int32) (C' : cm_S), ab_G h N M0 c.2.2.2.2.1 (ρ0 ++ eT) T.1 C' → (∀ m, mu = some m → ab_mu (ρ0 ++ eT) T.2 < ab_mu (ρ0 ++ e) m) → cm_At ms (d + dd) mi (ab_Post h N M0 c.2.2.2.2.1 ρ0 c.2.2.2.2.2) C') (hmu : ∀ m, mu = some m → ∀ q ∈ m, ∃ x, ab_i (ρ0 ++ e) q.2.2 = some x) : cm_At ms (d + dd) mi (ab_Post h N M0 c.2.2.2.2.1 ρ0 c.2.2.2.2.2) C := by
  unfold ab_chk1 at hk
  split at hk
  · rename_i fs hfs
    refine cm_At_run hMS hmi (stops := tms.map (fun T => (T.1.1, T.1.2.1.map (fun q => q.1)))) (J := cm_At ms (d + dd) mi (ab_Post h N M0 c.2.2.2.2.1 ρ0 c.2.2.2.2.2)) (fun S hS => hS) (n := n) ?_
    refine ab_run_ok hN (ab_cl_ok hMS hRC hin hN hus dd) (hRC _ mi hmi) n S fs C (ρ0 ++ e) hfs hG (fun f hf ext C' hG' => ?_)
    have h1 := List.all_eq_true.mp hk f hf
    unfold ab_end at h1
    rw [List.append_assoc] at hG'
    obtain ⟨g0, g1, g2, g3, g4⟩ := hG'
    refine ⟨fun ht => ?_, fun hfl r hr _ => ?_⟩
    · rw [if_pos ht] at h1
      obtain ⟨T, hT, h2⟩ := List.any_eq_true.mp h1
      simp only [Bool.and_eq_true, decide_eq_true_eq] at h2
      obtain ⟨hpc, h3⟩ := h2
      split at h3
      · rename_i K1 Ca1 sg hin
        obtain ⟨e1, eT, k1, -, k3, k4, k5, k6, k7, k8⟩ := ab_in_ok hN hin h0 g1 g2 g3 g4
        refine IH T hT eT C' ⟨by rw [g0, hpc], k5, k6, k7, k8⟩ (fun m hm => ?_)
        subst hm
        dsimp only at h3
        simp only [Bool.and_eq_true, decide_eq_true_eq] at h3
        obtain ⟨l1, l2, l3, l4⟩ := h3
        have h5 := ab_lex_ok k1 (by unfold ab_sbm; rw [List.length_map]; exact l1) l2 l3 l4
        rw [← ab_sbm_ok k1 l3, k3] at h5
        have h6 : ab_mu (ρ0 ++ (e ++ ext) ++ e1) m = ab_mu (ρ0 ++ e) m := by
          rw [← List.append_assoc, List.append_assoc (ρ0 ++ e)]
          exact ab_mu_ap (hmu m rfl)
        rw [h6] at h5
        exact h5
      · cases h3
    · rw [if_neg (by rw [hfl]; decide), Bool.and_eq_true] at h1
      obtain ⟨h2, h3⟩ := h1
      obtain ⟨o, ho, h4⟩ := List.any_eq_true.mp h3
      refine ab_ret_ok h2 ⟨g0, g1, g2, g3, g4⟩ hr (fun v hv => ?_)
      obtain ⟨w, hw⟩ := Option.isSome_iff_exists.mp h4
      obtain ⟨K1, Ca1, sg⟩ := w
      obtain ⟨e1, eT, -, -, -, -, -, k6, k7, k8⟩ := ab_in_ok (C := (C'.1, [], v.toList, C'.2.2.2)) hN hw h0 (fun q hq => nomatch hq) hv g3 g4
      exact ⟨o, ho, eT, k6, k7, k8⟩
  · cases hk
/-- a method keeps its contract -/
theorem ab_chk_ok (hMS : ∀ (k : Nat) (mi : ev_MI), ms[k]? = some mi → cm_MOK ms mi) (hRC : ∀ (k : Nat) (mi : ev_MI), ms[k]? = some mi → ∀ q ∈ mi.2.2.2.2.2.2, ab_RC ms q) {inl : List (Nat × ev_MI)} (hin : ∀ q ∈ inl, ms[q.1]? = some q.2) (hN : ab_NP h N) {us : List ab_Ct} {d dd n : Nat} (hus : ∀ c ∈ us, ab_CT ms h N d c) {c : ab_Ct} {tms : List ab_Tm} (hk : ab_chk ms h us inl dd n c tms = true) (hmu : ∀ T ∈ tms, T.2.all (ab_tok T.1.2.2.2.1) = true) : ab_CT ms h N (d + dd + 1) c := by
  intro ρ vs M gs gk gok gca
  unfold ab_chk at hk
  split at hk
  · rename_i mi hmi
    simp only [Bool.and_eq_true, decide_eq_true_eq] at hk
    obtain ⟨h1, h2, h3⟩ := hk
    refine cm_Call_of hMS hmi (by rw [ab_cs_ok gs]; exact h1) ?_
    have hlen : ρ.length = c.2.2.1.length := gk.1.symm
    have loops : ∀ (k : Nat) (T : ab_Tm), T ∈ tms → ∀ (eT : List Int32) (C' : cm_S), ab_G h N M c.2.2.2.2.1 (ρ ++ eT) T.1 C' → ab_mu (ρ ++ eT) T.2 < k → cm_At ms (d + dd) mi (ab_Post h N M c.2.2.2.2.1 ρ c.2.2.2.2.2) C' := by
      intro k
      induction k with
      | zero => intro T hT eT C' hG hlt; exact absurd hlt (Nat.not_lt_zero _)
      | succ k ih =>
        intro T hT eT C' hG hlt
        refine ab_chk1_ok hMS hRC hin hN hus hmi hlen (List.all_eq_true.mp h3 T hT) hG (fun T' hT' e' C2 hG2 hm => ih T' hT' e' C2 hG2 ?_) (fun m hm q hq => ?_)
        · have := hm T.2 rfl
          omega
        · cases hm
          have h4 := List.all_eq_true.mp (hmu T hT) q hq
          simp only [ab_tok, Bool.and_eq_true] at h4
          exact ab_def_ok h4.1 hG.2.2.2.1
    refine ab_chk1_ok (e := []) hMS hRC hin hN hus hmi hlen h2 ⟨rfl, by rw [ab_nil]; exact ab_args_ok 0 gs, trivial, by rw [ab_nil]; exact gk, gok, ab_fr_rf _ _, by rw [ab_nil]; exact gca⟩ (fun T hT eT C' hG _ => loops _ T hT eT C' hG (Nat.lt_succ_self _)) (fun m hm => by cases hm)
  · cases hk
end ABD
noncomputable def mins : List Nat := [32, 35, 41, 44, 47, 50, 53, 56, 59, 62, 65, 68, 71, 74, 77, 80, 83, 86, 89, 92, 95, 100, 103, 106, 109, 112, 120]
noncomputable def hp : ab_H := ([(0, [(1, 0, 900)]), (2, [(1, 0, 900), (2, 0, 900), (8, 0, 1), (9, 0, 7), (10, 0, 16)]), (5, [(0, 0, 5), (1, 0, 5), (2, 0, 5), (3, 0, 5), (4, 0, 5), (5, 0, 5), (6, 0, 5), (7, 0, 5), (8, 0, 5), (9, 0, 5), (10, 0, 5), (11, 0, 5), (12, 0, 5), (13, 0, 5), (14, 0, 5), (15, 0, 5)]), (6, [(3, 0, 6), (9, 0, 5), (15, 0, 5)]), (19, [(3, 0, 6), (9, 0, 5), (15, 0, 5)]), (38, [(2, 0, 15), (3, 0, 16), (4, 0, 3)]), (98, [(1, 0, 4)]), (118, [(1, 0, 32)]), (124, [(2, 0, 900), (3, 0, 900), (5, 0, 900), (13, 0, 1), (14, 0, 1), (20, 0, 16), (21, 0, 3)]), (127, [(2, 0, 100), (3, 0, 6), (4, 0, 5), (5, 0, 9), (6, 0, 6), (7, 0, 9), (8, 0, 5), (10, 0, 1), (11, 0, 2), (14, 0, 2), (17, 0, 2), (20, 0, 2), (23, 0, 2), (26, 0, 2), (66, 0, 1000), (67, 0, 1000), (68, 0, 1000), (69, 0, 8), (70, 0, 8), (71, 0, 8), (72, 0, 8), (73, 0, 8), (74, 0, 8), (75, 0, 8), (76, 0, 8), (77, 0, 8), (78, 0, 8), (79, 0, 8), (80, 0, 8), (81, 0, 8), (82, 0, 8), (83, 0, 8), (84, 0, 8)]), (128, [(2, 0, 100), (3, 0, 6), (4, 0, 5), (5, 0, 9), (6, 0, 6), (7, 0, 9), (8, 0, 5), (10, 0, 1), (11, 0, 2), (14, 0, 2), (17, 0, 2), (20, 0, 2), (23, 0, 2), (26, 0, 2), (66, 0, 1000), (67, 0, 1000), (68, 0, 1000), (69, 0, 8), (70, 0, 8), (71, 0, 8), (72, 0, 8), (73, 0, 8), (74, 0, 8), (75, 0, 8), (76, 0, 8), (77, 0, 8), (78, 0, 8), (79, 0, 8), (80, 0, 8), (81, 0, 8), (82, 0, 8), (83, 0, 8), (84, 0, 8)]), (133, [(0, 0, 4), (1, 0, 4), (2, 0, 4), (3, 0, 4), (4, 0, 4)])], [(0, [(0, false, [1]), (2, false, [2]), (3, false, [6, 19]), (4, false, [6, 19]), (5, false, [32]), (6, false, [35]), (7, false, [38]), (8, false, [98]), (9, false, [115]), (10, false, [118]), (11, false, [123])]), (2, [(0, true, [1]), (7, true, [6, 19]), (11, false, [3]), (12, false, [4]), (13, false, [5])]), (6, [(4, false, [7]), (5, false, [8]), (6, false, [9]), (7, false, [10]), (8, false, [11]), (10, false, [12]), (11, false, [13]), (12, false, [14]), (13, false, [15]), (14, false, [16]), (16, false, [17]), (17, false, [18])]), (19, [(4, false, [20]), (5, false, [21]), (6, false, [22]), (7, false, [23]), (8, false, [24]), (10, false, [25]), (11, false, [26]), (12, false, [27]), (13, false, [28]), (14, false, [29]), (16, false, [30]), (17, false, [31])]), (32, [(0, false, [33]), (1, false, [34])]), (35, [(0, false, [36]), (1, false, [37])]), (38, [(0, false, [39]), (1, false, [40])]), (39, [(0, false, [41]), (1, false, [44]), (2, false, [47]), (3, false, [50]), (4, false, [53]), (5, false, [56]), (6, false, [59]), (7, false, [62]), (8, false, [65]), (9, false, [68]), (10, false, [71]), (11, false, [74]), (12, false, [77]), (13, false, [80]), (14, false, [83]), (15, false, [86])]), (40, [(0, false, [89]), (1, false, [92]), (2, false, [95])]), (41, [(0, false, [42]), (1, false, [43])]), (44, [(0, false, [45]), (1, false, [46])]), (47, [(0, false, [48]), (1, false, [49])]), (50, [(0, false, [51]), (1, false, [52])]), (53, [(0, false, [54]), (1, false, [55])]), (56, [(0, false, [57]), (1, false, [58])]), (59, [(0, false, [60]), (1, false, [61])]), (62, [(0, false, [63]), (1, false, [64])]), (65, [(0, false, [66]), (1, false, [67])]), (68, [(0, false, [69]), (1, false, [70])]), (71, [(0, false, [72]), (1, false, [73])]), (74, [(0, false, [75]), (1, false, [76])]), (77, [(0, false, [78]), (1, false, [79])]), (80, [(0, false, [81]), (1, false, [82])]), (83, [(0, false, [84]), (1, false, [85])]), (86, [(0, false, [87]), (1, false, [88])]), (89, [(0, false, [90]), (1, false, [91])]), (92, [(0, false, [93]), (1, false, [94])]), (95, [(0, false, [96]), (1, false, [97])]), (98, [(0, false, [99])]), (99, [(0, false, [100]), (1, false, [103]), (2, false, [106]), (3, false, [109]), (4, false, [112])]), (100, [(0, false, [101]), (1, false, [102])]), (103, [(0, false, [104]), (1, false, [105])]), (106, [(0, false, [107]), (1, false, [108])]), (109, [(0, false, [110]), (1, false, [111])]), (112, [(0, false, [113]), (1, false, [114])]), (115, [(0, false, [116]), (1, false, [117])]), (118, [(0, false, [119]), (2, false, [120])]), (120, [(0, false, [121]), (1, false, [122])]), (124, [(1, false, [125]), (12, false, [126]), (15, false, [127]), (16, false, [128]), (17, false, [129]), (18, false, [130]), (19, false, [131]), (22, false, [132]), (23, false, [133]), (24, false, [134]), (26, false, [135])])], [(4, 0), (4, 1), (4, 2), (4, 3), (4, 4), (4, 5), (4, 6), (4, 7), (4, 8), (4, 9), (4, 10), (4, 11), (4, 12), (4, 13), (4, 14), (4, 15), (5, 0), (5, 1), (5, 2), (5, 3), (5, 4), (5, 5), (5, 6), (5, 7), (5, 8), (5, 9), (5, 10), (5, 11), (5, 12), (5, 13), (5, 14), (5, 15), (124, 6), (124, 8)], [(124, 8, 124, 6, 2, 0, 8), (5, 0, 4, 0, 2, 0, 4), (5, 1, 4, 1, 2, 0, 4), (5, 2, 4, 2, 2, 0, 4), (5, 3, 4, 3, 2, 0, 4), (5, 4, 4, 4, 2, 0, 4), (5, 5, 4, 5, 2, 0, 4), (5, 6, 4, 6, 2, 0, 4), (5, 7, 4, 7, 2, 0, 4), (5, 8, 4, 8, 2, 0, 4), (5, 9, 4, 9, 2, 0, 4), (5, 10, 4, 10, 2, 0, 4), (5, 11, 4, 11, 2, 0, 4), (5, 12, 4, 12, 2, 0, 4), (5, 13, 4, 13, 2, 0, 4), (5, 14, 4, 14, 2, 0, 4), (5, 15, 4, 15, 2, 0, 4)])
noncomputable def hp0 : ab_H := (hp.1, hp.2.1, [], [])
noncomputable def hN0 (_ : cm_M) : Prop := True
theorem hNP0 : ab_NP hp0 hN0 := ⟨fun _ _ _ _ => trivial, fun _ _ e he => by cases he⟩
/-- of a name that is a motion's the number is less than five; a word has no more than eight letters -/
noncomputable def hN (M : cm_M) : Prop := (∀ i, i < 16 → M.1 4 i = 2 → 0 ≤ (M.1 5 i).toInt ∧ (M.1 5 i).toInt ≤ 4) ∧ (M.1 124 6 = 2 → 0 ≤ (M.1 124 8).toInt ∧ (M.1 124 8).toInt ≤ 8)
theorem hp_prot : ∀ i, i < 16 → (4, i) ∈ hp.2.2.1 ∧ (5, i) ∈ hp.2.2.1 := by decide +kernel
theorem hNP : ab_NP hp hN := by
  refine ⟨fun M M' h hn => ⟨fun i hi h2 => ?_, fun h2 => ?_⟩, fun M hn e he h2 => ?_⟩
  · have h4 := (h _ (hp_prot i hi).1).1
    have h5 := (h _ (hp_prot i hi).2).1
    dsimp only at h4 h5
    rw [h4] at h2
    rw [h5]
    exact hn.1 i hi h2
  · have h4 := (h (124, 6) (by decide)).1
    have h5 := (h (124, 8) (by decide)).1
    dsimp only at h4 h5
    rw [h4] at h2
    rw [h5]
    exact hn.2 h2
  · have hall : hp.2.2.2.all (fun e => decide (e = (124, 8, 124, 6, 2, 0, 8)) || (decide (e.2.1 < 16) && decide (e = (5, e.2.1, 4, e.2.1, 2, 0, 4)))) = true := by decide +kernel
    have h1 := List.all_eq_true.mp hall e he
    rw [Bool.or_eq_true, Bool.and_eq_true, decide_eq_true_eq, decide_eq_true_eq, decide_eq_true_eq] at h1
    rcases h1 with h1 | ⟨hi, h1⟩
    · rw [h1] at h2 ⊢
      exact hn.2 h2
    · generalize e.2.1 = i at hi h1
      rw [h1] at h2 ⊢
      exact hn.1 i hi h2
theorem ab_hi_eq {h h' : ab_H} (e : h.1 = h'.1) (c i : Nat) : ab_hi h c i = ab_hi h' c i := by
  unfold ab_hi ab_hl
  rw [e]
theorem ab_hr_eq {h h' : ab_H} (e : h.2.1 = h'.2.1) (c i : Nat) : ab_hr h c i = ab_hr h' c i := by
  unfold ab_hr
  rw [e]
theorem hp0_ok {M : cm_M} (h : ab_ok hp hN M) : ab_ok hp0 hN0 M := ⟨fun c i => by rw [ab_hi_eq (h := hp0) (h' := hp) rfl]; exact h.1 c i, fun c i => by rw [ab_hr_eq (h := hp0) (h' := hp) rfl]; exact h.2.1 c i, trivial⟩
theorem hpl_ok {M : cm_M} (h : ab_ok hp0 hN0 M) (hn : hN M) : ab_ok hp hN M := ⟨fun c i => by rw [ab_hi_eq (h := hp) (h' := hp0) rfl]; exact h.1 c i, fun c i => by rw [ab_hr_eq (h := hp) (h' := hp0) rfl]; exact h.2.1 c i, hn⟩
/-- the reader's next token: a word has no more than eight letters -/
noncomputable def nx_ok (c0 : ab_Ct) : Bool := decide (c0.2.2.2.2.2.length ≤ 100) && c0.2.2.2.2.2.all (fun o => decide (o.1 = []) && (match o.2.2 with
  | [(124, 6, (0, t, [])), (124, 8, a)] => decide (-100 ≤ t ∧ t ≤ 100) && (decide (t ≠ 2) || (ab_isI a && (decide (0 ≤ (ab_bd o.2.1 a).1) && decide ((ab_bd o.2.1 a).2 ≤ 8))))
  | _ => false))
theorem nx_lift {d k : Nat} {md : ab_Md} {ex : List ab_Out} (h0 : ab_CT cm_ms hp0 hN0 d (k, [(1, 0, [124])], [], [], md, ex)) (hok : nx_ok (k, [(1, 0, [124])], [], [], md, ex) = true) (hmd : (List.range 16).all (fun i => !(ab_inM md 4 i) && !(ab_inM md 5 i)) = true) : ab_CT cm_ms hp hN d (k, [(1, 0, [124])], [], [], md, [([], [], [])]) := by
  intro ρ vs M h1 h2 h3 h4
  refine cm_Call_up (h0 ρ vs M h1 h2 (hp0_ok h3) h4) (Nat.le_refl _) (fun v M' hp1 => ?_)
  obtain ⟨o, ho, ext, p1, p2, p3⟩ := hp1
  unfold nx_ok at hok
  rw [Bool.and_eq_true] at hok
  have h5 := List.all_eq_true.mp hok.2 o ho
  rw [Bool.and_eq_true, decide_eq_true_eq] at h5
  obtain ⟨e1, h6⟩ := h5
  have hn : hN M' := by
    refine ⟨fun i hi hs => ?_, fun ht => ?_⟩
    · have h7 := List.all_eq_true.mp hmd i (List.mem_range.mpr hi)
      simp only [Bool.and_eq_true, Bool.not_eq_true'] at h7
      have f4 := (p3.2.1 4 i h7.1).1
      have f5 := (p3.2.1 5 i h7.2).1
      rw [f4] at hs
      rw [f5]
      exact h3.2.2.1 i hi hs
    · split at h6
      · rename_i t a e
        simp only [Bool.and_eq_true, Bool.or_eq_true, decide_eq_true_eq] at h6
        have c1 := p3.2.2 (124, 6, (0, t, [])) (by rw [e]; exact List.mem_cons_self)
        have c2 := p3.2.2 (124, 8, a) (by rw [e]; exact List.mem_cons_of_mem _ List.mem_cons_self)
        have c1 : some (Int32.ofInt t) = some (M'.1 124 6) := c1
        rw [ht] at c1
        have c1 := Option.some.inj c1
        have c3 := congrArg Int32.toInt c1
        rw [Int32.toInt_ofInt, ev_bm (by omega) (by omega)] at c3
        have c3 : t = 2 := c3
        rcases h6.2 with h8 | ⟨h8, h9, h10⟩
        · exact absurd c3 h8
        · unfold ab_ce at c2
          rw [if_pos h8] at c2
          obtain ⟨b1, b2⟩ := ab_bd_in p2 c2
          dsimp only at b1 b2
          omega
      · cases h6
  refine ⟨_, List.mem_singleton.mpr rfl, [], ?_, ?_, hpl_ok p3.1 hn, p3.2.1, fun q hq => nomatch hq⟩
  · rw [e1] at p1
    rw [ab_s_nil p1]
    exact trivial
  · rw [ab_nil]
    exact h2
/-- a new name: of a motion the number is less than five -/
noncomputable def tn_ok (q : Nat) (srt hi : Int) (md : ab_Md) (ex : List ab_Out) : Bool := ex.all (fun o => decide (o.1 = []) && (match o.2.2 with
  | [(4, i, a), (5, j, b)] => decide (i = q) && (decide (j = q) && ((ab_eqA a (0, srt, []) && (ab_eqA b (3, 0, []) && (decide (srt ≠ 2) || decide (hi ≤ 4)))) || (ab_eqA a (3, 1, []) && ab_eqA b (3, 2, []))))
  | [] => decide (q = 16) && (List.range 16).all (fun i => !(ab_inM md 4 i) && !(ab_inM md 5 i))
  | _ => false)) && ((List.range 16).all (fun i => decide (i = q) || (!(ab_inM md 4 i) && !(ab_inM md 5 i))) && (!(ab_inM md 124 6) && !(ab_inM md 124 8)))
noncomputable def tn_ca (q : Nat) : ab_Ca := if q < 16 then [(2, 0, (1, 0, [1])), (2, 10, (0, (q : Int), [])), (4, q, (3, 1, [])), (5, q, (3, 2, []))] else [(2, 0, (1, 0, [1])), (2, 10, (0, (q : Int), []))]
noncomputable def tn_k (q : Nat) (hi : Int) : ab_K := if q < 16 then [(0, hi, 0, (0, 0, []), (0, 0, [])), (-2147483648, 2147483647, 0, (0, 0, []), (0, 0, [])), (0, 5, 0, (0, 0, []), (0, 0, []))] else [(0, hi, 0, (0, 0, []), (0, 0, []))]
theorem tn_lift {d k : Nat} {srt hi : Int} {md : ab_Md} (h0 : ∀ q, q < 17 → ∃ mdq exq, ab_CT cm_ms hp0 hN0 d (k, [(1, 0, [2]), (0, srt, []), (3, 0, [])], tn_k q hi, tn_ca q, mdq, exq) ∧ tn_ok q srt hi mdq exq = true ∧ ab_mds mdq md = true) (hs : -100 ≤ srt ∧ srt ≤ 100) : ab_CT cm_ms hp hN d (k, [(1, 0, [2]), (0, srt, []), (3, 0, [])], [(0, hi, 0, (0, 0, []), (0, 0, []))], [(2, 0, (1, 0, [1]))], md, [([], [(0, hi, 0, (0, 0, []), (0, 0, []))], [])]) := by
  intro ρ vs M h1 h2 h3 h4
  have hnm := h3.1 2 10
  have hb : ab_hi hp 2 10 = (0, 16) := by decide
  rw [hb] at hnm
  obtain ⟨n1, n2⟩ := hnm
  dsimp only at n1 n2
  obtain ⟨q, hq, hqe⟩ : ∃ q : Nat, q < 17 ∧ (M.1 2 10).toInt = (q : Int) := ⟨(M.1 2 10).toInt.toNat, by omega, by omega⟩
  have hqi : Int32.ofInt (q : Int) = M.1 2 10 := by rw [← hqe, Int32.ofInt_toInt]
  obtain ⟨mdq, exq, hc, hok, hmd⟩ := h0 q hq
  have hlen : ρ.length = 1 := h2.1.symm
  obtain ⟨r0, rfl⟩ : ∃ r0, ρ = [r0] := by
    match ρ, hlen with
    | [r0], _ => exact ⟨r0, rfl⟩
  have ca0 := h4 _ (List.mem_singleton.mpr rfl)
  unfold tn_ok at hok
  simp only [Bool.and_eq_true, Bool.not_eq_true'] at hok
  obtain ⟨hok, hfr, hf6, hf8⟩ := hok
  -- what a run over the other table leaves
  have fin : ∀ (ρ1 : List Int32) (v : Option Value) (M' : cm_M), (q < 16 → ρ1 = [r0, M.1 4 q, M.1 5 q]) → (¬ q < 16 → ρ1 = [r0]) → ab_Post hp0 hN0 M mdq ρ1 exq v M' → ab_Post hp hN M md [r0] [([], [(0, hi, 0, (0, 0, []), (0, 0, []))], [])] v M' := by
    intro ρ1 v M' hr1 hr2 hp1
    obtain ⟨o, ho, ext, p1, p2, p3⟩ := hp1
    have h5 := List.all_eq_true.mp hok o ho
    rw [Bool.and_eq_true, decide_eq_true_eq] at h5
    obtain ⟨e1, h6⟩ := h5
    have hoth : ∀ i, i < 16 → i ≠ q → M'.1 4 i = M.1 4 i ∧ M'.1 5 i = M.1 5 i := by
      intro i hi hne
      have h7 := List.all_eq_true.mp hfr i (List.mem_range.mpr hi)
      simp only [Bool.or_eq_true, Bool.and_eq_true, Bool.not_eq_true', decide_eq_true_eq] at h7
      rcases h7 with h7 | h7
      · exact absurd h7 hne
      · exact ⟨(p3.2.1 4 i h7.1).1, (p3.2.1 5 i h7.2).1⟩
    have hn : hN M' := by
      refine ⟨fun i hi hs2 => ?_, fun ht => ?_⟩
      · by_cases hiq : i = q
        · subst hiq
          split at h6
          · rename_i i' a j' b e
            simp only [Bool.and_eq_true, Bool.or_eq_true, decide_eq_true_eq] at h6
            obtain ⟨rfl, rfl, h6⟩ := h6
            have c1 := p3.2.2 (4, j', a) (by rw [e]; exact List.mem_cons_self)
            have c2 := p3.2.2 (5, j', b) (by rw [e]; exact List.mem_cons_of_mem _ List.mem_cons_self)
            have hr := hr1 hi
            subst hr
            rcases h6 with ⟨ha, hb, hor⟩ | ⟨ha, hb⟩
            · rw [ab_eqA_ok ha] at c1
              rw [ab_eqA_ok hb] at c2
              have c1 : some (Int32.ofInt srt) = some (M'.1 4 j') := c1
              have c2 : some r0 = some (M'.1 5 j') := c2
              rw [hs2] at c1
              have c3 := congrArg Int32.toInt (Option.some.inj c1)
              rw [Int32.toInt_ofInt, ev_bm (by omega) (by omega)] at c3
              have c3 : srt = 2 := c3
              have hbd := (h2.2 0 _ r0 rfl rfl).1
              obtain ⟨b1, b2⟩ := hbd
              dsimp only at b1 b2
              rw [← Option.some.inj c2]
              rcases hor with hor | hor
              · exact absurd c3 hor
              · omega
            · rw [ab_eqA_ok ha] at c1
              rw [ab_eqA_ok hb] at c2
              have c1 : some (M.1 4 j') = some (M'.1 4 j') := c1
              have c2 : some (M.1 5 j') = some (M'.1 5 j') := c2
              rw [← Option.some.inj c1] at hs2
              rw [← Option.some.inj c2]
              exact h3.2.2.1 j' hi hs2
          · simp only [Bool.and_eq_true, decide_eq_true_eq] at h6
            omega
          · cases h6
        · obtain ⟨g1, g2⟩ := hoth i hi hiq
          rw [g1] at hs2
          rw [g2]
          exact h3.2.2.1 i hi hs2
      · have g6 := (p3.2.1 124 6 hf6).1
        have g8 := (p3.2.1 124 8 hf8).1
        rw [g6] at ht
        rw [g8]
        exact h3.2.2.2 ht
    refine ⟨_, List.mem_singleton.mpr rfl, [], ?_, ?_, hpl_ok p3.1 hn, fun c i hm => p3.2.1 c i (ab_mds_ok hmd hm), fun q hq => nomatch hq⟩
    · rw [e1] at p1
      rw [ab_s_nil p1]
      exact trivial
    · rw [ab_nil]
      exact h2
  by_cases h16 : q < 16
  · refine cm_Call_up (hc [r0, M.1 4 q, M.1 5 q] vs M (ab_s_ap (ext := [M.1 4 q, M.1 5 q]) h1) ?_ (hp0_ok h3) ?_) (Nat.le_refl _) (fun v M' hp1 => fin _ v M' (fun _ => rfl) (fun z => absurd h16 z) hp1)
    · show ab_k _ (tn_k q hi)
      unfold tn_k
      rw [if_pos h16]
      refine ⟨rfl, fun j r x g1 g2 => ?_⟩
      match j with
      | 0 => cases g1; cases g2; exact ⟨(h2.2 0 _ r0 rfl rfl).1, Or.inl rfl⟩
      | 1 => cases g1; cases g2; exact ⟨ev_ful_in _, Or.inl rfl⟩
      | 2 =>
        cases g1; cases g2
        have h5 := h3.1 5 q
        have hb5 : ∀ q, q < 16 → ab_hi hp 5 q = (0, 5) := by decide
        rw [hb5 q h16] at h5
        exact ⟨h5, Or.inl rfl⟩
      | j + 3 => cases g1
    · show ab_ca _ M (tn_ca q)
      unfold tn_ca
      rw [if_pos h16]
      intro z hz
      simp only [List.mem_cons, List.not_mem_nil, or_false] at hz
      rcases hz with rfl | rfl | rfl | rfl
      · exact ab_ce_ap (ext := [M.1 4 q, M.1 5 q]) ca0
      · exact congrArg some hqi
      · rfl
      · rfl
  · refine cm_Call_up (hc [r0] vs M h1 ?_ (hp0_ok h3) ?_) (Nat.le_refl _) (fun v M' hp1 => fin _ v M' (fun z => absurd z h16) (fun _ => rfl) hp1)
    · show ab_k _ (tn_k q hi)
      unfold tn_k
      rw [if_neg h16]
      exact h2
    · show ab_ca _ M (tn_ca q)
      unfold tn_ca
      rw [if_neg h16]
      intro z hz
      simp only [List.mem_cons, List.not_mem_nil, or_false] at hz
      rcases hz with rfl | rfl
      · exact ca0
      · exact congrArg some hqi
theorem hd_cmp0 {x y : Int64} (h : lg_cmp x y ≠ 0) : x ≠ y := by
  rintro rfl
  apply h
  unfold lg_cmp
  rw [if_neg (by simp), if_pos rfl]
theorem hd_inc {i : Int32} (h : i.toInt < 2147483647) : (i + 1).toInt = i.toInt + 1 := by
  have h1 : (1 : Int32).toInt = 1 := by decide
  have h2 := i.minValue_le_toInt
  have h3 : Int32.minValue.toInt = -2147483648 := by decide
  rw [Int32.toInt_add, h1, ev_bm (by omega) (by omega)]
theorem hd_wl_ok {M : cm_M} {c i : Nat} {x : Int64} (h : ab_ok hp hN M) : ab_ok hp hN (cm_wl M c i x) := ⟨fun a b => h.1 a b, fun a b => h.2.1 a b, h.2.2⟩
theorem hd_wl_fr {md : ab_Md} {M0 M : cm_M} {c i : Nat} {x : Int64} (hi : ab_inM md c i = true) (h : ab_fr md M0 M) : ab_fr md M0 (cm_wl M c i x) := by
  intro a b hm
  obtain ⟨h1, h2, h3⟩ := h a b hm
  refine ⟨h1, ?_, h3⟩
  show (if a = c ∧ b = i then x else M.2.1 a b) = _
  rw [if_neg ?_]
  · exact h2
  · rintro ⟨rfl, rfl⟩
    rw [hi] at hm
    cases hm
noncomputable def rd_S (a b x y : Int64) (i : Int32) (M : cm_M) : cm_S := (9, [(0, .ref 123), (1, .long a), (3, .long b), (5, .long x), (7, .long y), (9, .int i)], [], M)
noncomputable def rd_P (M : cm_M) : cm_K := ab_Post hp hN M [(123, [0, 1])] [] [([], [], [])]
theorem rd_end {M : cm_M} (hM : ab_ok hp hN M) (J : cm_S → Prop) (m : Nat) (a b x y : Int64) (i : Int32) (v : Int64) : cm_wp cm_ms (cm_Call cm_ms 0) none (cm_P mr_62) mr_62.2.2.2.2.2.2 [(9, [0, 1, 3, 5, 7, 9])] J (cm_ret mr_62.2.2.2.1 (rd_P M)) (m + 15) (64, [(0, .ref 123), (1, .long a), (3, .long b), (5, .long x), (7, .long y), (9, .int i)], [], cm_wl M 123 0 v) := by
  have fin : ∀ w : Int64, rd_P M none (cm_wl (cm_wl M 123 0 v) 123 1 w) := fun w => ⟨_, List.mem_singleton.mpr rfl, [], trivial, ⟨rfl, fun j r x h => nomatch h⟩, hd_wl_ok (hd_wl_ok hM), hd_wl_fr (by decide) (hd_wl_fr (by decide) (ab_fr_rf _ _)), fun q hq => nomatch hq⟩
  show 0 ≤ _ ∧ (ev_cmp 1 (lg_cmp x _) 0 = true → _) ∧ (_ → _)
  refine ⟨(by decide : (0 : Int) ≤ 76), fun hc => ?_, fun hc => ?_⟩
  · show ¬ x = 0 ∧ _ ∧ _ ∧ _ ∧ _ ∧ _
    refine ⟨hd_cmp0 (y := 0) (by simpa [ev_cmp] using hc), by decide, by decide, by decide, rfl, ?_⟩
    exact fin _
  · show 0 ≤ _ ∧ _ ∧ _ ∧ _ ∧ _ ∧ _
    refine ⟨(by decide : (0 : Int) ≤ 80), by decide, by decide, by decide, rfl, ?_⟩
    exact fin _
theorem rd_exit {M : cm_M} (hM : ab_ok hp hN M) (J : cm_S → Prop) (m : Nat) (a b x y : Int64) (i : Int32) : cm_wp cm_ms (cm_Call cm_ms 0) none (cm_P mr_62) mr_62.2.2.2.2.2.2 [(9, [0, 1, 3, 5, 7, 9])] J (cm_ret mr_62.2.2.2.1 (rd_P M)) (m + 30) (45, [(0, .ref 123), (1, .long a), (3, .long b), (5, .long x), (7, .long y), (9, .int i)], [], M) := by
  show 0 ≤ _ ∧ (ev_cmp 1 (lg_cmp x _) 0 = true → _) ∧ (_ → _)
  refine ⟨(by decide : (0 : Int) ≤ 57), fun hc => ?_, fun hc => ?_⟩
  · show ¬ x = 0 ∧ _ ∧ _ ∧ _ ∧ _ ∧ _
    refine ⟨hd_cmp0 (y := 0) (by simpa [ev_cmp] using hc), by decide, by decide, by decide, rfl, ?_⟩
    exact rd_end hM J (m + 6) a b x y i _
  · show 0 ≤ _ ∧ _ ∧ _ ∧ _ ∧ _ ∧ _
    refine ⟨(by decide : (0 : Int) ≤ 61), by decide, by decide, by decide, rfl, ?_⟩
    exact rd_end hM J (m + 7) a b x y i _
theorem rd_loop {M : cm_M} (hM : ab_ok hp hN M) (a b : Int64) : ∀ (j : Nat) (i : Int32) (x y : Int64), i.toInt = 128 - (j : Int) → 0 ≤ i.toInt → cm_At cm_ms 0 mr_62 (rd_P M) (rd_S a b x y i M) := by
  intro j
  induction j with
  | zero =>
    intro i x y hi h0
    refine cm_At_run cm_ms_ok (k := 62) rfl (stops := [(9, [0, 1, 3, 5, 7, 9])]) (J := fun _ => False) (fun S hS => hS.elim) (n := 60) ?_
    show 0 ≤ _ ∧ (ev_cmp 3 i _ = true → _) ∧ (ev_cmp 3 i _ = false → _)
    refine ⟨(by decide : (0 : Int) ≤ 45), fun _ => rd_exit hM _ 27 a b x y i, fun hc => ?_⟩
    exfalso
    have h1 : ¬ (128 : Int32) ≤ i := of_decide_eq_false hc
    apply h1
    rw [Int32.le_iff_toInt_le]
    have : (128 : Int32).toInt = 128 := by decide
    omega
  | succ j ih =>
    intro i x y hi h0
    refine cm_At_run cm_ms_ok (k := 62) rfl (stops := [(9, [0, 1, 3, 5, 7, 9])]) (J := fun S => ∃ i x y, i.toInt = 128 - (j : Int) ∧ 0 ≤ i.toInt ∧ S = rd_S a b x y i M) (fun S hS => by obtain ⟨i, x, y, e1, e2, rfl⟩ := hS; exact ih i x y e1 e2) (n := 60) ?_
    show 0 ≤ _ ∧ (ev_cmp 3 i _ = true → _) ∧ (ev_cmp 3 i _ = false → _)
    refine ⟨(by decide : (0 : Int) ≤ 45), fun _ => rd_exit hM _ 27 a b x y i, fun hc => ?_⟩
    show 0 ≤ _ ∧ (ev_cmp 0 (lg_cmp y _) 0 = true → _) ∧ (_ → _)
    refine ⟨(by decide : (0 : Int) ≤ 45), fun _ => rd_exit hM _ 23 a b x y i, fun hc2 => ?_⟩
    show ¬ y = 0 ∧ 10 + 1 < 12 ∧ 5 + 1 < 12 ∧ 7 + 1 < 12 ∧ 9 < 12 ∧ 0 ≤ _ ∧ _
    refine ⟨hd_cmp0 (y := 0) (by simpa [ev_cmp] using hc2), by decide, by decide, by decide, by decide, (by decide : (0 : Int) ≤ 9), ?_⟩
    refine ⟨i + 1, y, x - x / y * y, ?_, ?_, rfl⟩
    · have := hd_inc (i := i) (by omega)
      omega
    · have := hd_inc (i := i) (by omega)
      omega
theorem hd_reduce : ab_CT cm_ms hp hN 1 (62, [(1, 0, [123]), (6, 0, []), (6, 0, [])], [], [], [(123, [0, 1])], [([], [], [])]) := by
  intro ρ vs M h1 h2 h3 h4
  obtain ⟨a, b, rfl⟩ : ∃ a b, vs = [.ref 123, .long a, .long b] := by
    match vs, h1 with
    | [v0, v1, v2], ⟨⟨c, hc, hv⟩, ⟨a, ha⟩, ⟨b, hb⟩, _⟩ =>
      have : c = 123 := List.mem_singleton.mp hc
      subst this
      exact ⟨a, b, by rw [hv, ha, hb]⟩
  have hr : ρ = [] := List.length_eq_zero_iff.mp h2.1.symm
  subst hr
  refine cm_Call_of cm_ms_ok (k := 62) (mi := mr_62) rfl (by show 5 ≤ 12; decide) ?_
  refine cm_At_run cm_ms_ok (k := 62) rfl (stops := [(9, [0, 1, 3, 5, 7, 9])]) (J := fun S => S = rd_S a b b a 0 M) (fun S hS => by rw [hS]; exact rd_loop h3 a b 128 0 b a (by decide) (by decide)) (n := 10) ?_
  show 5 + 1 < 12 ∧ 7 + 1 < 12 ∧ 9 < 12 ∧ _
  refine ⟨by decide, by decide, by decide, ?_⟩
  exact rfl
theorem lo_rem {x y : Int64} (hy : y ≠ 0) : (x - x / y * y).toInt.natAbs < y.toInt.natAbs := by
  have h0 : y.toInt ≠ 0 := fun e => hy (Int64.toInt_inj.mp (e.trans (by decide)))
  have h1 : (x.toInt.tmod y.toInt).natAbs < y.toInt.natAbs := by
    rw [Int.natAbs_tmod]
    exact Nat.mod_lt _ (by omega)
  have h2 : -9223372036854775808 ≤ y.toInt := Int64.le_toInt y
  have h3 : y.toInt < 9223372036854775808 := Int64.toInt_lt y
  have e : (x - x / y * y).toInt = x.toInt.tmod y.toInt := by
    rw [Int64.toInt_sub, Int64.toInt_mul, Int64.toInt_div, Int.bmod_mul_bmod, Int.sub_bmod_bmod, Int.mul_comm, ← Int.tmod_def]
    exact Int.bmod_eq_of_le (by omega) (by omega)
  rw [e]
  exact h1
noncomputable def lo_S (up down x y : Int64) (lo : Int32) (M : cm_M) : cm_S := (6, [(0, .long up), (2, .long down), (4, .int lo), (5, .long x), (7, .long y)], [], M)
noncomputable def lo_P (M : cm_M) : cm_K := fun v M' => (∃ x, v = some (.long x)) ∧ M' = M
theorem lo_exit (J : cm_S → Prop) (m : Nat) (up down x y : Int64) (lo : Int32) (M : cm_M) (hx : x ≠ 0) : cm_wp cm_ms (cm_Call cm_ms 0) none (cm_P mr_171) mr_171.2.2.2.2.2.2 [(6, [0, 2, 4, 5, 7])] J (cm_ret mr_171.2.2.2.1 (lo_P M)) (m + 15) (31, [(0, .long up), (2, .long down), (4, .int lo), (5, .long x), (7, .long y)], [], M) := by
  show 0 ≤ _ ∧ (ev_cmp 0 lo 0 = true → _) ∧ (_ → _)
  refine ⟨(by decide : (0 : Int) ≤ 40), fun hc => ?_, fun hc => ?_⟩
  · show ¬ x = 0 ∧ _
    exact ⟨hx, ⟨_, rfl⟩, rfl⟩
  · show 0 ≤ _ ∧ ¬ x = 0 ∧ _
    exact ⟨(by decide : (0 : Int) ≤ 41), hx, ⟨_, rfl⟩, rfl⟩
theorem lo_loop (M : cm_M) (up down : Int64) (lo : Int32) : ∀ (j : Nat) (x y : Int64), y.toInt.natAbs < j → x ≠ 0 → cm_At cm_ms 0 mr_171 (lo_P M) (lo_S up down x y lo M) := by
  intro j
  induction j with
  | zero => intro x y h; exact absurd h (Nat.not_lt_zero _)
  | succ j ih =>
    intro x y hj hx
    refine cm_At_run cm_ms_ok (k := 171) rfl (stops := [(6, [0, 2, 4, 5, 7])]) (J := fun S => ∃ x y, y.toInt.natAbs < j ∧ x ≠ 0 ∧ S = lo_S up down x y lo M) (fun S hS => by obtain ⟨x, y, e1, e2, rfl⟩ := hS; exact ih x y e1 e2) (n := 60) ?_
    show 0 ≤ _ ∧ (ev_cmp 0 (lg_cmp y _) 0 = true → _) ∧ (_ → _)
    refine ⟨(by decide : (0 : Int) ≤ 31), fun _ => lo_exit _ 41 up down x y lo M hx, fun hc => ?_⟩
    have hy : y ≠ 0 := hd_cmp0 (y := 0) (by simpa [ev_cmp] using hc)
    show ¬ y = 0 ∧ 9 + 1 < 11 ∧ 5 + 1 < 11 ∧ 7 + 1 < 11 ∧ 0 ≤ _ ∧ _
    refine ⟨hy, by decide, by decide, by decide, (by decide : (0 : Int) ≤ 6), ?_⟩
    refine ⟨y, x - x / y * y, ?_, hy, rfl⟩
    have := lo_rem (x := x) hy
    omega
theorem hd_lowest (M : cm_M) (up down : Int64) (lo : Int32) (hd : down ≠ 0) : cm_Call cm_ms 1 171 [.long up, .long down, .int lo] M (lo_P M) := by
  refine cm_Call_of cm_ms_ok (k := 171) (mi := mr_171) rfl (by show 5 ≤ 11; decide) ?_
  refine cm_At_run cm_ms_ok (k := 171) rfl (stops := [(6, [0, 2, 4, 5, 7])]) (J := fun S => S = lo_S up down down up lo M) (fun S hS => by rw [hS]; exact lo_loop M up down lo _ down up (Nat.lt_succ_self _) hd) (n := 10) ?_
  show 5 + 1 < 11 ∧ 7 + 1 < 11 ∧ _
  refine ⟨by decide, by decide, ?_⟩
  exact rfl
/-- the memory with two references told -/
noncomputable def ts_f (M : cm_M) : cm_M := cm_wr (cm_wr M 124 15 (some 127)) 124 22 (some 132)
theorem ts_one {M : cm_M} {i c : Nat} (h : ab_ok hp hN M) (e : ab_hr hp 124 i = some (false, [c])) : M.2.2 124 i = some c := by
  have h1 := h.2.1 124 i
  rw [e] at h1
  cases hc : M.2.2 124 i with
  | none => rw [hc] at h1; cases h1
  | some q => rw [hc] at h1; rw [List.mem_singleton.mp h1]
theorem ts_f_eq {M : cm_M} (h : ab_ok hp hN M) : ts_f M = M := by
  have h15 : M.2.2 124 15 = some 127 := ts_one h (by decide +kernel)
  have h22 : M.2.2 124 22 = some 132 := ts_one h (by decide +kernel)
  refine Prod.ext rfl (Prod.ext rfl (funext fun c => funext fun i => ?_))
  show (if c = 124 ∧ i = 22 then some 132 else if c = 124 ∧ i = 15 then some 127 else M.2.2 c i) = M.2.2 c i
  split
  · rename_i e
    rw [e.1, e.2, h22]
  · split
    · rename_i e
      rw [e.1, e.2, h15]
    · rfl
theorem ts_bit (M : cm_M) (x m : Int32) : cm_Call cm_ms 1 168 [.int x, .int m] M (fun v M' => M' = M ∧ ∃ b : Int32, v = some (.int b) ∧ ((b = 1 ∧ (x >>> (m &&& 31)) &&& 1 = 1) ∨ (b = 0 ∧ (x >>> (m &&& 31)) &&& 1 ≠ 1))) := by
  refine cm_Call_of cm_ms_ok (k := 168) (mi := mr_168) rfl (by show 2 ≤ 2; decide) ?_
  refine cm_At_run cm_ms_ok (k := 168) rfl (stops := []) (J := fun _ => False) (fun S hS => hS.elim) (n := 20) ?_
  show 0 ≤ _ ∧ (ev_cmp 1 ((x >>> (m &&& 31)) &&& 1) 1 = true → _) ∧ (_ → _)
  refine ⟨(by decide : (0 : Int) ≤ 13), fun hc => ?_, fun hc => ?_⟩
  · show ((0 : Int32) = 0 ∨ (0 : Int32) = 1) ∧ _
    refine ⟨Or.inl rfl, rfl, 0, rfl, Or.inr ⟨rfl, ?_⟩⟩
    simpa [ev_cmp] using hc
  · show 0 ≤ _ ∧ ((1 : Int32) = 0 ∨ (1 : Int32) = 1) ∧ _
    refine ⟨(by decide : (0 : Int) ≤ 14), Or.inr rfl, rfl, 1, rfl, Or.inl ⟨rfl, ?_⟩⟩
    have hc : (!decide ((x >>> (m &&& 31)) &&& 1 = 1)) = false := hc
    simpa using hc
noncomputable def ts_a (M : cm_M) : Int32 := (1 <<< (M.1 127 3 &&& 31)) - 1
theorem ts_all0 (M : cm_M) : cm_Call cm_ms 1 208 [.ref 124] (ts_f M) (fun v M' => M' = ts_f M ∧ v = some (.int (ts_a M))) := by
  refine cm_Call_of cm_ms_ok (k := 208) (mi := mr_208) rfl (by show 1 ≤ 1; decide) ?_
  refine cm_At_run cm_ms_ok (k := 208) rfl (stops := []) (J := fun _ => False) (fun S hS => hS.elim) (n := 20) ?_
  show (cm_kind 124).1 = _ ∧ _ < _ ∧ (cm_kind 127).1 = _ ∧ 0 ≤ _ ∧ _ < _ ∧ _
  exact ⟨by decide, by decide, by decide, by decide, by decide, rfl, rfl⟩
theorem ts_all {M : cm_M} (h : ab_ok hp hN M) : cm_Call cm_ms 1 208 [.ref 124] M (fun v M' => M' = M ∧ v = some (.int (ts_a M))) := by
  have := ts_all0 M
  rw [ts_f_eq h] at this
  exact this
theorem ts_num : ∀ n, n < 7 → 0 ≤ ((1 <<< (Int32.ofNat n &&& 31)) - 1 : Int32).toInt ∧ ((1 <<< (Int32.ofNat n &&& 31)) - 1 : Int32).toInt ≤ 63 ∧ ∀ m, m < n → ((((1 <<< (Int32.ofNat n &&& 31)) - 1 : Int32) >>> (Int32.ofNat m &&& 31)) &&& 1) = 1 := by decide +kernel
theorem ts_small {x : Int32} {b : Nat} (h0 : 0 ≤ x.toInt) (h1 : x.toInt < b) : ∃ n : Nat, n < b ∧ x = Int32.ofNat n ∧ x.toInt = n := by
  refine ⟨x.toInt.toNat, by omega, ?_, by omega⟩
  apply Int32.toInt_inj.mp
  have h2 := x.toInt_lt
  rw [Int32.toInt_ofNat_of_lt (by omega)]
  omega
theorem ts_zero (m : Int32) : ((0 : Int32) >>> (m &&& 31)) &&& 1 ≠ 1 := by
  rw [Int32.zero_shiftRight, Int32.zero_and]
  decide
theorem ts_mul {w : Int64} {x : Int32} {m : Nat} (hm : m ≤ 5) (h0 : 0 ≤ w.toInt) (h1 : w.toInt ≤ 100 ^ m) (hx : 0 ≤ x.toInt) (hx2 : x.toInt ≤ 100) : (w * x.toInt64).toInt = w.toInt * x.toInt ∧ 0 ≤ w.toInt * x.toInt ∧ w.toInt * x.toInt ≤ 100 ^ (m + 1) ∧ (1 ≤ w.toInt → 1 ≤ x.toInt → 1 ≤ w.toInt * x.toInt) := by
  have e1 : 0 ≤ w.toInt * x.toInt := Int.mul_nonneg h0 hx
  have e2 : w.toInt * x.toInt ≤ 100 ^ m * 100 := Int.mul_le_mul h1 hx2 hx (by have := h1; omega)
  have e3 : (100 : Int) ^ (m + 1) = 100 ^ m * 100 := by rw [Int.pow_succ]
  have e4 : (100 : Int) ^ m ≤ 10000000000 := by
    have : ∀ m : Nat, m ≤ 5 → (100 : Int) ^ m ≤ 10000000000 := by decide
    exact this m hm
  refine ⟨?_, e1, by rw [e3]; exact e2, fun a b => ?_⟩
  · rw [Int64.toInt_mul, Int32.toInt_toInt64]
    exact Int.bmod_eq_of_le (by omega) (by omega)
  · have := Int.mul_le_mul a b (by omega) (by omega)
    omega
theorem ts_sub {d : Nat} {mi : ev_MI} {Post : cm_K} {pc : Nat} {L L' : List (Nat × Value)} {st : List Value} {M : cm_M} (h : cm_At cm_ms d mi Post (pc, L', st, M)) (hL : ∀ q ∈ L', cm_look L q.1 = some q.2) : cm_At cm_ms d mi Post (pc, L, st, M) := cm_At_sub h hL
theorem ts_any {α : Type} {o : Option α} {p : α → Bool} (h : o.any p = true) : ∃ a, o = some a ∧ p a = true := by
  cases o with
  | none => cases h
  | some a => exact ⟨a, rfl, h⟩
noncomputable def tc_yes : ab_Ct := (214, [(1, 0, [124]), (1, 0, [129, 132]), (3, 0, [])], [(0, 8, 0, (0, 0, []), (0, 0, []))], [], [], [([(3, 1, [])], [(0, 8, 0, (0, 0, []), (0, 0, [])), ((-2147483648), 2147483647, 0, (0, 0, []), (0, 0, []))], [])])
noncomputable def tc_en : ab_Ct := (215, [(1, 0, [124]), (1, 0, [129, 132]), (3, 0, [])], [(0, 8, 0, (0, 0, []), (0, 0, []))], [], [], [([(3, 1, [])], [(0, 8, 0, (0, 0, []), (0, 0, [])), (0, 1, 0, (0, 0, []), (0, 0, []))], [])])
noncomputable def tc_go : ab_Ct := (220, [(1, 0, [124]), (3, 0, [])], [((-2147483648), 2147483647, 0, (0, 0, []), (0, 0, []))], [], [(132, [])], [([], [((-2147483648), 2147483647, 0, (0, 0, []), (0, 0, []))], [])])
noncomputable def ts_S0 : ab_S := (111, [(0, (1, 0, [124])), (1, (3, 0, [])), (2, (3, 1, [])), (3, (6, 0, []))], [], [(0, 4, 0, (0, 0, []), (0, 0, [])), (0, 63, 0, (0, 0, []), (0, 0, []))], [])
noncomputable def ts_p (f : Bool × ab_S) : Bool := f.1 && (decide (f.2.1 = 17) && (decide (f.2.2.1 = [(0, (1, 0, [124])), (1, (3, 0, [])), (2, (3, 4, []))]) && (decide (f.2.2.2.1 = []) && decide ((f.2.2.2.2.1[4]?).map (fun r => r.2.2) = some (1, (3, 1, []), (0, 1, []))))))
set_option maxRecDepth 1000000 in
theorem ts_chk : (ab_run (ab_cl cm_ms hp [(124, [32, 33])] [tc_yes, tc_en] [] 0) hp [(124, [32, 33])] (cm_P mr_281) mr_281.2.2.2.2.2.2 [(17, [0, 1, 2])] 60 ts_S0).any (fun fs => fs.all ts_p) = true := by decide +kernel
theorem ts_k2 {k s : Int32} {a b c e : Int} (h1 : a ≤ k.toInt) (h2 : k.toInt ≤ b) (h3 : c ≤ s.toInt) (h4 : s.toInt ≤ e) : ab_k [k, s] [(a, b, 0, (0, 0, []), (0, 0, [])), (c, e, 0, (0, 0, []), (0, 0, []))] := by
  refine ⟨rfl, fun j r x g1 g2 => ?_⟩
  match j with
  | 0 => cases g1; cases g2; exact ⟨⟨h1, h2⟩, Or.inl rfl⟩
  | 1 => cases g1; cases g2; exact ⟨⟨h3, h4⟩, Or.inl rfl⟩
  | j + 2 => cases g1
theorem ts_D2 {d : Nat} (hY : ab_CT cm_ms hp hN d tc_yes) (hE : ab_CT cm_ms hp hN d tc_en) {Post : cm_K} {k s : Int32} {w : Int64} {M : cm_M} (hM : ab_ok hp hN M) (hk0 : 0 ≤ k.toInt) (hk1 : k.toInt ≤ 4) (hs0 : 0 ≤ s.toInt) (hs1 : s.toInt ≤ 63) (IH : ∀ M', ab_ok hp hN M' → ab_fr [(124, [32, 33])] M M' → cm_At cm_ms d mr_281 Post (17, [(0, .ref 124), (1, .int k), (2, .int (s + 1))], [], M')) : cm_At cm_ms d mr_281 Post (111, [(0, .ref 124), (1, .int k), (2, .int s), (3, .long w)], [], M) := by
  refine cm_At_run cm_ms_ok (k := 281) rfl (stops := [(17, [0, 1, 2])]) (J := cm_At cm_ms d mr_281 Post) (fun S hS => hS) (n := 60) ?_
  obtain ⟨fs, hfs, hall⟩ := ts_any ts_chk
  have hus : ∀ c ∈ [tc_yes, tc_en], ab_CT cm_ms hp hN d c := List.forall_mem_cons.mpr ⟨hY, List.forall_mem_cons.mpr ⟨hE, fun _ h => absurd h List.not_mem_nil⟩⟩
  refine ab_run_ok (M0 := M) hNP (ab_cl_ok cm_ms_ok cm_ms_rc (inl := []) (hin := fun _ h => nomatch h) hNP hus 0) (cm_ms_rc 281 mr_281 rfl) 60 _ fs _ [k, s] hfs ⟨rfl, ?_, trivial, ts_k2 hk0 hk1 hs0 hs1, hM, ab_fr_rf _ _, fun q hq => nomatch hq⟩ (fun f hf ext C' hG => ?_)
  · intro q hq
    simp only [ts_S0, List.mem_cons, List.not_mem_nil, or_false] at hq
    rcases hq with rfl | rfl | rfl | rfl
    · exact ⟨_, rfl, 124, List.mem_singleton.mpr rfl, rfl⟩
    · exact ⟨_, rfl, k, rfl, rfl⟩
    · exact ⟨_, rfl, s, rfl, rfl⟩
    · exact ⟨_, rfl, w, rfl⟩
  · have h1 := List.all_eq_true.mp hall f hf
    simp only [ts_p, Bool.and_eq_true, decide_eq_true_eq] at h1
    obtain ⟨h1, h2, h3, h4, h5⟩ := h1
    refine ⟨fun _ => ?_, fun h0 => by rw [h1] at h0; cases h0⟩
    obtain ⟨g1, g2, g3, g4, g5⟩ := hG
    obtain ⟨pc, CL, sc, M'⟩ := C'
    dsimp only at g1 g2 g3 g4 g5
    rw [h2] at g1
    subst g1
    rw [h4] at g3
    have hsc := ab_s_nil g3
    subst hsc
    rw [h3] at g2
    obtain ⟨v0, l0, c0, hc0, rfl⟩ := g2 (0, (1, 0, [124])) List.mem_cons_self
    obtain ⟨v1, l1, x1, hx1, rfl⟩ := g2 (1, (3, 0, [])) (List.mem_cons_of_mem _ List.mem_cons_self)
    obtain ⟨v2, l2, x2, hx2, rfl⟩ := g2 (2, (3, 4, [])) (List.mem_cons_of_mem _ (List.mem_cons_of_mem _ List.mem_cons_self))
    have hc0 := List.mem_singleton.mp hc0
    subst hc0
    have e1 : some k = some x1 := hx1
    cases e1
    have e2 : x2 = s + 1 := by
      cases hr : f.2.2.2.2.1[4]? with
      | none => rw [hr] at h5; cases h5
      | some r =>
        rw [hr] at h5
        have h5 : r.2.2 = (1, (3, 1, []), (0, 1, [])) := Option.some.inj h5
        have h6 := (g4.2 4 r x2 hr hx2).2
        rw [h5] at h6
        rcases h6 with h6 | ⟨y, z, a1, a2, a3⟩
        · cases h6
        · have a1 : some s = some y := a1
          have a2 : some (Int32.ofInt 1) = some z := a2
          cases a1
          cases a2
          exact a3
    subst e2
    refine ts_sub (IH M' g5.1 g5.2.1) (fun q hq => ?_)
    simp only [List.mem_cons, List.not_mem_nil, or_false] at hq
    rcases hq with rfl | rfl | rfl
    · exact l0
    · exact l1
    · exact l2
noncomputable abbrev ts_md : ab_Md := [(124, [31, 32, 33]), (132, [])]
noncomputable abbrev ts_st : List (Nat × List Nat) := [(17, [0, 1, 2]), (35, [0, 1, 2, 3, 5]), (101, [0, 1, 2, 3]), (111, [0, 1, 2, 3])]
noncomputable def ts_J1 (M0 M : cm_M) (s : Int32) : Prop := ab_ok hp hN M ∧ ab_fr ts_md M0 M ∧ 0 ≤ s.toInt ∧ s.toInt ≤ (ts_a M0).toInt + 1 ∧ 0 ≤ (M.2.1 124 31).toInt ∧ (M.2.1 124 31).toInt ≤ s.toInt * 1000000000000 ∧ (1 ≤ s.toInt → (M0.1 127 2).toInt < 100 → 1 ≤ (M.2.1 124 31).toInt) ∧ ((ts_a M0).toInt < s.toInt → (M0.1 127 2).toInt = 100 → 1 ≤ (M.2.1 124 31).toInt)
noncomputable def ts_J2 (M0 M : cm_M) (s m : Int32) (w : Int64) : Prop := ts_J1 M0 M s ∧ s.toInt ≤ (ts_a M0).toInt ∧ 0 ≤ m.toInt ∧ m.toInt ≤ (M0.1 127 3).toInt ∧ 0 ≤ w.toInt ∧ w.toInt ≤ 100 ^ m.toInt.toNat ∧ (s = 0 → (M0.1 127 2).toInt < 100 → 1 ≤ w.toInt) ∧ (s = ts_a M0 → (M0.1 127 2).toInt = 100 → 1 ≤ w.toInt)
theorem ts_fr2 {M0 M M' : cm_M} {md : ab_Md} (h1 : ab_fr ts_md M0 M) (hm : ab_mds md ts_md = true) (h2 : ab_fr md M M') : ab_fr ts_md M0 M' := fun c i hc => by
  obtain ⟨a1, a2, a3⟩ := h1 c i hc
  obtain ⟨b1, b2, b3⟩ := h2 c i (ab_mds_ok hm hc)
  exact ⟨b1.trans a1, b2.trans a2, b3.trans a3⟩
theorem ts_hi {M : cm_M} (h : ab_ok hp hN M) : (0 ≤ (M.1 127 2).toInt ∧ (M.1 127 2).toInt ≤ 100) ∧ 0 ≤ (M.1 127 3).toInt ∧ (M.1 127 3).toInt ≤ 6 := by
  have h2 := h.1 127 2
  have h3 := h.1 127 3
  rw [show ab_hi hp 127 2 = (0, 100) from by decide +kernel] at h2
  rw [show ab_hi hp 127 3 = (0, 6) from by decide +kernel] at h3
  exact ⟨h2, h3⟩
theorem ts_an {M : cm_M} (h : ab_ok hp hN M) : 0 ≤ (ts_a M).toInt ∧ (ts_a M).toInt ≤ 63 ∧ ∀ m : Int32, 0 ≤ m.toInt → m.toInt < (M.1 127 3).toInt → (ts_a M >>> (m &&& 31)) &&& 1 = 1 := by
  obtain ⟨-, h0, h1⟩ := ts_hi h
  obtain ⟨n, hn, en, en2⟩ := ts_small (b := 7) h0 (by omega)
  have hx := ts_num n hn
  unfold ts_a
  rw [en] at *
  refine ⟨hx.1, hx.2.1, fun m g0 g1 => ?_⟩
  obtain ⟨q, hq, eq, eq2⟩ := ts_small (b := 7) g0 (by omega)
  rw [eq]
  exact hx.2.2 q (by omega)
theorem ts_D {d : Nat} (hY : ab_CT cm_ms hp hN d tc_yes) (hE : ab_CT cm_ms hp hN d tc_en) {Post : cm_K} {M0 M : cm_M} (hM0 : ab_ok hp hN M0) {k s m : Int32} {w : Int64} (hk0 : 0 ≤ k.toInt) (hk1 : k.toInt ≤ 4) (hJ : ts_J2 M0 M s m w) (IH : ∀ M', ts_J1 M0 M' (s + 1) → cm_At cm_ms d mr_281 Post (17, [(0, .ref 124), (1, .int k), (2, .int (s + 1))], [], M')) : cm_At cm_ms d mr_281 Post (101, [(0, .ref 124), (1, .int k), (2, .int s), (3, .long w)], [], M) := by
  obtain ⟨⟨j1, j2, j3, j4, j5, j6, j7, j8⟩, i1, i2, i3, i4, i5, i6, i7⟩ := hJ
  obtain ⟨a1, a2, -⟩ := ts_an hM0
  obtain ⟨-, n1, n2⟩ := ts_hi hM0
  have hw : w.toInt ≤ 1000000000000 := by
    have : ∀ q : Nat, q < 7 → (100 : Int) ^ q ≤ 1000000000000 := by decide
    have := this m.toInt.toNat (by omega)
    omega
  have hsum : (M.2.1 124 31 + w).toInt = (M.2.1 124 31).toInt + w.toInt := by
    rw [Int64.toInt_add]
    exact Int.bmod_eq_of_le (by omega) (by omega)
  have hinc := hd_inc (i := s) (by omega)
  refine cm_At_run cm_ms_ok (k := 281) rfl (stops := ts_st) (J := cm_At cm_ms d mr_281 Post) (fun S hS => hS) (n := 20) ?_
  show _ = 1 ∧ (cm_kind 124).1 = _ ∧ _ < _ ∧ (cm_kind 124).1 = _ ∧ _ < _ ∧ _ = false ∧ _ ∧ _
  refine ⟨rfl, by decide, by decide, by decide, by decide, by decide, rfl, ?_⟩
  refine ts_D2 hY hE (M := cm_wl M 124 31 (M.2.1 124 31 + w)) (hd_wl_ok j1) hk0 hk1 j3 (by omega) (fun M' g1 g2 => IH M' ?_)
  have e31 : M'.2.1 124 31 = M.2.1 124 31 + w := (g2 124 31 (by decide)).2.1
  refine ⟨g1, ts_fr2 (hd_wl_fr (by decide) j2) (by decide) g2, by omega, by omega, ?_, ?_, fun _ hs => ?_, fun ha hs => ?_⟩
  · rw [e31]; omega
  · rw [e31]; omega
  · rw [e31]
    by_cases h0 : s = 0
    · have := i6 h0 hs
      omega
    · have : s.toInt ≠ 0 := fun e => h0 (Int32.toInt_inj.mp (e.trans (by decide)))
      have := j7 (by omega) hs
      omega
  · rw [e31]
    have : s = ts_a M0 := Int32.toInt_inj.mp (by omega)
    have := i7 this hs
    omega
theorem ts_tail {d : Nat} (hd : 1 ≤ d) {Post : cm_K} (J : cm_S → Prop) (f : Nat) {k s m : Int32} {w : Int64} {M : cm_M} (h0 : 0 ≤ m.toInt) (h1 : m.toInt < 11) (H1 : J (35, [(0, .ref 124), (1, .int k), (2, .int s), (3, .long w), (5, .int (m + 1))], [], ts_f M)) (H2 : J (35, [(0, .ref 124), (1, .int k), (2, .int s), (3, .long w), (5, .int (m + 1))], [], cm_wi (ts_f M) 132 m.toNatClampNeg 0)) : cm_wp cm_ms (cm_Call cm_ms d) none (cm_P mr_281) mr_281.2.2.2.2.2.2 ts_st J (cm_ret mr_281.2.2.2.1 Post) (f + 30) (78, [(3, .long w), (0, .ref 124), (1, .int k), (2, .int s), (5, .int m)], [], ts_f M) := by
  show cm_cs [] ≤ 8 ∧ ev_nar1 _ _ = true ∧ (_ → _) ∧ cm_Call cm_ms d 168 [.int s, .int m] (ts_f M) _
  refine ⟨by decide, by decide, fun h => absurd h (by decide), cm_Call_up (ts_bit _ s m) hd (fun v M' hv => ?_)⟩
  obtain ⟨rfl, b, rfl, hb⟩ := hv
  show 0 ≤ _ ∧ (ev_cmp 0 b 0 = true → _) ∧ (ev_cmp 0 b 0 = false → _)
  refine ⟨(by decide : (0 : Int) ≤ 95), fun _ => ?_, fun _ => ?_⟩
  · show 5 < 6 ∧ 0 ≤ _ ∧ _
    exact ⟨by decide, (by decide : (0 : Int) ≤ 35), H1⟩
  · show (cm_kind 124).1 = _ ∧ _ < _ ∧ (cm_kind 132).1 = _ ∧ 0 ≤ m.toInt ∧ m.toInt < _ ∧ 5 < 6 ∧ 0 ≤ _ ∧ _
    exact ⟨by decide, by decide, by decide, h0, h1, by decide, (by decide : (0 : Int) ≤ 35), H2⟩
theorem ts_wi {M : cm_M} {i : Nat} (h : ab_ok hp hN M) (hi : i < 11) : ab_ok hp hN (cm_wi M 132 i 0) := by
  have hb : ∀ i, i < 11 → (ab_hi hp 132 i).1 ≤ 0 ∧ 0 ≤ (ab_hi hp 132 i).2 := by decide +kernel
  refine ⟨fun a b => ?_, fun a b => h.2.1 a b, h.2.2⟩
  show ev_inb (ab_hi hp a b) (if a = 132 ∧ b = i then 0 else M.1 a b)
  split
  · rename_i e
    rw [e.1, e.2]
    exact hb i hi
  · exact h.1 a b
theorem ts_wf {M0 M : cm_M} {i : Nat} {x : Int32} (h : ab_fr ts_md M0 M) : ab_fr ts_md M0 (cm_wi M 132 i x) := by
  intro a b hm
  obtain ⟨h1, h2, h3⟩ := h a b hm
  refine ⟨?_, h2, h3⟩
  show (if a = 132 ∧ b = i then x else M.1 a b) = _
  rw [if_neg ?_]
  · exact h1
  · rintro ⟨rfl, rfl⟩
    cases hm
theorem ts_step {M0 M M' : cm_M} (hM0 : ab_ok hp hN M0) {s m x : Int32} {w : Int64} (hJ : ts_J2 M0 M s m w) (hJ' : ts_J1 M0 M' s) (hlt : m.toInt < (M0.1 127 3).toInt) (hx0 : 0 ≤ x.toInt) (hx1 : x.toInt ≤ 100) (f1 : s = 0 → (M0.1 127 2).toInt < 100 → 1 ≤ x.toInt) (f2 : s = ts_a M0 → (M0.1 127 2).toInt = 100 → 1 ≤ x.toInt) : ts_J2 M0 M' s (m + 1) (w * x.toInt64) := by
  obtain ⟨-, i1, i2, i3, i4, i5, i6, i7⟩ := hJ
  obtain ⟨-, n1, n2⟩ := ts_hi hM0
  have hinc := hd_inc (i := m) (by omega)
  obtain ⟨e1, e2, e3, e4⟩ := ts_mul (w := w) (x := x) (m := m.toInt.toNat) (by omega) i4 i5 hx0 hx1
  have em : (m + 1).toInt.toNat = m.toInt.toNat + 1 := by omega
  refine ⟨hJ', i1, by omega, by omega, by rw [e1]; exact e2, by rw [e1, em]; exact e3, fun a b => ?_, fun a b => ?_⟩
  · rw [e1]
    exact e4 (i6 a b) (f1 a b)
  · rw [e1]
    exact e4 (i7 a b) (f2 a b)
theorem ts_C {d : Nat} (hd : 1 ≤ d) {Post : cm_K} {M0 : cm_M} (hM0 : ab_ok hp hN M0) {k s : Int32} (HD : ∀ (M : cm_M) (m : Int32) (w : Int64), ts_J2 M0 M s m w → cm_At cm_ms d mr_281 Post (101, [(0, .ref 124), (1, .int k), (2, .int s), (3, .long w)], [], M)) : ∀ (j : Nat) (M : cm_M) (m : Int32) (w : Int64), ts_J2 M0 M s m w → (M0.1 127 3).toInt - m.toInt < (j : Int) → cm_At cm_ms d mr_281 Post (35, [(0, .ref 124), (1, .int k), (2, .int s), (3, .long w), (5, .int m)], [], M) := by
  intro j
  induction j with
  | zero =>
    intro M m w hJ hj
    exact absurd hJ.2.2.2.1 (by omega)
  | succ j ih =>
    intro M m w hJ hj
    have hok := hJ.1.1
    have e127 : ∀ i, M.1 127 i = M0.1 127 i := fun i => (hJ.1.2.1 127 i rfl).1
    obtain ⟨⟨s1, s2⟩, n1, n2⟩ := ts_hi hM0
    have i2 := hJ.2.2.1
    have IH' : ∀ (M' : cm_M) (x : Int32), m.toInt < (M0.1 127 3).toInt → ts_J1 M0 M' s → 0 ≤ x.toInt → x.toInt ≤ 100 → (s = 0 → (M0.1 127 2).toInt < 100 → 1 ≤ x.toInt) → (s = ts_a M0 → (M0.1 127 2).toInt = 100 → 1 ≤ x.toInt) → cm_At cm_ms d mr_281 Post (35, [(0, .ref 124), (1, .int k), (2, .int s), (3, .long (w * x.toInt64)), (5, .int (m + 1))], [], M') := fun M' x hlt hJ' g0 g1 f1 f2 => ih M' (m + 1) _ (ts_step hM0 hJ hJ' hlt g0 g1 f1 f2) (by have := hd_inc (i := m) (by omega); omega)
    have hJf : ts_J1 M0 (ts_f M) s := by rw [ts_f_eq hok]; exact hJ.1
    have h101 := HD M m w hJ
    rw [← ts_f_eq hok] at h101
    rw [← ts_f_eq hok]
    refine cm_At_run cm_ms_ok (k := 281) rfl (stops := ts_st) (J := cm_At cm_ms d mr_281 Post) (fun S hS => hS) (n := 80) ?_
    show (cm_kind 124).1 = _ ∧ _ < _ ∧ (cm_kind 127).1 = _ ∧ 0 ≤ _ ∧ _ < _ ∧ 0 ≤ _ ∧ (ev_cmp 3 m (M.1 127 3) = true → _) ∧ (ev_cmp 3 m (M.1 127 3) = false → _)
    refine ⟨by decide, by decide, by decide, by decide, by decide, (by decide : (0 : Int) ≤ 101), fun hc => h101, fun hc => ?_⟩
    have hlt : m.toInt < (M0.1 127 3).toInt := by
      have h1 : ¬ M.1 127 3 ≤ m := of_decide_eq_false hc
      rw [Int32.le_iff_toInt_le, e127 3] at h1
      omega
    have hJw : ts_J1 M0 (cm_wi (ts_f M) 132 m.toNatClampNeg 0) s := by
      obtain ⟨j1, j2, j3⟩ := hJf
      refine ⟨ts_wi j1 ?_, ts_wf j2, j3⟩
      have : (m.toNatClampNeg : Int) = m.toInt := by
        rw [Int32.toNatClampNeg]
        omega
      omega
    show cm_cs [.long w] ≤ 8 ∧ ev_nar1 _ _ = true ∧ (_ → _) ∧ cm_Call cm_ms d 168 [.int s, .int m] (ts_f M) _
    refine ⟨by show 2 ≤ 8; decide, by decide, fun h => absurd h (by decide), cm_Call_up (ts_bit _ s m) hd (fun v M' hv => ?_)⟩
    obtain ⟨rfl, b, rfl, hb⟩ := hv
    show 0 ≤ _ ∧ (ev_cmp 0 b 0 = true → _) ∧ (ev_cmp 0 b 0 = false → _)
    refine ⟨(by decide : (0 : Int) ≤ 66), fun hc2 => ?_, fun hc2 => ?_⟩
    · have hb0 : b = 0 := of_decide_eq_true hc2
      have hnb : (s >>> (m &&& 31)) &&& 1 ≠ 1 := by
        rcases hb with ⟨e, _⟩ | ⟨_, e⟩
        · rw [hb0] at e
          exact absurd e (by decide)
        · exact e
      have hx : (100 - M0.1 127 2).toInt = 100 - (M0.1 127 2).toInt := by
        have h1 : (100 : Int32).toInt = 100 := by decide
        rw [Int32.toInt_sub, h1, ev_bm (by omega) (by omega)]
      have f1 : s = 0 → (M0.1 127 2).toInt < 100 → 1 ≤ (100 - M0.1 127 2).toInt := fun _ h => by rw [hx]; omega
      have f2 : s = ts_a M0 → (M0.1 127 2).toInt = 100 → 1 ≤ (100 - M0.1 127 2).toInt := fun h _ => by
        rw [h] at hnb
        exact absurd ((ts_an hM0).2.2 m i2 hlt) hnb
      show (cm_kind 124).1 = _ ∧ _ < _ ∧ (cm_kind 127).1 = _ ∧ 0 ≤ _ ∧ _ < _ ∧ 3 + 1 < 6 ∧ _
      refine ⟨by decide, by decide, by decide, by decide, by decide, by decide, ?_⟩
      refine ts_tail hd (cm_At cm_ms d mr_281 Post) 30 (w := w * (100 - M.1 127 2).toInt64) i2 (by omega) ?_ ?_
      · rw [e127 2]
        exact IH' _ _ hlt hJf (by rw [hx]; omega) (by rw [hx]; omega) f1 f2
      · rw [e127 2]
        exact IH' _ _ hlt hJw (by rw [hx]; omega) (by rw [hx]; omega) f1 f2
    · have hb1 : (s >>> (m &&& 31)) &&& 1 = 1 := by
        rcases hb with ⟨_, e⟩ | ⟨e, _⟩
        · exact e
        · exact absurd e (of_decide_eq_false hc2)
      have f1 : s = 0 → (M0.1 127 2).toInt < 100 → 1 ≤ (M0.1 127 2).toInt := fun h _ => by
        rw [h] at hb1
        exact absurd hb1 (ts_zero m)
      have f2 : s = ts_a M0 → (M0.1 127 2).toInt = 100 → 1 ≤ (M0.1 127 2).toInt := fun _ h => by omega
      show (cm_kind 124).1 = _ ∧ _ < _ ∧ (cm_kind 127).1 = _ ∧ 0 ≤ _ ∧ _ < _ ∧ 0 ≤ _ ∧ 3 + 1 < 6 ∧ _
      refine ⟨by decide, by decide, by decide, by decide, by decide, (by decide : (0 : Int) ≤ 76), by decide, ?_⟩
      refine ts_tail hd (cm_At cm_ms d mr_281 Post) 31 (w := w * (M.1 127 2).toInt64) i2 (by omega) ?_ ?_
      · rw [e127 2]
        exact IH' _ _ hlt hJf s1 s2 f1 f2
      · rw [e127 2]
        exact IH' _ _ hlt hJw s1 s2 f1 f2
noncomputable def ts_P (M0 : cm_M) : cm_K := fun v M' => v = none ∧ ab_ok hp hN M' ∧ ab_fr ts_md M0 M' ∧ M'.2.1 124 31 ≠ 0
theorem ts_B {d : Nat} (hd : 1 ≤ d) (hG : ab_CT cm_ms hp hN d tc_go) (hY : ab_CT cm_ms hp hN d tc_yes) (hE : ab_CT cm_ms hp hN d tc_en) {M0 : cm_M} (hM0 : ab_ok hp hN M0) {k : Int32} (hk0 : 0 ≤ k.toInt) (hk1 : k.toInt ≤ 4) : ∀ (j : Nat) (M : cm_M) (s : Int32), ts_J1 M0 M s → (ts_a M0).toInt + 1 - s.toInt < (j : Int) → cm_At cm_ms d mr_281 (ts_P M0) (17, [(0, .ref 124), (1, .int k), (2, .int s)], [], M) := by
  intro j
  induction j with
  | zero =>
    intro M s hJ hj
    exact absurd hJ.2.2.2.1 (by omega)
  | succ j ih =>
    intro M s hJ hj
    have hJ0 := hJ
    obtain ⟨j1, j2, j3, j4, j5, j6, j7, j8⟩ := hJ
    obtain ⟨a1, a2, -⟩ := ts_an hM0
    obtain ⟨⟨s1, s2⟩, n1, n2⟩ := ts_hi hM0
    have ea : ts_a M = ts_a M0 := by
      unfold ts_a
      rw [(j2 127 3 rfl).1]
    refine cm_At_run cm_ms_ok (k := 281) rfl (stops := ts_st) (J := cm_At cm_ms d mr_281 (ts_P M0)) (fun S hS => hS) (n := 40) ?_
    show cm_cs [.int s] ≤ 8 ∧ ev_nar1 _ _ = true ∧ (_ → _) ∧ cm_Call cm_ms d 208 [.ref 124] M _
    refine ⟨by show 1 ≤ 8; decide, by decide, fun _ => Or.inr rfl, cm_Call_up (ts_all j1) hd (fun v M' hv => ?_)⟩
    obtain ⟨rfl, rfl⟩ := hv
    show 0 ≤ _ ∧ (ev_cmp 4 s (ts_a M') = true → _) ∧ (ev_cmp 4 s (ts_a M') = false → _)
    refine ⟨(by decide : (0 : Int) ≤ 164), fun hc => ?_, fun hc => ?_⟩
    · show ts_P M0 none M'
      have h1 : ts_a M' < s := of_decide_eq_true hc
      rw [ea, Int32.lt_iff_toInt_lt] at h1
      refine ⟨rfl, j1, j2, fun e => ?_⟩
      rw [e] at j7 j8
      have h0 : (0 : Int64).toInt = 0 := by decide
      rw [h0] at j7 j8
      by_cases h : (M0.1 127 2).toInt < 100
      · have := j7 (by omega) h
        omega
      · have := j8 (by omega) (by omega)
        omega
    · have h1 : ¬ ts_a M' < s := of_decide_eq_false hc
      rw [ea, Int32.lt_iff_toInt_lt] at h1
      have hk : ab_k [1] [((-2147483648), 2147483647, 0, (0, 0, []), (0, 0, []))] := by
        refine ⟨rfl, fun j r x g1 g2 => ?_⟩
        match j with
        | 0 => cases g1; cases g2; exact ⟨ev_ful_in _, Or.inl rfl⟩
        | j + 1 => cases g1
      show cm_cs [] ≤ 8 ∧ ev_nar1 _ _ = true ∧ (_ → _) ∧ cm_Call cm_ms d 220 [.ref 124, .int 1] M' _
      refine ⟨by decide, by decide, fun _ => Or.inr rfl, cm_Call_up (hG [1] [.ref 124, .int 1] M' ⟨⟨124, List.mem_singleton.mpr rfl, rfl⟩, ⟨1, rfl, rfl⟩, trivial⟩ hk j1 (fun q hq => nomatch hq)) (Nat.le_refl _) (fun v M'' hv => ?_)⟩
      obtain ⟨o, ho, ext, p1, p2, p3⟩ := hv
      have ho := List.mem_singleton.mp ho
      subst ho
      have hvn := ab_s_nil p1
      cases v with
      | some v => cases hvn
      | none =>
        have e31 : M''.2.1 124 31 = M'.2.1 124 31 := (p3.2.1 124 31 (by decide)).2.1
        show 3 + 1 < 6 ∧ 5 < 6 ∧ _
        refine ⟨by decide, by decide, ?_⟩
        refine ts_C hd hM0 (fun M2 m w hJ2 => ts_D hY hE hM0 hk0 hk1 hJ2 (fun M3 hJ3 => ih M3 (s + 1) hJ3 (by have := hd_inc (i := s) (by omega); omega))) 7 M'' 0 1 ⟨⟨p3.1, ts_fr2 j2 (by decide) p3.2.1, j3, j4, by rw [e31]; exact j5, by rw [e31]; exact j6, by rw [e31]; exact j7, by rw [e31]; exact j8⟩, by omega, by decide, n1, by decide, by decide, fun _ _ => by decide, fun _ _ => by decide⟩ ?_
        have h0 : (0 : Int32).toInt = 0 := by decide
        rw [h0]
        omega
theorem hd_shaves {d : Nat} (hd : 1 ≤ d) (hG : ab_CT cm_ms hp hN d tc_go) (hY : ab_CT cm_ms hp hN d tc_yes) (hE : ab_CT cm_ms hp hN d tc_en) {M0 : cm_M} (hM0 : ab_ok hp hN M0) {k : Int32} (hk0 : 0 ≤ k.toInt) (hk1 : k.toInt ≤ 4) : cm_Call cm_ms (d + 1) 281 [.ref 124, .int k] M0 (ts_P M0) := by
  obtain ⟨a1, a2, -⟩ := ts_an hM0
  refine cm_Call_of cm_ms_ok (k := 281) (mi := mr_281) rfl (by show 2 ≤ 6; decide) ?_
  refine cm_At_run cm_ms_ok (k := 281) rfl (stops := ts_st) (J := cm_At cm_ms d mr_281 (ts_P M0)) (fun S hS => hS) (n := 30) ?_
  show (cm_kind 124).1 = _ ∧ _ < _ ∧ _ = false ∧ _ ∧ (cm_kind 124).1 = _ ∧ _ < _ ∧ _ = false ∧ _ ∧ (cm_kind 124).1 = _ ∧ _ < _ ∧ _ = false ∧ _ ∧ 2 < 6 ∧ _
  refine ⟨by decide, by decide, by decide, rfl, by decide, by decide, by decide, rfl, by decide, by decide, by decide, rfl, by decide, ?_⟩
  have h0 : (0 : Int32).toInt = 0 := by decide
  have h1 : (0 : Int64).toInt = 0 := by decide
  have e : (cm_wl (cm_wl (cm_wl M0 124 31 0) 124 32 0) 124 33 0).2.1 124 31 = 0 := rfl
  refine ts_B hd hG hY hE hM0 hk0 hk1 66 (cm_wl (cm_wl (cm_wl M0 124 31 0) 124 32 0) 124 33 0) 0 ⟨hd_wl_ok (hd_wl_ok (hd_wl_ok hM0)), hd_wl_fr (by decide) (hd_wl_fr (by decide) (hd_wl_fr (by decide) (ab_fr_rf _ _))), by decide, by rw [h0]; omega, by rw [e]; decide, by rw [e]; decide, fun h => by rw [h0] at h; omega, fun h => by rw [h0] at h; omega⟩ ?_
  rw [h0]
  omega
noncomputable def inl0 : List (Nat × ev_MI) := [(1, mr_1), (2, mr_2), (3, mr_3), (4, mr_4), (5, mr_5), (6, mr_6), (7, mr_7), (25, mr_25), (33, mr_33), (38, mr_38), (65, mr_65), (66, mr_66), (68, mr_68), (69, mr_69), (85, mr_85), (91, mr_91), (92, mr_92), (119, mr_119), (127, mr_127), (137, mr_137), (141, mr_141), (142, mr_142), (148, mr_148), (157, mr_157), (158, mr_158), (159, mr_159), (160, mr_160), (161, mr_161), (162, mr_162), (163, mr_163), (164, mr_164), (165, mr_165), (166, mr_166), (167, mr_167), (168, mr_168), (173, mr_173), (174, mr_174), (175, mr_175), (177, mr_177), (179, mr_179), (180, mr_180), (184, mr_184), (185, mr_185), (186, mr_186), (187, mr_187), (188, mr_188), (193, mr_193), (205, mr_205), (206, mr_206), (207, mr_207), (208, mr_208), (209, mr_209), (233, mr_233), (241, mr_241), (275, mr_275)]
theorem inl0_ok : ∀ q ∈ inl0, cm_ms[q.1]? = some q.2 := List.forall_mem_cons.mpr ⟨rfl, List.forall_mem_cons.mpr ⟨rfl, List.forall_mem_cons.mpr ⟨rfl, List.forall_mem_cons.mpr ⟨rfl, List.forall_mem_cons.mpr ⟨rfl, List.forall_mem_cons.mpr ⟨rfl, List.forall_mem_cons.mpr ⟨rfl, List.forall_mem_cons.mpr ⟨rfl, List.forall_mem_cons.mpr ⟨rfl, List.forall_mem_cons.mpr ⟨rfl, List.forall_mem_cons.mpr ⟨rfl, List.forall_mem_cons.mpr ⟨rfl, List.forall_mem_cons.mpr ⟨rfl, List.forall_mem_cons.mpr ⟨rfl, List.forall_mem_cons.mpr ⟨rfl, List.forall_mem_cons.mpr ⟨rfl, List.forall_mem_cons.mpr ⟨rfl, List.forall_mem_cons.mpr ⟨rfl, List.forall_mem_cons.mpr ⟨rfl, List.forall_mem_cons.mpr ⟨rfl, List.forall_mem_cons.mpr ⟨rfl, List.forall_mem_cons.mpr ⟨rfl, List.forall_mem_cons.mpr ⟨rfl, List.forall_mem_cons.mpr ⟨rfl, List.forall_mem_cons.mpr ⟨rfl, List.forall_mem_cons.mpr ⟨rfl, List.forall_mem_cons.mpr ⟨rfl, List.forall_mem_cons.mpr ⟨rfl, List.forall_mem_cons.mpr ⟨rfl, List.forall_mem_cons.mpr ⟨rfl, List.forall_mem_cons.mpr ⟨rfl, List.forall_mem_cons.mpr ⟨rfl, List.forall_mem_cons.mpr ⟨rfl, List.forall_mem_cons.mpr ⟨rfl, List.forall_mem_cons.mpr ⟨rfl, List.forall_mem_cons.mpr ⟨rfl, List.forall_mem_cons.mpr ⟨rfl, List.forall_mem_cons.mpr ⟨rfl, List.forall_mem_cons.mpr ⟨rfl, List.forall_mem_cons.mpr ⟨rfl, List.forall_mem_cons.mpr ⟨rfl, List.forall_mem_cons.mpr ⟨rfl, List.forall_mem_cons.mpr ⟨rfl, List.forall_mem_cons.mpr ⟨rfl, List.forall_mem_cons.mpr ⟨rfl, List.forall_mem_cons.mpr ⟨rfl, List.forall_mem_cons.mpr ⟨rfl, List.forall_mem_cons.mpr ⟨rfl, List.forall_mem_cons.mpr ⟨rfl, List.forall_mem_cons.mpr ⟨rfl, List.forall_mem_cons.mpr ⟨rfl, List.forall_mem_cons.mpr ⟨rfl, List.forall_mem_cons.mpr ⟨rfl, List.forall_mem_cons.mpr ⟨rfl, List.forall_mem_cons.mpr ⟨rfl, fun _ h => nomatch h⟩⟩⟩⟩⟩⟩⟩⟩⟩⟩⟩⟩⟩⟩⟩⟩⟩⟩⟩⟩⟩⟩⟩⟩⟩⟩⟩⟩⟩⟩⟩⟩⟩⟩⟩⟩⟩⟩⟩⟩⟩⟩⟩⟩⟩⟩⟩⟩⟩⟩⟩⟩⟩⟩⟩
/-- Integer.bitCount (42 steps) -/
noncomputable def ct_0 : ab_Ct := (0, [(3, 0, [])], [((-2147483648), 2147483647, 0, (0, 0, []), (0, 0, []))], [], [], [([(3, 1, [])], [((-2147483648), 2147483647, 0, (0, 0, []), (0, 0, [])), (0, 63, 0, (0, 0, []), (0, 0, []))], [])])
set_option maxRecDepth 1000000 in
theorem ck_0 : ab_CT cm_ms hp hN 1 ct_0 := ab_chk_ok (us := []) (inl := inl0) (hin := inl0_ok) (d := 0) (dd := 0) (n := 20000) (tms := []) cm_ms_ok cm_ms_rc hNP (fun _ h => absurd h List.not_mem_nil) (by decide +kernel) (by decide +kernel)
/-- Town.clear@6 (34 steps) -/
noncomputable def ct_1 : ab_Ct := (8, [(1, 0, [6])], [], [], [(6, [0, 1, 2, 3, 9, 15, 18]), (18, [])], [([], [], [])])
set_option maxRecDepth 1000000 in
theorem ck_1 : ab_CT cm_ms hp hN 1 ct_1 := ab_chk_ok (us := []) (inl := inl0) (hin := inl0_ok) (d := 0) (dd := 0) (n := 20000) (tms := [((37, [(0, (1, 0, [6])), (1, (3, 0, []))], [], [(0, 3, 0, (0, 0, []), (0, 0, []))], [(6, 0, (0, 0, [])), (6, 1, (0, 0, [])), (6, 2, (0, 0, [])), (6, 3, (0, 0, [])), (6, 9, (0, 0, [])), (6, 15, (0, 0, [])), (6, 18, (0, 0, []))]), [(0, 1, (0, 0, [])), ((-1), 2147483648, (3, 0, []))])]) cm_ms_ok cm_ms_rc hNP (fun _ h => absurd h List.not_mem_nil) (by decide +kernel) (by decide +kernel)
/-- Town.clear@19 (34 steps) -/
noncomputable def ct_2 : ab_Ct := (8, [(1, 0, [19])], [], [], [(19, [0, 1, 2, 3, 9, 15, 18]), (31, [])], [([], [], [])])
set_option maxRecDepth 1000000 in
theorem ck_2 : ab_CT cm_ms hp hN 1 ct_2 := ab_chk_ok (us := []) (inl := inl0) (hin := inl0_ok) (d := 0) (dd := 0) (n := 20000) (tms := [((37, [(0, (1, 0, [19])), (1, (3, 0, []))], [], [(0, 3, 0, (0, 0, []), (0, 0, []))], [(19, 0, (0, 0, [])), (19, 1, (0, 0, [])), (19, 2, (0, 0, [])), (19, 3, (0, 0, [])), (19, 9, (0, 0, [])), (19, 15, (0, 0, [])), (19, 18, (0, 0, []))]), [(0, 1, (0, 0, [])), ((-1), 2147483648, (3, 0, []))])]) cm_ms_ok cm_ms_rc hNP (fun _ h => absurd h List.not_mem_nil) (by decide +kernel) (by decide +kernel)
/-- Town.addMan@6 (42 steps) -/
noncomputable def ct_3 : ab_Ct := (9, [(1, 0, [6]), (3, 0, []), (3, 1, []), (3, 2, [])], [((-2147483648), 2147483647, 0, (0, 0, []), (0, 0, [])), ((-2147483648), 2147483647, 0, (0, 0, []), (0, 0, [])), ((-2147483648), 2147483647, 0, (0, 0, []), (0, 0, []))], [], [(6, [3]), (7, []), (8, []), (9, []), (10, []), (11, [])], [([], [((-2147483648), 2147483647, 0, (0, 0, []), (0, 0, [])), ((-2147483648), 2147483647, 0, (0, 0, []), (0, 0, [])), ((-2147483648), 2147483647, 0, (0, 0, []), (0, 0, []))], [])])
set_option maxRecDepth 1000000 in
theorem ck_3 : ab_CT cm_ms hp hN 1 ct_3 := ab_chk_ok (us := []) (inl := inl0) (hin := inl0_ok) (d := 0) (dd := 0) (n := 20000) (tms := []) cm_ms_ok cm_ms_rc hNP (fun _ h => absurd h List.not_mem_nil) (by decide +kernel) (by decide +kernel)
/-- Town.addMan@19 (42 steps) -/
noncomputable def ct_4 : ab_Ct := (9, [(1, 0, [19]), (3, 0, []), (3, 1, []), (3, 2, [])], [((-2147483648), 2147483647, 0, (0, 0, []), (0, 0, [])), ((-2147483648), 2147483647, 0, (0, 0, []), (0, 0, [])), ((-2147483648), 2147483647, 0, (0, 0, []), (0, 0, []))], [], [(19, [3]), (20, []), (21, []), (22, []), (23, []), (24, [])], [([], [((-2147483648), 2147483647, 0, (0, 0, []), (0, 0, [])), ((-2147483648), 2147483647, 0, (0, 0, []), (0, 0, [])), ((-2147483648), 2147483647, 0, (0, 0, []), (0, 0, []))], [])])
set_option maxRecDepth 1000000 in
theorem ck_4 : ab_CT cm_ms hp hN 1 ct_4 := ab_chk_ok (us := []) (inl := inl0) (hin := inl0_ok) (d := 0) (dd := 0) (n := 20000) (tms := []) cm_ms_ok cm_ms_rc hNP (fun _ h => absurd h List.not_mem_nil) (by decide +kernel) (by decide +kernel)
/-- Town.addMotion@6 (36 steps) -/
noncomputable def ct_5 : ab_Ct := (10, [(1, 0, [6]), (3, 0, []), (3, 1, []), (3, 2, [])], [((-2147483648), 2147483647, 0, (0, 0, []), (0, 0, [])), ((-2147483648), 2147483647, 0, (0, 0, []), (0, 0, [])), ((-2147483648), 2147483647, 0, (0, 0, []), (0, 0, []))], [], [(6, [9]), (12, []), (13, []), (14, []), (15, [])], [([], [((-2147483648), 2147483647, 0, (0, 0, []), (0, 0, [])), ((-2147483648), 2147483647, 0, (0, 0, []), (0, 0, [])), ((-2147483648), 2147483647, 0, (0, 0, []), (0, 0, []))], [])])
set_option maxRecDepth 1000000 in
theorem ck_5 : ab_CT cm_ms hp hN 1 ct_5 := ab_chk_ok (us := []) (inl := inl0) (hin := inl0_ok) (d := 0) (dd := 0) (n := 20000) (tms := []) cm_ms_ok cm_ms_rc hNP (fun _ h => absurd h List.not_mem_nil) (by decide +kernel) (by decide +kernel)
/-- Town.addMotion@19 (36 steps) -/
noncomputable def ct_6 : ab_Ct := (10, [(1, 0, [19]), (3, 0, []), (3, 1, []), (3, 2, [])], [((-2147483648), 2147483647, 0, (0, 0, []), (0, 0, [])), ((-2147483648), 2147483647, 0, (0, 0, []), (0, 0, [])), ((-2147483648), 2147483647, 0, (0, 0, []), (0, 0, []))], [], [(19, [9]), (25, []), (26, []), (27, []), (28, [])], [([], [((-2147483648), 2147483647, 0, (0, 0, []), (0, 0, [])), ((-2147483648), 2147483647, 0, (0, 0, []), (0, 0, [])), ((-2147483648), 2147483647, 0, (0, 0, []), (0, 0, []))], [])])
set_option maxRecDepth 1000000 in
theorem ck_6 : ab_CT cm_ms hp hN 1 ct_6 := ab_chk_ok (us := []) (inl := inl0) (hin := inl0_ok) (d := 0) (dd := 0) (n := 20000) (tms := []) cm_ms_ok cm_ms_rc hNP (fun _ h => absurd h List.not_mem_nil) (by decide +kernel) (by decide +kernel)
/-- Town.addChair@6 (18 steps) -/
noncomputable def ct_7 : ab_Ct := (11, [(1, 0, [6]), (3, 0, [])], [((-2147483648), 2147483647, 0, (0, 0, []), (0, 0, []))], [], [(6, [15]), (17, [])], [([], [((-2147483648), 2147483647, 0, (0, 0, []), (0, 0, []))], [])])
set_option maxRecDepth 1000000 in
theorem ck_7 : ab_CT cm_ms hp hN 1 ct_7 := ab_chk_ok (us := []) (inl := inl0) (hin := inl0_ok) (d := 0) (dd := 0) (n := 20000) (tms := []) cm_ms_ok cm_ms_rc hNP (fun _ h => absurd h List.not_mem_nil) (by decide +kernel) (by decide +kernel)
/-- Town.addChair@19 (18 steps) -/
noncomputable def ct_8 : ab_Ct := (11, [(1, 0, [19]), (3, 0, [])], [((-2147483648), 2147483647, 0, (0, 0, []), (0, 0, []))], [], [(19, [15]), (30, [])], [([], [((-2147483648), 2147483647, 0, (0, 0, []), (0, 0, []))], [])])
set_option maxRecDepth 1000000 in
theorem ck_8 : ab_CT cm_ms hp hN 1 ct_8 := ab_chk_ok (us := []) (inl := inl0) (hin := inl0_ok) (d := 0) (dd := 0) (n := 20000) (tms := []) cm_ms_ok cm_ms_rc hNP (fun _ h => absurd h List.not_mem_nil) (by decide +kernel) (by decide +kernel)
/-- Town.bitsOf@10 (24 steps) -/
noncomputable def ct_9 : ab_Ct := (12, [(1, 0, [10, 23]), (3, 0, [])], [((-2147483648), 2147483647, 0, (0, 0, []), (0, 0, []))], [], [], [([(3, 1, [])], [((-2147483648), 2147483647, 0, (0, 0, []), (0, 0, [])), ((-2147483648), 2147483647, 0, (0, 0, []), (0, 0, []))], [])])
set_option maxRecDepth 1000000 in
theorem ck_9 : ab_CT cm_ms hp hN 2 ct_9 := ab_chk_ok (us := [ct_0]) (inl := inl0) (hin := inl0_ok) (d := 1) (dd := 0) (n := 20000) (tms := [((4, [(0, (1, 0, [10, 23])), (1, (3, 0, [])), (2, (3, 1, [])), (3, (3, 2, []))], [], [((-2147483648), 2147483647, 0, (0, 0, []), (0, 0, [])), ((-2147483648), 2147483647, 0, (0, 0, []), (0, 0, [])), (0, 6, 0, (0, 0, []), (0, 0, []))], []), [(0, 1, (0, 0, [])), ((-1), 2147483648, (3, 2, []))])]) cm_ms_ok cm_ms_rc hNP (List.forall_mem_cons.mpr ⟨ab_CT_up ck_0 (by decide), fun _ h => absurd h List.not_mem_nil⟩) (by decide +kernel) (by decide +kernel)
/-- Town.bitsOf@11 (24 steps) -/
noncomputable def ct_10 : ab_Ct := (12, [(1, 0, [11, 24]), (3, 0, [])], [((-2147483648), 2147483647, 0, (0, 0, []), (0, 0, []))], [], [], [([(3, 1, [])], [((-2147483648), 2147483647, 0, (0, 0, []), (0, 0, [])), ((-2147483648), 2147483647, 0, (0, 0, []), (0, 0, []))], [])])
set_option maxRecDepth 1000000 in
theorem ck_10 : ab_CT cm_ms hp hN 2 ct_10 := ab_chk_ok (us := [ct_0]) (inl := inl0) (hin := inl0_ok) (d := 1) (dd := 0) (n := 20000) (tms := [((4, [(0, (1, 0, [11, 24])), (1, (3, 0, [])), (2, (3, 1, [])), (3, (3, 2, []))], [], [((-2147483648), 2147483647, 0, (0, 0, []), (0, 0, [])), ((-2147483648), 2147483647, 0, (0, 0, []), (0, 0, [])), (0, 6, 0, (0, 0, []), (0, 0, []))], []), [(0, 1, (0, 0, [])), ((-1), 2147483648, (3, 2, []))])]) cm_ms_ok cm_ms_rc hNP (List.forall_mem_cons.mpr ⟨ab_CT_up ck_0 (by decide), fun _ h => absurd h List.not_mem_nil⟩) (by decide +kernel) (by decide +kernel)
/-- Town.bitsOf@15 (24 steps) -/
noncomputable def ct_11 : ab_Ct := (12, [(1, 0, [15, 28]), (3, 0, [])], [((-2147483648), 2147483647, 0, (0, 0, []), (0, 0, []))], [], [], [([(3, 1, [])], [((-2147483648), 2147483647, 0, (0, 0, []), (0, 0, [])), ((-2147483648), 2147483647, 0, (0, 0, []), (0, 0, []))], [])])
set_option maxRecDepth 1000000 in
theorem ck_11 : ab_CT cm_ms hp hN 2 ct_11 := ab_chk_ok (us := [ct_0]) (inl := inl0) (hin := inl0_ok) (d := 1) (dd := 0) (n := 20000) (tms := [((4, [(0, (1, 0, [15, 28])), (1, (3, 0, [])), (2, (3, 1, [])), (3, (3, 2, []))], [], [((-2147483648), 2147483647, 0, (0, 0, []), (0, 0, [])), ((-2147483648), 2147483647, 0, (0, 0, []), (0, 0, [])), (0, 5, 0, (0, 0, []), (0, 0, []))], []), [(0, 1, (0, 0, [])), ((-1), 2147483648, (3, 2, []))])]) cm_ms_ok cm_ms_rc hNP (List.forall_mem_cons.mpr ⟨ab_CT_up ck_0 (by decide), fun _ h => absurd h List.not_mem_nil⟩) (by decide +kernel) (by decide +kernel)
/-- Town.votesOf (27 steps) -/
noncomputable def ct_12 : ab_Ct := (13, [(1, 0, [6, 19]), (3, 0, [])], [((-2147483648), 2147483647, 0, (0, 0, []), (0, 0, []))], [], [], [([(3, 1, [])], [((-2147483648), 2147483647, 0, (0, 0, []), (0, 0, [])), ((-2147483648), 2147483647, 0, (0, 0, []), (0, 0, []))], [])])
set_option maxRecDepth 1000000 in
theorem ck_12 : ab_CT cm_ms hp hN 1 ct_12 := ab_chk_ok (us := []) (inl := inl0) (hin := inl0_ok) (d := 0) (dd := 0) (n := 20000) (tms := [((4, [(0, (1, 0, [6, 19])), (1, (3, 0, [])), (2, (3, 1, [])), (3, (3, 2, []))], [], [((-2147483648), 2147483647, 0, (0, 0, []), (0, 0, [])), ((-2147483648), 2147483647, 0, (0, 0, []), (0, 0, [])), (0, 6, 0, (0, 0, []), (0, 0, []))], []), [(0, 1, (0, 0, [])), ((-1), 2147483648, (3, 2, []))])]) cm_ms_ok cm_ms_rc hNP (fun _ h => absurd h List.not_mem_nil) (by decide +kernel) (by decide +kernel)
/-- Town.amenders (37 steps) -/
noncomputable def ct_13 : ab_Ct := (14, [(1, 0, [6, 19]), (3, 0, [])], [(0, 4, 0, (0, 0, []), (0, 0, []))], [], [], [([(3, 1, [])], [(0, 4, 0, (0, 0, []), (0, 0, [])), ((-2147483648), 2147483647, 0, (0, 0, []), (0, 0, []))], [])])
set_option maxRecDepth 1000000 in
theorem ck_13 : ab_CT cm_ms hp hN 1 ct_13 := ab_chk_ok (us := []) (inl := inl0) (hin := inl0_ok) (d := 0) (dd := 0) (n := 20000) (tms := [((8, [(0, (1, 0, [6, 19])), (1, (3, 0, [])), (2, (3, 1, [])), (3, (3, 2, []))], [], [(0, 4, 0, (0, 0, []), (0, 0, [])), ((-2147483648), 2147483647, 0, (0, 0, []), (0, 0, [])), (1, 5, 0, (0, 0, []), (0, 0, []))], []), [(0, 1, (0, 0, [])), ((-1), 2147483648, (3, 2, []))])]) cm_ms_ok cm_ms_rc hNP (fun _ h => absurd h List.not_mem_nil) (by decide +kernel) (by decide +kernel)
/-- Town.rowUpTo (80 steps) -/
noncomputable def ct_14 : ab_Ct := (15, [(1, 0, [6, 19]), (3, 0, [])], [((-2147483648), 2147483647, 0, (0, 0, []), (0, 0, []))], [], [(16, []), (29, [])], [([(3, 1, [])], [((-2147483648), 2147483647, 0, (0, 0, []), (0, 0, [])), ((-2147483648), 2147483647, 0, (0, 0, []), (0, 0, []))], [])])
set_option maxRecDepth 1000000 in
theorem ck_14 : ab_CT cm_ms hp hN 1 ct_14 := ab_chk_ok (us := []) (inl := inl0) (hin := inl0_ok) (d := 0) (dd := 0) (n := 20000) (tms := [((2, [(0, (1, 0, [6, 19])), (1, (3, 0, [])), (2, (3, 1, []))], [], [((-2147483648), 2147483647, 0, (0, 0, []), (0, 0, [])), (0, 5, 0, (0, 0, []), (0, 0, []))], []), [(0, 1, (0, 0, [])), ((-1), 2147483648, (3, 1, [])), (0, 1000, (0, 0, [])), (0, 0, (0, 0, []))]), ((21, [(0, (1, 0, [6, 19])), (1, (3, 0, [])), (2, (3, 1, [])), (3, (3, 2, []))], [], [(0, 2147483647, 0, (0, 0, []), (0, 0, [])), (0, 4, 0, (0, 0, []), (0, 0, [])), (0, 4, 0, (0, 0, []), (0, 0, []))], []), [(0, 1, (0, 0, [])), ((-1), 2147483648, (3, 1, [])), (0, 1, (0, 0, [])), ((-1), 2147483648, (3, 2, []))])]) cm_ms_ok cm_ms_rc hNP (fun _ h => absurd h List.not_mem_nil) (by decide +kernel) (by decide +kernel)
/-- Town.quarrelsTold (8 steps) -/
noncomputable def ct_15 : ab_Ct := (16, [(1, 0, [6, 19])], [], [], [], [([(3, 0, [])], [((-2147483648), 2147483647, 0, (0, 0, []), (0, 0, []))], [])])
set_option maxRecDepth 1000000 in
theorem ck_15 : ab_CT cm_ms hp hN 3 ct_15 := ab_chk_ok (us := [ct_10]) (inl := inl0) (hin := inl0_ok) (d := 2) (dd := 0) (n := 20000) (tms := []) cm_ms_ok cm_ms_rc hNP (List.forall_mem_cons.mpr ⟨ab_CT_up ck_10 (by decide), fun _ h => absurd h List.not_mem_nil⟩) (by decide +kernel) (by decide +kernel)
/-- Town.quarrelsAcross (32 steps) -/
noncomputable def ct_16 : ab_Ct := (17, [(1, 0, [6, 19]), (3, 0, [])], [((-2147483648), 2147483647, 0, (0, 0, []), (0, 0, []))], [], [], [([(3, 1, [])], [((-2147483648), 2147483647, 0, (0, 0, []), (0, 0, [])), ((-2147483648), 2147483647, 0, (0, 0, []), (0, 0, []))], [])])
set_option maxRecDepth 1000000 in
theorem ck_16 : ab_CT cm_ms hp hN 2 ct_16 := ab_chk_ok (us := [ct_0]) (inl := inl0) (hin := inl0_ok) (d := 1) (dd := 0) (n := 20000) (tms := [((4, [(0, (1, 0, [6, 19])), (1, (3, 0, [])), (2, (3, 1, [])), (3, (3, 2, []))], [], [((-2147483648), 2147483647, 0, (0, 0, []), (0, 0, [])), ((-2147483648), 2147483647, 0, (0, 0, []), (0, 0, [])), (0, 6, 0, (0, 0, []), (0, 0, []))], []), [(0, 1, (0, 0, [])), ((-1), 2147483648, (3, 2, []))])]) cm_ms_ok cm_ms_rc hNP (List.forall_mem_cons.mpr ⟨ab_CT_up ck_0 (by decide), fun _ h => absurd h List.not_mem_nil⟩) (by decide +kernel) (by decide +kernel)
/-- Town.bestSide (29 steps) -/
noncomputable def ct_17 : ab_Ct := (18, [(1, 0, [6, 19])], [], [], [], [([(3, 0, [])], [(0, 63, 0, (0, 0, []), (0, 0, []))], [])])
set_option maxRecDepth 1000000 in
theorem ck_17 : ab_CT cm_ms hp hN 3 ct_17 := ab_chk_ok (us := [ct_16]) (inl := inl0) (hin := inl0_ok) (d := 2) (dd := 0) (n := 20000) (tms := [((6, [(0, (1, 0, [6, 19])), (1, (3, 0, [])), (2, (3, 1, [])), (3, (3, 2, []))], [], [(0, 63, 0, (0, 0, []), (0, 0, [])), (0, 2147483647, 0, (0, 0, []), (0, 0, [])), (0, 65, 0, (0, 0, []), (0, 0, []))], []), [(0, 1, (0, 0, [])), ((-1), 2147483648, (3, 2, []))])]) cm_ms_ok cm_ms_rc hNP (List.forall_mem_cons.mpr ⟨ab_CT_up ck_16 (by decide), fun _ h => absurd h List.not_mem_nil⟩) (by decide +kernel) (by decide +kernel)
/-- Town.isQuietWithout (29 steps) -/
noncomputable def ct_18 : ab_Ct := (20, [(1, 0, [6, 19]), (3, 0, [])], [((-2147483648), 2147483647, 0, (0, 0, []), (0, 0, []))], [], [], [([(3, 1, [])], [((-2147483648), 2147483647, 0, (0, 0, []), (0, 0, [])), (0, 1, 0, (0, 0, []), (0, 0, []))], [])])
set_option maxRecDepth 1000000 in
theorem ck_18 : ab_CT cm_ms hp hN 1 ct_18 := ab_chk_ok (us := []) (inl := inl0) (hin := inl0_ok) (d := 0) (dd := 0) (n := 20000) (tms := [((2, [(0, (1, 0, [6, 19])), (1, (3, 0, [])), (2, (3, 1, []))], [], [((-2147483648), 2147483647, 0, (0, 0, []), (0, 0, [])), (0, 6, 0, (0, 0, []), (0, 0, []))], []), [(0, 1, (0, 0, [])), ((-1), 2147483648, (3, 1, []))])]) cm_ms_ok cm_ms_rc hNP (fun _ h => absurd h List.not_mem_nil) (by decide +kernel) (by decide +kernel)
/-- Town.fewestQuarrellers (33 steps) -/
noncomputable def ct_19 : ab_Ct := (19, [(1, 0, [6, 19])], [], [], [], [([(3, 0, [])], [(0, 63, 0, (0, 0, []), (0, 0, []))], [])])
set_option maxRecDepth 1000000 in
theorem ck_19 : ab_CT cm_ms hp hN 2 ct_19 := ab_chk_ok (us := [ct_0, ct_18]) (inl := inl0) (hin := inl0_ok) (d := 1) (dd := 0) (n := 20000) (tms := [((7, [(0, (1, 0, [6, 19])), (1, (3, 0, [])), (2, (3, 1, [])), (3, (3, 2, []))], [], [(0, 63, 0, (0, 0, []), (0, 0, [])), (0, 63, 0, (0, 0, []), (0, 0, [])), (0, 64, 0, (0, 0, []), (0, 0, []))], []), [(0, 1, (0, 0, [])), ((-1), 2147483648, (3, 2, []))])]) cm_ms_ok cm_ms_rc hNP (List.forall_mem_cons.mpr ⟨ab_CT_up ck_0 (by decide), List.forall_mem_cons.mpr ⟨ab_CT_up ck_18 (by decide), fun _ h => absurd h List.not_mem_nil⟩⟩) (by decide +kernel) (by decide +kernel)
/-- Town.wayBetween (37 steps) -/
noncomputable def ct_20 : ab_Ct := (21, [(1, 0, [6, 19]), (3, 0, []), (3, 1, [])], [((-2147483648), 2147483647, 0, (0, 0, []), (0, 0, [])), ((-2147483648), 2147483647, 0, (0, 0, []), (0, 0, []))], [], [], [([(3, 2, [])], [((-2147483648), 2147483647, 0, (0, 0, []), (0, 0, [])), ((-2147483648), 2147483647, 0, (0, 0, []), (0, 0, [])), ((-2147483648), 2147483647, 0, (0, 0, []), (0, 0, []))], [])])
set_option maxRecDepth 1000000 in
theorem ck_20 : ab_CT cm_ms hp hN 1 ct_20 := ab_chk_ok (us := []) (inl := inl0) (hin := inl0_ok) (d := 0) (dd := 0) (n := 20000) (tms := []) cm_ms_ok cm_ms_rc hNP (fun _ h => absurd h List.not_mem_nil) (by decide +kernel) (by decide +kernel)
/-- Minutes.begin@scr (27 steps) -/
noncomputable def ct_21 : ab_Ct := (22, [(1, 0, [35, 100, 103, 106, 109, 112, 120]), (1, 0, [6, 19])], [], [], [(35, [2, 3]), (36, []), (37, []), (100, [2, 3]), (101, []), (102, []), (103, [2, 3]), (104, []), (105, []), (106, [2, 3]), (107, []), (108, []), (109, [2, 3]), (110, []), (111, []), (112, [2, 3]), (113, []), (114, []), (120, [2, 3]), (121, []), (122, [])], [([], [], [])])
set_option maxRecDepth 1000000 in
theorem ck_21 : ab_CT cm_ms hp hN 1 ct_21 := ab_chk_ok (us := []) (inl := inl0) (hin := inl0_ok) (d := 0) (dd := 0) (n := 20000) (tms := [((17, [(0, (1, 0, [35, 100, 103, 106, 109, 112, 120])), (2, (3, 0, []))], [], [(0, 3, 0, (0, 0, []), (0, 0, []))], []), [(0, 1, (0, 0, [])), ((-1), 2147483648, (3, 0, []))])]) cm_ms_ok cm_ms_rc hNP (fun _ h => absurd h List.not_mem_nil) (by decide +kernel) (by decide +kernel)
/-- Minutes.begin (27 steps) -/
noncomputable def ct_22 : ab_Ct := (22, [(1, 0, mins), (1, 0, [6, 19])], [], [], [(32, [2, 3]), (33, []), (34, []), (35, [2, 3]), (36, []), (37, []), (41, [2, 3]), (42, []), (43, []), (44, [2, 3]), (45, []), (46, []), (47, [2, 3]), (48, []), (49, []), (50, [2, 3]), (51, []), (52, []), (53, [2, 3]), (54, []), (55, []), (56, [2, 3]), (57, []), (58, []), (59, [2, 3]), (60, []), (61, []), (62, [2, 3]), (63, []), (64, []), (65, [2, 3]), (66, []), (67, []), (68, [2, 3]), (69, []), (70, []), (71, [2, 3]), (72, []), (73, []), (74, [2, 3]), (75, []), (76, []), (77, [2, 3]), (78, []), (79, []), (80, [2, 3]), (81, []), (82, []), (83, [2, 3]), (84, []), (85, []), (86, [2, 3]), (87, []), (88, []), (89, [2, 3]), (90, []), (91, []), (92, [2, 3]), (93, []), (94, []), (95, [2, 3]), (96, []), (97, []), (100, [2, 3]), (101, []), (102, []), (103, [2, 3]), (104, []), (105, []), (106, [2, 3]), (107, []), (108, []), (109, [2, 3]), (110, []), (111, []), (112, [2, 3]), (113, []), (114, []), (120, [2, 3]), (121, []), (122, [])], [([], [], [])])
set_option maxRecDepth 1000000 in
theorem ck_22 : ab_CT cm_ms hp hN 1 ct_22 := ab_chk_ok (us := []) (inl := inl0) (hin := inl0_ok) (d := 0) (dd := 0) (n := 20000) (tms := [((17, [(0, (1, 0, mins)), (2, (3, 0, []))], [], [(0, 3, 0, (0, 0, []), (0, 0, []))], []), [(0, 1, (0, 0, [])), ((-1), 2147483648, (3, 0, []))])]) cm_ms_ok cm_ms_rc hNP (fun _ h => absurd h List.not_mem_nil) (by decide +kernel) (by decide +kernel)
/-- Minutes.copy@scr (25 steps) -/
noncomputable def ct_23 : ab_Ct := (23, [(1, 0, [35, 100, 103, 106, 109, 112, 120]), (1, 0, mins)], [], [], [(35, [2, 3]), (36, []), (37, []), (100, [2, 3]), (101, []), (102, []), (103, [2, 3]), (104, []), (105, []), (106, [2, 3]), (107, []), (108, []), (109, [2, 3]), (110, []), (111, []), (112, [2, 3]), (113, []), (114, []), (120, [2, 3]), (121, []), (122, [])], [([], [], [])])
set_option maxRecDepth 1000000 in
theorem ck_23 : ab_CT cm_ms hp hN 1 ct_23 := ab_chk_ok (us := []) (inl := inl0) (hin := inl0_ok) (d := 0) (dd := 0) (n := 20000) (tms := []) cm_ms_ok cm_ms_rc hNP (fun _ h => absurd h List.not_mem_nil) (by decide +kernel) (by decide +kernel)
/-- Minutes.copy (25 steps) -/
noncomputable def ct_24 : ab_Ct := (23, [(1, 0, mins), (1, 0, mins)], [], [], [(32, [2, 3]), (33, []), (34, []), (35, [2, 3]), (36, []), (37, []), (41, [2, 3]), (42, []), (43, []), (44, [2, 3]), (45, []), (46, []), (47, [2, 3]), (48, []), (49, []), (50, [2, 3]), (51, []), (52, []), (53, [2, 3]), (54, []), (55, []), (56, [2, 3]), (57, []), (58, []), (59, [2, 3]), (60, []), (61, []), (62, [2, 3]), (63, []), (64, []), (65, [2, 3]), (66, []), (67, []), (68, [2, 3]), (69, []), (70, []), (71, [2, 3]), (72, []), (73, []), (74, [2, 3]), (75, []), (76, []), (77, [2, 3]), (78, []), (79, []), (80, [2, 3]), (81, []), (82, []), (83, [2, 3]), (84, []), (85, []), (86, [2, 3]), (87, []), (88, []), (89, [2, 3]), (90, []), (91, []), (92, [2, 3]), (93, []), (94, []), (95, [2, 3]), (96, []), (97, []), (100, [2, 3]), (101, []), (102, []), (103, [2, 3]), (104, []), (105, []), (106, [2, 3]), (107, []), (108, []), (109, [2, 3]), (110, []), (111, []), (112, [2, 3]), (113, []), (114, []), (120, [2, 3]), (121, []), (122, [])], [([], [], [])])
set_option maxRecDepth 1000000 in
theorem ck_24 : ab_CT cm_ms hp hN 1 ct_24 := ab_chk_ok (us := []) (inl := inl0) (hin := inl0_ok) (d := 0) (dd := 0) (n := 20000) (tms := []) cm_ms_ok cm_ms_rc hNP (fun _ h => absurd h List.not_mem_nil) (by decide +kernel) (by decide +kernel)
/-- Minutes.passWeek@scr (28 steps) -/
noncomputable def ct_25 : ab_Ct := (24, [(1, 0, [35, 100, 103, 106, 109, 112, 120]), (1, 0, [6, 19])], [], [], [(35, [3]), (36, []), (100, [3]), (101, []), (103, [3]), (104, []), (106, [3]), (107, []), (109, [3]), (110, []), (112, [3]), (113, []), (120, [3]), (121, [])], [([], [], [])])
set_option maxRecDepth 1000000 in
theorem ck_25 : ab_CT cm_ms hp hN 1 ct_25 := ab_chk_ok (us := []) (inl := inl0) (hin := inl0_ok) (d := 0) (dd := 0) (n := 20000) (tms := [((2, [(0, (1, 0, [35, 100, 103, 106, 109, 112, 120])), (1, (1, 0, [6, 19])), (2, (3, 0, []))], [], [(0, 6, 0, (0, 0, []), (0, 0, []))], []), [(0, 1, (0, 0, [])), ((-1), 2147483648, (3, 0, []))])]) cm_ms_ok cm_ms_rc hNP (fun _ h => absurd h List.not_mem_nil) (by decide +kernel) (by decide +kernel)
/-- Minutes.passWeek (28 steps) -/
noncomputable def ct_26 : ab_Ct := (24, [(1, 0, mins), (1, 0, [6, 19])], [], [], [(32, [3]), (33, []), (35, [3]), (36, []), (41, [3]), (42, []), (44, [3]), (45, []), (47, [3]), (48, []), (50, [3]), (51, []), (53, [3]), (54, []), (56, [3]), (57, []), (59, [3]), (60, []), (62, [3]), (63, []), (65, [3]), (66, []), (68, [3]), (69, []), (71, [3]), (72, []), (74, [3]), (75, []), (77, [3]), (78, []), (80, [3]), (81, []), (83, [3]), (84, []), (86, [3]), (87, []), (89, [3]), (90, []), (92, [3]), (93, []), (95, [3]), (96, []), (100, [3]), (101, []), (103, [3]), (104, []), (106, [3]), (107, []), (109, [3]), (110, []), (112, [3]), (113, []), (120, [3]), (121, [])], [([], [], [])])
set_option maxRecDepth 1000000 in
theorem ck_26 : ab_CT cm_ms hp hN 1 ct_26 := ab_chk_ok (us := []) (inl := inl0) (hin := inl0_ok) (d := 0) (dd := 0) (n := 20000) (tms := [((2, [(0, (1, 0, mins)), (1, (1, 0, [6, 19])), (2, (3, 0, []))], [], [(0, 6, 0, (0, 0, []), (0, 0, []))], []), [(0, 1, (0, 0, [])), ((-1), 2147483648, (3, 0, []))])]) cm_ms_ok cm_ms_rc hNP (fun _ h => absurd h List.not_mem_nil) (by decide +kernel) (by decide +kernel)
/-- Minutes.baldMen (38 steps) -/
noncomputable def ct_27 : ab_Ct := (26, [(1, 0, mins), (1, 0, [6, 19])], [], [], [], [([(3, 0, [])], [((-2147483648), 2147483647, 0, (0, 0, []), (0, 0, []))], [])])
set_option maxRecDepth 1000000 in
theorem ck_27 : ab_CT cm_ms hp hN 2 ct_27 := ab_chk_ok (us := []) (inl := inl0) (hin := inl0_ok) (d := 0) (dd := 1) (n := 20000) (tms := [((4, [(0, (1, 0, mins)), (1, (1, 0, [6, 19])), (2, (3, 0, [])), (3, (3, 1, []))], [], [((-2147483648), 2147483647, 0, (0, 0, []), (0, 0, [])), (0, 6, 0, (0, 0, []), (0, 0, []))], []), [(0, 1, (0, 0, [])), ((-1), 2147483648, (3, 1, []))])]) cm_ms_ok cm_ms_rc hNP (fun _ h => absurd h List.not_mem_nil) (by decide +kernel) (by decide +kernel)
/-- Minutes.hairyMen (13 steps) -/
noncomputable def ct_28 : ab_Ct := (27, [(1, 0, mins), (1, 0, [6, 19])], [], [], [], [([(3, 0, [])], [(0, 63, 0, (0, 0, []), (0, 0, []))], [])])
set_option maxRecDepth 1000000 in
theorem ck_28 : ab_CT cm_ms hp hN 3 ct_28 := ab_chk_ok (us := [ct_27]) (inl := inl0) (hin := inl0_ok) (d := 2) (dd := 0) (n := 20000) (tms := []) cm_ms_ok cm_ms_rc hNP (List.forall_mem_cons.mpr ⟨ab_CT_up ck_27 (by decide), fun _ h => absurd h List.not_mem_nil⟩) (by decide +kernel) (by decide +kernel)
/-- Minutes.saysYes (34 steps) -/
noncomputable def ct_29 : ab_Ct := (28, [(1, 0, mins), (1, 0, [6, 19]), (3, 0, []), (3, 1, [])], [(0, 5, 0, (0, 0, []), (0, 0, [])), (0, 4, 0, (0, 0, []), (0, 0, []))], [], [], [([(3, 2, [])], [(0, 5, 0, (0, 0, []), (0, 0, [])), (0, 4, 0, (0, 0, []), (0, 0, [])), (0, 1, 0, (0, 0, []), (0, 0, []))], [])])
set_option maxRecDepth 1000000 in
theorem ck_29 : ab_CT cm_ms hp hN 1 ct_29 := ab_chk_ok (us := []) (inl := inl0) (hin := inl0_ok) (d := 0) (dd := 0) (n := 20000) (tms := []) cm_ms_ok cm_ms_rc hNP (fun _ h => absurd h List.not_mem_nil) (by decide +kernel) (by decide +kernel)
/-- Minutes.motionsLiked (26 steps) -/
noncomputable def ct_30 : ab_Ct := (29, [(1, 0, mins), (1, 0, [6, 19]), (3, 0, [])], [(0, 5, 0, (0, 0, []), (0, 0, []))], [], [], [([(3, 1, [])], [(0, 5, 0, (0, 0, []), (0, 0, [])), ((-2147483648), 2147483647, 0, (0, 0, []), (0, 0, []))], [])])
set_option maxRecDepth 1000000 in
theorem ck_30 : ab_CT cm_ms hp hN 2 ct_30 := ab_chk_ok (us := [ct_29]) (inl := inl0) (hin := inl0_ok) (d := 1) (dd := 0) (n := 20000) (tms := [((5, [(0, (1, 0, mins)), (1, (1, 0, [6, 19])), (2, (3, 0, [])), (3, (3, 1, [])), (4, (3, 2, []))], [], [(0, 5, 0, (0, 0, []), (0, 0, [])), ((-2147483648), 2147483647, 0, (0, 0, []), (0, 0, [])), (0, 5, 0, (0, 0, []), (0, 0, []))], []), [(0, 1, (0, 0, [])), ((-1), 2147483648, (3, 2, []))])]) cm_ms_ok cm_ms_rc hNP (List.forall_mem_cons.mpr ⟨ab_CT_up ck_29 (by decide), fun _ h => absurd h List.not_mem_nil⟩) (by decide +kernel) (by decide +kernel)
/-- Minutes.yesMen (26 steps) -/
noncomputable def ct_31 : ab_Ct := (30, [(1, 0, mins), (1, 0, [6, 19]), (3, 0, [])], [(0, 4, 0, (0, 0, []), (0, 0, []))], [], [], [([(3, 1, [])], [(0, 4, 0, (0, 0, []), (0, 0, [])), ((-2147483648), 2147483647, 0, (0, 0, []), (0, 0, []))], [])])
set_option maxRecDepth 1000000 in
theorem ck_31 : ab_CT cm_ms hp hN 2 ct_31 := ab_chk_ok (us := [ct_29]) (inl := inl0) (hin := inl0_ok) (d := 1) (dd := 0) (n := 20000) (tms := [((5, [(0, (1, 0, mins)), (1, (1, 0, [6, 19])), (2, (3, 0, [])), (3, (3, 1, [])), (4, (3, 2, []))], [], [(0, 4, 0, (0, 0, []), (0, 0, [])), ((-2147483648), 2147483647, 0, (0, 0, []), (0, 0, [])), (0, 6, 0, (0, 0, []), (0, 0, []))], []), [(0, 1, (0, 0, [])), ((-1), 2147483648, (3, 2, []))])]) cm_ms_ok cm_ms_rc hNP (List.forall_mem_cons.mpr ⟨ab_CT_up ck_29 (by decide), fun _ h => absurd h List.not_mem_nil⟩) (by decide +kernel) (by decide +kernel)
/-- Minutes.yesVotes (7 steps) -/
noncomputable def ct_32 : ab_Ct := (31, [(1, 0, mins), (1, 0, [6, 19]), (3, 0, [])], [(0, 4, 0, (0, 0, []), (0, 0, []))], [], [], [([(3, 1, [])], [(0, 4, 0, (0, 0, []), (0, 0, [])), ((-2147483648), 2147483647, 0, (0, 0, []), (0, 0, []))], [])])
set_option maxRecDepth 1000000 in
theorem ck_32 : ab_CT cm_ms hp hN 3 ct_32 := ab_chk_ok (us := [ct_12, ct_31]) (inl := inl0) (hin := inl0_ok) (d := 2) (dd := 0) (n := 20000) (tms := []) cm_ms_ok cm_ms_rc hNP (List.forall_mem_cons.mpr ⟨ab_CT_up ck_12 (by decide), List.forall_mem_cons.mpr ⟨ab_CT_up ck_31 (by decide), fun _ h => absurd h List.not_mem_nil⟩⟩) (by decide +kernel) (by decide +kernel)
/-- Minutes.hasEnough (14 steps) -/
noncomputable def ct_33 : ab_Ct := (32, [(1, 0, mins), (1, 0, [6, 19]), (3, 0, [])], [(0, 4, 0, (0, 0, []), (0, 0, []))], [], [], [([(3, 1, [])], [(0, 4, 0, (0, 0, []), (0, 0, [])), (0, 1, 0, (0, 0, []), (0, 0, []))], [])])
set_option maxRecDepth 1000000 in
theorem ck_33 : ab_CT cm_ms hp hN 4 ct_33 := ab_chk_ok (us := [ct_32]) (inl := inl0) (hin := inl0_ok) (d := 3) (dd := 0) (n := 20000) (tms := []) cm_ms_ok cm_ms_rc hNP (List.forall_mem_cons.mpr ⟨ab_CT_up ck_32 (by decide), fun _ h => absurd h List.not_mem_nil⟩) (by decide +kernel) (by decide +kernel)
/-- Minutes.mayBePut (34 steps) -/
noncomputable def ct_34 : ab_Ct := (34, [(1, 0, mins), (1, 0, [6, 19]), (3, 0, [])], [(0, 4, 0, (0, 0, []), (0, 0, []))], [], [], [([(3, 1, [])], [(0, 4, 0, (0, 0, []), (0, 0, [])), (0, 1, 0, (0, 0, []), (0, 0, []))], [])])
set_option maxRecDepth 1000000 in
theorem ck_34 : ab_CT cm_ms hp hN 2 ct_34 := ab_chk_ok (us := []) (inl := inl0) (hin := inl0_ok) (d := 0) (dd := 1) (n := 20000) (tms := []) cm_ms_ok cm_ms_rc hNP (fun _ h => absurd h List.not_mem_nil) (by decide +kernel) (by decide +kernel)
/-- Minutes.cutOff@scr (29 steps) -/
noncomputable def ct_35 : ab_Ct := (36, [(1, 0, [35, 100, 103, 106, 109, 112, 120]), (1, 0, [6, 19]), (3, 0, []), (3, 1, [])], [(0, 5, 0, (0, 0, []), (0, 0, [])), ((-2147483648), 2147483647, 0, (0, 0, []), (0, 0, []))], [], [(36, []), (37, []), (101, []), (102, []), (104, []), (105, []), (107, []), (108, []), (110, []), (111, []), (113, []), (114, []), (121, []), (122, [])], [([], [(0, 5, 0, (0, 0, []), (0, 0, [])), ((-2147483648), 2147483647, 0, (0, 0, []), (0, 0, []))], [])])
set_option maxRecDepth 1000000 in
theorem ck_35 : ab_CT cm_ms hp hN 1 ct_35 := ab_chk_ok (us := []) (inl := inl0) (hin := inl0_ok) (d := 0) (dd := 0) (n := 20000) (tms := []) cm_ms_ok cm_ms_rc hNP (fun _ h => absurd h List.not_mem_nil) (by decide +kernel) (by decide +kernel)
/-- Minutes.cutOff (29 steps) -/
noncomputable def ct_36 : ab_Ct := (36, [(1, 0, mins), (1, 0, [6, 19]), (3, 0, []), (3, 1, [])], [(0, 5, 0, (0, 0, []), (0, 0, [])), ((-2147483648), 2147483647, 0, (0, 0, []), (0, 0, []))], [], [(33, []), (34, []), (36, []), (37, []), (42, []), (43, []), (45, []), (46, []), (48, []), (49, []), (51, []), (52, []), (54, []), (55, []), (57, []), (58, []), (60, []), (61, []), (63, []), (64, []), (66, []), (67, []), (69, []), (70, []), (72, []), (73, []), (75, []), (76, []), (78, []), (79, []), (81, []), (82, []), (84, []), (85, []), (87, []), (88, []), (90, []), (91, []), (93, []), (94, []), (96, []), (97, []), (101, []), (102, []), (104, []), (105, []), (107, []), (108, []), (110, []), (111, []), (113, []), (114, []), (121, []), (122, [])], [([], [(0, 5, 0, (0, 0, []), (0, 0, [])), ((-2147483648), 2147483647, 0, (0, 0, []), (0, 0, []))], [])])
set_option maxRecDepth 1000000 in
theorem ck_36 : ab_CT cm_ms hp hN 1 ct_36 := ab_chk_ok (us := []) (inl := inl0) (hin := inl0_ok) (d := 0) (dd := 0) (n := 20000) (tms := []) cm_ms_ok cm_ms_rc hNP (fun _ h => absurd h List.not_mem_nil) (by decide +kernel) (by decide +kernel)
/-- Minutes.cutFor@scr (58 steps) -/
noncomputable def ct_37 : ab_Ct := (35, [(1, 0, [35, 100, 103, 106, 109, 112, 120]), (1, 0, [6, 19]), (3, 0, [])], [(0, 4, 0, (0, 0, []), (0, 0, []))], [], [(35, [2]), (36, []), (37, []), (100, [2]), (101, []), (102, []), (103, [2]), (104, []), (105, []), (106, [2]), (107, []), (108, []), (109, [2]), (110, []), (111, []), (112, [2]), (113, []), (114, []), (120, [2]), (121, []), (122, [])], [([(3, 1, [])], [(0, 4, 0, (0, 0, []), (0, 0, [])), (0, 1, 0, (0, 0, []), (0, 0, []))], [])])
set_option maxRecDepth 1000000 in
theorem ck_37 : ab_CT cm_ms hp hN 3 ct_37 := ab_chk_ok (us := [ct_12, ct_31, ct_35]) (inl := inl0) (hin := inl0_ok) (d := 2) (dd := 0) (n := 20000) (tms := [((31, [(0, (1, 0, [35, 100, 103, 106, 109, 112, 120])), (1, (1, 0, [6, 19])), (2, (3, 0, [])), (3, (3, 1, [])), (4, (3, 2, [])), (5, (3, 3, []))], [], [(0, 4, 0, (0, 0, []), (0, 0, [])), ((-2147483648), 2147483647, 0, (0, 0, []), (0, 0, [])), (0, 1, 0, (0, 0, []), (0, 0, [])), (0, 6, 0, (0, 0, []), (0, 0, []))], []), [(0, 1, (0, 0, [])), ((-1), 2147483648, (3, 3, []))])]) cm_ms_ok cm_ms_rc hNP (List.forall_mem_cons.mpr ⟨ab_CT_up ck_12 (by decide), List.forall_mem_cons.mpr ⟨ab_CT_up ck_31 (by decide), List.forall_mem_cons.mpr ⟨ab_CT_up ck_35 (by decide), fun _ h => absurd h List.not_mem_nil⟩⟩⟩) (by decide +kernel) (by decide +kernel)
/-- Minutes.cutFor (58 steps) -/
noncomputable def ct_38 : ab_Ct := (35, [(1, 0, mins), (1, 0, [6, 19]), (3, 0, [])], [(0, 4, 0, (0, 0, []), (0, 0, []))], [], [(32, [2]), (33, []), (34, []), (35, [2]), (36, []), (37, []), (41, [2]), (42, []), (43, []), (44, [2]), (45, []), (46, []), (47, [2]), (48, []), (49, []), (50, [2]), (51, []), (52, []), (53, [2]), (54, []), (55, []), (56, [2]), (57, []), (58, []), (59, [2]), (60, []), (61, []), (62, [2]), (63, []), (64, []), (65, [2]), (66, []), (67, []), (68, [2]), (69, []), (70, []), (71, [2]), (72, []), (73, []), (74, [2]), (75, []), (76, []), (77, [2]), (78, []), (79, []), (80, [2]), (81, []), (82, []), (83, [2]), (84, []), (85, []), (86, [2]), (87, []), (88, []), (89, [2]), (90, []), (91, []), (92, [2]), (93, []), (94, []), (95, [2]), (96, []), (97, []), (100, [2]), (101, []), (102, []), (103, [2]), (104, []), (105, []), (106, [2]), (107, []), (108, []), (109, [2]), (110, []), (111, []), (112, [2]), (113, []), (114, []), (120, [2]), (121, []), (122, [])], [([(3, 1, [])], [(0, 4, 0, (0, 0, []), (0, 0, [])), (0, 1, 0, (0, 0, []), (0, 0, []))], [])])
set_option maxRecDepth 1000000 in
theorem ck_38 : ab_CT cm_ms hp hN 3 ct_38 := ab_chk_ok (us := [ct_12, ct_31, ct_36]) (inl := inl0) (hin := inl0_ok) (d := 2) (dd := 0) (n := 20000) (tms := [((31, [(0, (1, 0, mins)), (1, (1, 0, [6, 19])), (2, (3, 0, [])), (3, (3, 1, [])), (4, (3, 2, [])), (5, (3, 3, []))], [], [(0, 4, 0, (0, 0, []), (0, 0, [])), ((-2147483648), 2147483647, 0, (0, 0, []), (0, 0, [])), (0, 1, 0, (0, 0, []), (0, 0, [])), (0, 6, 0, (0, 0, []), (0, 0, []))], []), [(0, 1, (0, 0, [])), ((-1), 2147483648, (3, 3, []))])]) cm_ms_ok cm_ms_rc hNP (List.forall_mem_cons.mpr ⟨ab_CT_up ck_12 (by decide), List.forall_mem_cons.mpr ⟨ab_CT_up ck_31 (by decide), List.forall_mem_cons.mpr ⟨ab_CT_up ck_36 (by decide), fun _ h => absurd h List.not_mem_nil⟩⟩⟩) (by decide +kernel) (by decide +kernel)
/-- Minutes.turns (72 steps) -/
noncomputable def ct_39 : ab_Ct := (37, [(1, 0, mins), (1, 0, [6, 19]), (3, 0, []), (3, 1, [])], [(0, 5, 0, (0, 0, []), (0, 0, [])), ((-2147483648), 2147483647, 0, (0, 0, []), (0, 0, []))], [], [], [([(3, 2, [])], [(0, 5, 0, (0, 0, []), (0, 0, [])), ((-2147483648), 2147483647, 0, (0, 0, []), (0, 0, [])), ((-2147483648), 2147483647, 0, (0, 0, []), (0, 0, []))], [])])
set_option maxRecDepth 1000000 in
theorem ck_39 : ab_CT cm_ms hp hN 5 ct_39 := ab_chk_ok (us := [ct_12, ct_28]) (inl := inl0) (hin := inl0_ok) (d := 3) (dd := 1) (n := 20000) (tms := [((30, [(1, (1, 0, [6, 19])), (2, (3, 0, [])), (3, (3, 1, [])), (4, (3, 2, [])), (5, (3, 3, [])), (6, (3, 4, []))], [], [(0, 5, 0, (0, 0, []), (0, 0, [])), ((-2147483648), 2147483647, 0, (0, 0, []), (0, 0, [])), (0, 63, 0, (0, 0, []), (0, 0, [])), ((-2147483648), 2147483647, 0, (0, 0, []), (0, 0, [])), (0, 64, 0, (0, 0, []), (0, 0, []))], []), [(0, 1, (0, 0, [])), ((-1), 2147483648, (3, 4, []))])]) cm_ms_ok cm_ms_rc hNP (List.forall_mem_cons.mpr ⟨ab_CT_up ck_12 (by decide), List.forall_mem_cons.mpr ⟨ab_CT_up ck_28 (by decide), fun _ h => absurd h List.not_mem_nil⟩⟩) (by decide +kernel) (by decide +kernel)
/-- Past.keep (24 steps) -/
noncomputable def ct_40 : ab_Ct := (39, [(1, 0, [38]), (1, 0, mins)], [], [], [(32, [2, 3]), (33, []), (34, []), (35, [2, 3]), (36, []), (37, []), (38, [2, 3]), (41, [2, 3]), (42, []), (43, []), (44, [2, 3]), (45, []), (46, []), (47, [2, 3]), (48, []), (49, []), (50, [2, 3]), (51, []), (52, []), (53, [2, 3]), (54, []), (55, []), (56, [2, 3]), (57, []), (58, []), (59, [2, 3]), (60, []), (61, []), (62, [2, 3]), (63, []), (64, []), (65, [2, 3]), (66, []), (67, []), (68, [2, 3]), (69, []), (70, []), (71, [2, 3]), (72, []), (73, []), (74, [2, 3]), (75, []), (76, []), (77, [2, 3]), (78, []), (79, []), (80, [2, 3]), (81, []), (82, []), (83, [2, 3]), (84, []), (85, []), (86, [2, 3]), (87, []), (88, []), (89, [2, 3]), (90, []), (91, []), (92, [2, 3]), (93, []), (94, []), (95, [2, 3]), (96, []), (97, []), (100, [2, 3]), (101, []), (102, []), (103, [2, 3]), (104, []), (105, []), (106, [2, 3]), (107, []), (108, []), (109, [2, 3]), (110, []), (111, []), (112, [2, 3]), (113, []), (114, []), (120, [2, 3]), (121, []), (122, [])], [([], [], [])])
set_option maxRecDepth 1000000 in
theorem ck_40 : ab_CT cm_ms hp hN 2 ct_40 := ab_chk_ok (us := [ct_24]) (inl := inl0) (hin := inl0_ok) (d := 1) (dd := 0) (n := 20000) (tms := []) cm_ms_ok cm_ms_rc hNP (List.forall_mem_cons.mpr ⟨ab_CT_up ck_24 (by decide), fun _ h => absurd h List.not_mem_nil⟩) (by decide +kernel) (by decide +kernel)
/-- Past.takeBack (30 steps) -/
noncomputable def ct_41 : ab_Ct := (40, [(1, 0, [38]), (1, 0, mins)], [], [], [(32, [2, 3]), (33, []), (34, []), (35, [2, 3]), (36, []), (37, []), (38, [2, 3]), (41, [2, 3]), (42, []), (43, []), (44, [2, 3]), (45, []), (46, []), (47, [2, 3]), (48, []), (49, []), (50, [2, 3]), (51, []), (52, []), (53, [2, 3]), (54, []), (55, []), (56, [2, 3]), (57, []), (58, []), (59, [2, 3]), (60, []), (61, []), (62, [2, 3]), (63, []), (64, []), (65, [2, 3]), (66, []), (67, []), (68, [2, 3]), (69, []), (70, []), (71, [2, 3]), (72, []), (73, []), (74, [2, 3]), (75, []), (76, []), (77, [2, 3]), (78, []), (79, []), (80, [2, 3]), (81, []), (82, []), (83, [2, 3]), (84, []), (85, []), (86, [2, 3]), (87, []), (88, []), (89, [2, 3]), (90, []), (91, []), (92, [2, 3]), (93, []), (94, []), (95, [2, 3]), (96, []), (97, []), (100, [2, 3]), (101, []), (102, []), (103, [2, 3]), (104, []), (105, []), (106, [2, 3]), (107, []), (108, []), (109, [2, 3]), (110, []), (111, []), (112, [2, 3]), (113, []), (114, []), (120, [2, 3]), (121, []), (122, [])], [([(3, 0, [])], [(0, 1, 0, (0, 0, []), (0, 0, []))], [])])
set_option maxRecDepth 1000000 in
theorem ck_41 : ab_CT cm_ms hp hN 2 ct_41 := ab_chk_ok (us := [ct_24]) (inl := inl0) (hin := inl0_ok) (d := 1) (dd := 0) (n := 20000) (tms := []) cm_ms_ok cm_ms_rc hNP (List.forall_mem_cons.mpr ⟨ab_CT_up ck_24 (by decide), fun _ h => absurd h List.not_mem_nil⟩) (by decide +kernel) (by decide +kernel)
/-- Past.draw (24 steps) -/
noncomputable def ct_42 : ab_Ct := (41, [(1, 0, [38]), (1, 0, mins)], [], [], [(32, [2, 3]), (33, []), (34, []), (35, [2, 3]), (36, []), (37, []), (38, [4]), (41, [2, 3]), (42, []), (43, []), (44, [2, 3]), (45, []), (46, []), (47, [2, 3]), (48, []), (49, []), (50, [2, 3]), (51, []), (52, []), (53, [2, 3]), (54, []), (55, []), (56, [2, 3]), (57, []), (58, []), (59, [2, 3]), (60, []), (61, []), (62, [2, 3]), (63, []), (64, []), (65, [2, 3]), (66, []), (67, []), (68, [2, 3]), (69, []), (70, []), (71, [2, 3]), (72, []), (73, []), (74, [2, 3]), (75, []), (76, []), (77, [2, 3]), (78, []), (79, []), (80, [2, 3]), (81, []), (82, []), (83, [2, 3]), (84, []), (85, []), (86, [2, 3]), (87, []), (88, []), (89, [2, 3]), (90, []), (91, []), (92, [2, 3]), (93, []), (94, []), (95, [2, 3]), (96, []), (97, []), (100, [2, 3]), (101, []), (102, []), (103, [2, 3]), (104, []), (105, []), (106, [2, 3]), (107, []), (108, []), (109, [2, 3]), (110, []), (111, []), (112, [2, 3]), (113, []), (114, []), (120, [2, 3]), (121, []), (122, [])], [([(3, 0, [])], [((-1), 2, 0, (0, 0, []), (0, 0, []))], [])])
set_option maxRecDepth 1000000 in
theorem ck_42 : ab_CT cm_ms hp hN 2 ct_42 := ab_chk_ok (us := [ct_24]) (inl := inl0) (hin := inl0_ok) (d := 1) (dd := 0) (n := 20000) (tms := []) cm_ms_ok cm_ms_rc hNP (List.forall_mem_cons.mpr ⟨ab_CT_up ck_24 (by decide), fun _ h => absurd h List.not_mem_nil⟩) (by decide +kernel) (by decide +kernel)
/-- Past.restore (21 steps) -/
noncomputable def ct_43 : ab_Ct := (42, [(1, 0, [38]), (3, 0, []), (1, 0, mins)], [((-2147483648), 2147483647, 0, (0, 0, []), (0, 0, []))], [], [(32, [2, 3]), (33, []), (34, []), (35, [2, 3]), (36, []), (37, []), (38, [3]), (41, [2, 3]), (42, []), (43, []), (44, [2, 3]), (45, []), (46, []), (47, [2, 3]), (48, []), (49, []), (50, [2, 3]), (51, []), (52, []), (53, [2, 3]), (54, []), (55, []), (56, [2, 3]), (57, []), (58, []), (59, [2, 3]), (60, []), (61, []), (62, [2, 3]), (63, []), (64, []), (65, [2, 3]), (66, []), (67, []), (68, [2, 3]), (69, []), (70, []), (71, [2, 3]), (72, []), (73, []), (74, [2, 3]), (75, []), (76, []), (77, [2, 3]), (78, []), (79, []), (80, [2, 3]), (81, []), (82, []), (83, [2, 3]), (84, []), (85, []), (86, [2, 3]), (87, []), (88, []), (89, [2, 3]), (90, []), (91, []), (92, [2, 3]), (93, []), (94, []), (95, [2, 3]), (96, []), (97, []), (100, [2, 3]), (101, []), (102, []), (103, [2, 3]), (104, []), (105, []), (106, [2, 3]), (107, []), (108, []), (109, [2, 3]), (110, []), (111, []), (112, [2, 3]), (113, []), (114, []), (120, [2, 3]), (121, []), (122, [])], [([(3, 1, [])], [((-2147483648), 2147483647, 0, (0, 0, []), (0, 0, [])), (0, 1, 0, (0, 0, []), (0, 0, []))], [])])
set_option maxRecDepth 1000000 in
theorem ck_43 : ab_CT cm_ms hp hN 2 ct_43 := ab_chk_ok (us := [ct_24]) (inl := inl0) (hin := inl0_ok) (d := 1) (dd := 0) (n := 20000) (tms := []) cm_ms_ok cm_ms_rc hNP (List.forall_mem_cons.mpr ⟨ab_CT_up ck_24 (by decide), fun _ h => absurd h List.not_mem_nil⟩) (by decide +kernel) (by decide +kernel)
/-- Agenda.isRow (42 steps) -/
noncomputable def ct_44 : ab_Ct := (43, [(1, 0, [6, 19]), (3, 0, []), (3, 1, [])], [((-2147483648), 2147483647, 0, (0, 0, []), (0, 0, [])), ((-2147483648), 2147483647, 0, (0, 0, []), (0, 0, []))], [], [], [([(3, 2, [])], [((-2147483648), 2147483647, 0, (0, 0, []), (0, 0, [])), ((-2147483648), 2147483647, 0, (0, 0, []), (0, 0, [])), (0, 1, 0, (0, 0, []), (0, 0, []))], [])])
set_option maxRecDepth 1000000 in
theorem ck_44 : ab_CT cm_ms hp hN 1 ct_44 := ab_chk_ok (us := []) (inl := inl0) (hin := inl0_ok) (d := 0) (dd := 0) (n := 20000) (tms := [((29, [(0, (1, 0, [6, 19])), (1, (3, 0, [])), (2, (3, 1, [])), (3, (3, 2, []))], [], [(0, 9999, 0, (0, 0, []), (0, 0, [])), (0, 4, 0, (0, 0, []), (0, 0, [])), (0, 4, 0, (0, 0, []), (0, 0, []))], []), [(0, 1, (0, 0, [])), ((-1), 2147483648, (3, 2, []))])]) cm_ms_ok cm_ms_rc hNP (fun _ h => absurd h List.not_mem_nil) (by decide +kernel) (by decide +kernel)
/-- Agenda.takeStep (64 steps) -/
noncomputable def ct_45 : ab_Ct := (47, [(1, 0, [98]), (1, 0, [6, 19]), (3, 0, []), (3, 1, [])], [((-2147483648), 2147483647, 0, (0, 0, []), (0, 0, [])), ((-2147483648), 2147483647, 0, (0, 0, []), (0, 0, []))], [], [(35, [2, 3]), (36, []), (37, []), (100, [2, 3]), (101, []), (102, []), (103, [2, 3]), (104, []), (105, []), (106, [2, 3]), (107, []), (108, []), (109, [2, 3]), (110, []), (111, []), (112, [2, 3]), (113, []), (114, []), (120, [2, 3]), (121, []), (122, [])], [([(3, 2, [])], [((-2147483648), 2147483647, 0, (0, 0, []), (0, 0, [])), ((-2147483648), 2147483647, 0, (0, 0, []), (0, 0, [])), ((-2147483648), 2147483647, 0, (0, 0, []), (0, 0, []))], [])])
set_option maxRecDepth 1000000 in
theorem ck_45 : ab_CT cm_ms hp hN 4 ct_45 := ab_chk_ok (us := [ct_23, ct_25, ct_34, ct_37]) (inl := inl0) (hin := inl0_ok) (d := 3) (dd := 0) (n := 20000) (tms := [((47, [(0, (1, 0, [98])), (1, (1, 0, [6, 19])), (2, (3, 0, [])), (4, (3, 2, []))], [], [(0, 3, 0, (0, 0, []), (0, 0, [])), ((-2147483648), 2147483647, 0, (0, 0, []), (0, 0, [])), ((-2147483648), 4, 0, (0, 0, []), (0, 0, []))], []), [(0, 1, (0, 0, [])), (0, 0, (0, 0, []))])]) cm_ms_ok cm_ms_rc hNP (List.forall_mem_cons.mpr ⟨ab_CT_up ck_23 (by decide), List.forall_mem_cons.mpr ⟨ab_CT_up ck_25 (by decide), List.forall_mem_cons.mpr ⟨ab_CT_up ck_34 (by decide), List.forall_mem_cons.mpr ⟨ab_CT_up ck_37 (by decide), fun _ h => absurd h List.not_mem_nil⟩⟩⟩⟩) (by decide +kernel) (by decide +kernel)
