/-! AB: the memory. Of every place: bounds of an int, cells of a reference; cells that only proofs by hand write -/
/-- bounds; references; places that only proofs by hand write; bounds of a place (c, i) where (c', i') is v -/
abbrev ab_H : Type := List (Nat × List (Nat × Int × Int)) × List (Nat × List (Nat × Bool × List Nat)) × List (Nat × Nat) × List (Nat × Nat × Nat × Nat × Int × Int × Int)
def ab_hl (h : ab_H) (c : Nat) : List (Nat × Int × Int) := match ev_at h.1 c with
  | some l => l
  | none => []
def ab_hi (h : ab_H) (c i : Nat) : Int × Int := match ev_at (ab_hl h c) i with
  | some b => b
  | none => ev_ful
def ab_hr (h : ab_H) (c i : Nat) : Option (Bool × List Nat) := match ev_at h.2.1 c with
  | some l => ev_at l i
  | none => none
def ab_rok (q : Option (Bool × List Nat)) (r : Option Nat) : Prop := match q, r with
  | none, _ => True
  | some q, none => q.1 = true
  | some q, some c => c ∈ q.2
def ab_ok (h : ab_H) (N : cm_M → Prop) (M : cm_M) : Prop := (∀ c i, ev_inb (ab_hi h c i) (M.1 c i)) ∧ (∀ c i, ab_rok (ab_hr h c i) (M.2.2 c i)) ∧ N M
/-- what holds of protected cells stays if they aren't written -/
def ab_NP (h : ab_H) (N : cm_M → Prop) : Prop := (∀ M M' : cm_M, (∀ q ∈ h.2.2.1, M'.1 q.1 q.2 = M.1 q.1 q.2 ∧ M'.2.1 q.1 q.2 = M.2.1 q.1 q.2 ∧ M'.2.2 q.1 q.2 = M.2.2 q.1 q.2) → N M → N M') ∧ ∀ M : cm_M, N M → ∀ e ∈ h.2.2.2, M.1 e.2.2.1 e.2.2.2.1 = Int32.ofInt e.2.2.2.2.1 → ev_inb e.2.2.2.2.2 (M.1 e.1 e.2.1)
/-- what may be written: cells with places ([]: all) -/
abbrev ab_Md : Type := List (Nat × List Nat)
def ab_inM (md : ab_Md) (c i : Nat) : Bool := match ev_at md c with
  | some l => l.isEmpty || l.contains i
  | none => false
def ab_allM (md : ab_Md) (c : Nat) : Bool := match ev_at md c with
  | some l => l.isEmpty
  | none => false
theorem ab_allM_in {md : ab_Md} {c : Nat} (h : ab_allM md c = true) (i : Nat) : ab_inM md c i = true := by
  unfold ab_allM at h
  unfold ab_inM
  split at h
  · simp [h]
  · cases h
def ab_fr (md : ab_Md) (M0 M : cm_M) : Prop := ∀ c i, ab_inM md c i = false → M.1 c i = M0.1 c i ∧ M.2.1 c i = M0.2.1 c i ∧ M.2.2 c i = M0.2.2 c i
theorem ab_fr_rf (md : ab_Md) (M : cm_M) : ab_fr md M M := fun c i _ => ⟨rfl, rfl, rfl⟩
def ab_ce (ρ : List Int32) (M : cm_M) (q : Nat × Nat × ab_A) : Prop := if ab_isI q.2.2 = true then ab_i ρ q.2.2 = some (M.1 q.1 q.2.1) else ab_v ρ q.2.2 (cm_rq (M.2.2 q.1 q.2.1))
def ab_ca (ρ : List Int32) (M : cm_M) (Ca : ab_Ca) : Prop := ∀ q ∈ Ca, ab_ce ρ M q
theorem ab_ce_ap {ρ ext : List Int32} {M : cm_M} {q : Nat × Nat × ab_A} (h : ab_ce ρ M q) : ab_ce (ρ ++ ext) M q := by
  unfold ab_ce at h ⊢
  split
  · rename_i hi
    rw [if_pos hi] at h
    exact ab_i_ap h
  · rename_i hi
    rw [if_neg hi] at h
    exact ab_v_ap h
theorem ab_ca_ap {ρ ext : List Int32} {M : cm_M} {Ca : ab_Ca} (h : ab_ca ρ M Ca) : ab_ca (ρ ++ ext) M Ca := fun q hq => ab_ce_ap (h q hq)
/-- an entry at a place that wasn't written -/
theorem ab_ce_ne {ρ : List Int32} {M M' : cm_M} {q : Nat × Nat × ab_A} (h1 : M'.1 q.1 q.2.1 = M.1 q.1 q.2.1) (h2 : M'.2.2 q.1 q.2.1 = M.2.2 q.1 q.2.1) (h : ab_ce ρ M q) : ab_ce ρ M' q := by
  unfold ab_ce at h ⊢
  rw [h1, h2]
  exact h
def ab_m (h : ab_H) (N : cm_M → Prop) (M0 : cm_M) (md : ab_Md) (ρ : List Int32) (Ca : ab_Ca) (M : cm_M) : Prop := ab_ok h N M ∧ ab_fr md M0 M ∧ ab_ca ρ M Ca
/-- which places of an array: one of these, or any -/
abbrev ab_Ix : Type := Option (List Nat)
def ab_ixin (ix : ab_Ix) (i : Nat) : Prop := match ix with
  | some l => i ∈ l
  | none => True
def ab_ixc (ix : ab_Ix) (i : Nat) : Bool := match ix with
  | some l => l.contains i
  | none => true
theorem ab_ixc_ok {ix : ab_Ix} {i : Nat} (h : ab_ixin ix i) : ab_ixc ix i = true := by
  unfold ab_ixin at h
  unfold ab_ixc
  cases ix with
  | none => rfl
  | some l => exact List.contains_iff_mem.mpr h
def ab_mdok (md : ab_Md) (c : Nat) (ix : ab_Ix) : Bool := match ix with
  | some l => l.all (fun i => ab_inM md c i)
  | none => ab_allM md c
theorem ab_mdok_in {md : ab_Md} {c : Nat} {ix : ab_Ix} {i : Nat} (h : ab_mdok md c ix = true) (hi : ab_ixin ix i) : ab_inM md c i = true := by
  unfold ab_mdok at h
  unfold ab_ixin at hi
  cases ix with
  | none => exact ab_allM_in h i
  | some l => exact List.all_eq_true.mp h i hi
def ab_drop (Ca : ab_Ca) (cs : List Nat) (ix : ab_Ix) : ab_Ca := Ca.filter (fun q => !(cs.contains q.1 && ab_ixc ix q.2.1))
theorem ab_drop_in {Ca : ab_Ca} {cs : List Nat} {ix : ab_Ix} {q : Nat × Nat × ab_A} (h : q ∈ ab_drop Ca cs ix) {c i : Nat} (hc : c ∈ cs) (hi : ab_ixin ix i) : q ∈ Ca ∧ ¬ (q.1 = c ∧ q.2.1 = i) := by
  obtain ⟨h1, h2⟩ := List.mem_filter.mp h
  refine ⟨h1, fun e => ?_⟩
  obtain ⟨e1, e2⟩ := e
  rw [e1, e2, List.contains_iff_mem.mpr hc, ab_ixc_ok hi] at h2
  simp at h2
/-- a cache behind a store of a -/
def ab_keep (Ca : ab_Ca) (cs : List Nat) (ix : ab_Ix) (a : ab_A) : ab_Ca := match cs, ix with
  | [c], some [i] => (c, i, a) :: ab_drop Ca cs ix
  | _, _ => ab_drop Ca cs ix
theorem ab_keep_in {Ca : ab_Ca} {cs : List Nat} {ix : ab_Ix} {a : ab_A} {q : Nat × Nat × ab_A} (h : q ∈ ab_keep Ca cs ix a) {c i : Nat} (hc : c ∈ cs) (hi : ab_ixin ix i) : (q = (c, i, a)) ∨ (q ∈ Ca ∧ ¬ (q.1 = c ∧ q.2.1 = i)) := by
  unfold ab_keep at h
  split at h
  · rename_i c' i'
    have e1 : c = c' := List.mem_singleton.mp hc
    have e2 : i = i' := List.mem_singleton.mp hi
    subst e1
    subst e2
    rcases List.mem_cons.mp h with h | h
    · exact Or.inl h
    · exact Or.inr (ab_drop_in h hc hi)
  · exact Or.inr (ab_drop_in h hc hi)
/-- none of these places is protected -/
def ab_pr (h : ab_H) (c : Nat) (ix : ab_Ix) : Bool := h.2.2.1.all (fun q => cond (Nat.beq q.1 c) (!(ab_ixc ix q.2)) true)
theorem ab_pr_ok {h : ab_H} {c : Nat} {ix : ab_Ix} {i : Nat} (hp : ab_pr h c ix = true) (hi : ab_ixin ix i) {q : Nat × Nat} (hq : q ∈ h.2.2.1) : ¬ (q.1 = c ∧ q.2 = i) := by
  intro e
  have h1 := List.all_eq_true.mp hp q hq
  rw [e.1, e.2, ab_ixc_ok hi, Nat.beq_refl] at h1
  exact absurd h1 (by decide)
/-- may an int be stored there -/
def ab_stI (h : ab_H) (md : ab_Md) (b : Int × Int) (cs : List Nat) (ix : ab_Ix) : Bool :=
  cs.all (fun c => ab_pr h c ix && (ab_mdok md c ix && (ab_hl h c).all (fun e => !(ab_ixc ix e.1) || (decide (e.2.1 ≤ b.1) && decide (b.2 ≤ e.2.2)))))
theorem ab_hi_in {h : ab_H} {b : Int × Int} {c : Nat} {ix : ab_Ix} {i : Nat} {x : Int32} (ha : (ab_hl h c).all (fun e => !(ab_ixc ix e.1) || (decide (e.2.1 ≤ b.1) && decide (b.2 ≤ e.2.2))) = true) (hi : ab_ixin ix i) (hx : ev_inb b x) : ev_inb (ab_hi h c i) x := by
  unfold ab_hi
  split
  · rename_i e he
    have := List.all_eq_true.mp ha _ (ev_at_mem he)
    simp only [ab_ixc_ok hi, Bool.not_true, Bool.false_or, Bool.and_eq_true, decide_eq_true_eq] at this
    exact ⟨Int.le_trans this.1 hx.1, Int.le_trans hx.2 this.2⟩
  · exact ev_ful_in x
section ABM
variable {h : ab_H} {N : cm_M → Prop} {M0 : cm_M} {md : ab_Md} {ρ : List Int32} {Ca : ab_Ca} {M : cm_M}
theorem ab_m_ap {ext : List Int32} (hm : ab_m h N M0 md ρ Ca M) : ab_m h N M0 md (ρ ++ ext) Ca M := ⟨hm.1, hm.2.1, ab_ca_ap hm.2.2⟩
theorem ab_stI_ok (hN : ab_NP h N) (hm : ab_m h N M0 md ρ Ca M) {b : Int × Int} {cs : List Nat} {ix : ab_Ix} {a : ab_A} {x : Int32} {c i : Nat} (hs : ab_stI h md b cs ix = true) (hc : c ∈ cs) (hi : ab_ixin ix i) (ha : ab_i ρ a = some x) (hb : ev_inb b x) : ab_m h N M0 md ρ (ab_keep Ca cs ix a) (cm_wi M c i x) := by
  have h1 := List.all_eq_true.mp hs c hc
  simp only [Bool.and_eq_true] at h1
  obtain ⟨p1, p2, p3⟩ := h1
  obtain ⟨⟨o1, o2, o3⟩, fr, ca⟩ := hm
  refine ⟨⟨fun c' i' => ?_, o2, hN.1 M _ (fun q hq => ⟨?_, rfl, rfl⟩) o3⟩, fun c' i' hm' => ?_, fun q hq => ?_⟩
  · show ev_inb _ (if c' = c ∧ i' = i then x else M.1 c' i')
    split
    · rename_i e
      rw [e.1, e.2]
      exact ab_hi_in p3 hi hb
    · exact o1 c' i'
  · show (if q.1 = c ∧ q.2 = i then x else M.1 q.1 q.2) = M.1 q.1 q.2
    rw [if_neg (ab_pr_ok p1 hi hq)]
  · have hne : ¬ (c' = c ∧ i' = i) := by
      intro e
      rw [e.1, e.2, ab_mdok_in p2 hi] at hm'
      cases hm'
    obtain ⟨f1, f2, f3⟩ := fr c' i' hm'
    exact ⟨by show (if c' = c ∧ i' = i then x else M.1 c' i') = _; rw [if_neg hne]; exact f1, f2, f3⟩
  · rcases ab_keep_in hq hc hi with rfl | ⟨q1, q2⟩
    · unfold ab_ce
      rw [if_pos (ab_ivI ha)]
      show _ = some (if c = c ∧ i = i then x else M.1 c i)
      rw [if_pos ⟨rfl, rfl⟩]
      exact ha
    · exact ab_ce_ne (M := M) (by show (if q.1 = c ∧ q.2.1 = i then x else M.1 q.1 q.2.1) = _; rw [if_neg q2]) rfl (ca q q1)
/-- a long -/
def ab_stL (h : ab_H) (md : ab_Md) (cs : List Nat) (ix : ab_Ix) : Bool := cs.all (fun c => ab_pr h c ix && ab_mdok md c ix)
theorem ab_stL_ok (hN : ab_NP h N) (hm : ab_m h N M0 md ρ Ca M) {cs : List Nat} {ix : ab_Ix} {x : Int64} {c i : Nat} (hs : ab_stL h md cs ix = true) (hc : c ∈ cs) (hi : ab_ixin ix i) : ab_m h N M0 md ρ Ca (cm_wl M c i x) := by
  have h1 := List.all_eq_true.mp hs c hc
  simp only [Bool.and_eq_true] at h1
  obtain ⟨p1, p2⟩ := h1
  obtain ⟨⟨o1, o2, o3⟩, fr, ca⟩ := hm
  refine ⟨⟨o1, o2, hN.1 M _ (fun q hq => ⟨rfl, ?_, rfl⟩) o3⟩, fun c' i' hm' => ?_, fun q hq => ab_ce_ne rfl rfl (ca q hq)⟩
  · show (if q.1 = c ∧ q.2 = i then x else M.2.1 q.1 q.2) = M.2.1 q.1 q.2
    rw [if_neg (ab_pr_ok p1 hi hq)]
  · have hne : ¬ (c' = c ∧ i' = i) := by
      intro e
      rw [e.1, e.2, ab_mdok_in p2 hi] at hm'
      cases hm'
    obtain ⟨f1, f2, f3⟩ := fr c' i' hm'
    exact ⟨f1, by show (if c' = c ∧ i' = i then x else M.2.1 c' i') = _; rw [if_neg hne]; exact f2, f3⟩
/-- a reference -/
def ab_rfit (q : Option (Bool × List Nat)) (a : ab_A) : Bool := match q with
  | none => true
  | some q => (match a.1 with
    | 1 => a.2.2.all (fun c => q.2.contains c)
    | 2 => q.1
    | 7 => q.1 && a.2.2.all (fun c => q.2.contains c)
    | _ => false)
def ab_isR (a : ab_A) : Bool := a.1 == 1 || (a.1 == 2 || a.1 == 7)
theorem ab_rfit_ok {q : Option (Bool × List Nat)} {a : ab_A} {r : Option Nat} (h1 : ab_rfit q a = true) (hv : ab_v ρ a (cm_rq r)) : ab_rok q r := by
  unfold ab_rfit at h1
  cases q with
  | none => exact trivial
  | some q =>
    dsimp only at h1
    unfold ab_v at hv
    split at h1
    · rename_i e
      rw [e] at hv
      obtain ⟨c, hc, e2⟩ := hv
      cases r with
      | none => cases e2
      | some r =>
        cases e2
        exact List.contains_iff_mem.mp (List.all_eq_true.mp h1 _ hc)
    · rename_i e
      rw [e] at hv
      cases r with
      | none => exact h1
      | some r => cases hv
    · rename_i e
      rw [e] at hv
      simp only [Bool.and_eq_true] at h1
      cases r with
      | none => exact h1.1
      | some r =>
        rcases hv with hv | ⟨c, hc, e2⟩
        · cases hv
        · cases e2
          exact List.contains_iff_mem.mp (List.all_eq_true.mp h1.2 _ hc)
    · cases h1
def ab_stR (h : ab_H) (md : ab_Md) (a : ab_A) (cs : List Nat) (i : Nat) : Bool := cs.all (fun c => ab_pr h c (some [i]) && (ab_inM md c i && ab_rfit (ab_hr h c i) a))
theorem ab_stR_ok (hN : ab_NP h N) (hm : ab_m h N M0 md ρ Ca M) {cs : List Nat} {a : ab_A} {r : Option Nat} {c i : Nat} (hs : ab_stR h md a cs i = true) (hc : c ∈ cs) (hR : ab_isI a = false) (ha : ab_v ρ a (cm_rq r)) : ab_m h N M0 md ρ (ab_keep Ca cs (some [i]) a) (cm_wr M c i r) := by
  have h1 := List.all_eq_true.mp hs c hc
  simp only [Bool.and_eq_true] at h1
  obtain ⟨p1, p2, p3⟩ := h1
  obtain ⟨⟨o1, o2, o3⟩, fr, ca⟩ := hm
  refine ⟨⟨o1, fun c' i' => ?_, hN.1 M _ (fun q hq => ⟨rfl, rfl, ?_⟩) o3⟩, fun c' i' hm' => ?_, fun q hq => ?_⟩
  · show ab_rok _ (if c' = c ∧ i' = i then r else M.2.2 c' i')
    split
    · rename_i e
      rw [e.1, e.2]
      exact ab_rfit_ok p3 ha
    · exact o2 c' i'
  · show (if q.1 = c ∧ q.2 = i then r else M.2.2 q.1 q.2) = M.2.2 q.1 q.2
    rw [if_neg (ab_pr_ok p1 (show ab_ixin (some [i]) i from List.mem_singleton.mpr rfl) hq)]
  · have hne : ¬ (c' = c ∧ i' = i) := by
      intro e
      rw [e.1, e.2, p2] at hm'
      cases hm'
    obtain ⟨f1, f2, f3⟩ := fr c' i' hm'
    exact ⟨f1, f2, by show (if c' = c ∧ i' = i then r else M.2.2 c' i') = _; rw [if_neg hne]; exact f3⟩
  · rcases ab_keep_in hq hc (show ab_ixin (some [i]) i from List.mem_singleton.mpr rfl) with rfl | ⟨q1, q2⟩
    · unfold ab_ce
      rw [if_neg (by dsimp only; rw [hR]; decide)]
      show ab_v ρ a (cm_rq (if c = c ∧ i = i then r else M.2.2 c i))
      rw [if_pos ⟨rfl, rfl⟩]
      exact ha
    · exact ab_ce_ne (M := M) rfl (by show (if q.1 = c ∧ q.2.1 = i then r else M.2.2 q.1 q.2.1) = _; rw [if_neg q2]) (ca q q1)
/-- a row of ints copied: into arrays of which nothing is kept -/
def ab_stC (h : ab_H) (md : ab_Md) (ds : List Nat) : Bool := ds.all (fun d => ab_pr h d none && (ab_allM md d && (ab_hl h d).isEmpty))
theorem ab_stC_ok (hN : ab_NP h N) (hm : ab_m h N M0 md ρ Ca M) {ds : List Nat} {c sp d dp n : Nat} (hs : ab_stC h md ds = true) (hd : d ∈ ds) : ab_m h N M0 md ρ (ab_drop Ca ds none) (cm_cp M c sp d dp n) := by
  have h1 := List.all_eq_true.mp hs d hd
  simp only [Bool.and_eq_true, List.isEmpty_iff] at h1
  obtain ⟨p1, p2, p3⟩ := h1
  obtain ⟨⟨o1, o2, o3⟩, fr, ca⟩ := hm
  refine ⟨⟨fun c' i' => ?_, o2, hN.1 M _ (fun q hq => ⟨?_, rfl, rfl⟩) o3⟩, fun c' i' hm' => ?_, fun q hq => ?_⟩
  · by_cases e : c' = d
    · subst e
      have : ab_hi h c' i' = ev_ful := by unfold ab_hi; rw [p3]; rfl
      rw [this]
      exact ev_ful_in _
    · show ev_inb _ (if c' = d ∧ dp ≤ i' ∧ i' < dp + n then M.1 c (sp + (i' - dp)) else M.1 c' i')
      rw [if_neg (fun z => e z.1)]
      exact o1 c' i'
  · show (if q.1 = d ∧ dp ≤ q.2 ∧ q.2 < dp + n then M.1 c (sp + (q.2 - dp)) else M.1 q.1 q.2) = M.1 q.1 q.2
    rw [if_neg (fun z => ab_pr_ok (i := q.2) p1 trivial hq ⟨z.1, rfl⟩)]
  · have hne : ¬ c' = d := by
      intro e
      rw [e, ab_allM_in p2] at hm'
      cases hm'
    obtain ⟨f1, f2, f3⟩ := fr c' i' hm'
    exact ⟨by show (if c' = d ∧ dp ≤ i' ∧ i' < dp + n then M.1 c (sp + (i' - dp)) else M.1 c' i') = _; rw [if_neg (fun z => hne z.1)]; exact f1, f2, f3⟩
  · obtain ⟨h1, h2⟩ := List.mem_filter.mp hq
    have hne : ¬ q.1 = d := by
      intro e
      rw [e, List.contains_iff_mem.mpr hd] at h2
      simp [ab_ixc] at h2
    exact ab_ce_ne (M := M) (by show (if q.1 = d ∧ dp ≤ q.2.1 ∧ q.2.1 < dp + n then M.1 c (sp + (q.2.1 - dp)) else M.1 q.1 q.2.1) = _; rw [if_neg (fun z => hne z.1)]) rfl (ca q h1)
end ABM
/-! reading -/
def ab_cf (Ca : ab_Ca) (c i : Nat) : Option ab_A := match Ca with
  | [] => none
  | q :: r => cond (Nat.beq q.1 c) (cond (Nat.beq q.2.1 i) (some q.2.2) (ab_cf r c i)) (ab_cf r c i)
theorem ab_cf_mem : ∀ {Ca : ab_Ca} {c i : Nat} {a : ab_A}, ab_cf Ca c i = some a → (c, i, a) ∈ Ca
  | [], c, i, a, h => by cases h
  | q :: r, c, i, a, h => by
    have h : cond (Nat.beq q.1 c) (cond (Nat.beq q.2.1 i) (some q.2.2) (ab_cf r c i)) (ab_cf r c i) = some a := h
    cases h1 : Nat.beq q.1 c with
    | true =>
      rw [h1] at h
      cases h2 : Nat.beq q.2.1 i with
      | true =>
        rw [h2] at h
        have h : some q.2.2 = some a := h
        cases h
        rw [← Nat.eq_of_beq_eq_true h1, ← Nat.eq_of_beq_eq_true h2]
        exact List.mem_cons_self
      | false =>
        rw [h2] at h
        exact List.mem_cons_of_mem _ (ab_cf_mem (show ab_cf r c i = some a from h))
    | false =>
      rw [h1] at h
      exact List.mem_cons_of_mem _ (ab_cf_mem (show ab_cf r c i = some a from h))
def ab_hull (h : ab_H) (cs l : List Nat) : Int × Int := cs.foldl (fun b c => l.foldl (fun b i => (min b.1 (ab_hi h c i).1, max b.2 (ab_hi h c i).2)) b) (2147483647, -2147483648)
theorem ab_fold_mono {α : Type} (f : α → Int × Int) : ∀ (l : List α) (b : Int × Int), (l.foldl (fun b i => (min b.1 (f i).1, max b.2 (f i).2)) b).1 ≤ b.1 ∧ b.2 ≤ (l.foldl (fun b i => (min b.1 (f i).1, max b.2 (f i).2)) b).2
  | [], b => ⟨Int.le_refl _, Int.le_refl _⟩
  | a :: l, b => by
    have := ab_fold_mono f l (min b.1 (f a).1, max b.2 (f a).2)
    rw [List.foldl_cons]
    exact ⟨by have := this.1; dsimp only at this; omega, by have := this.2; dsimp only at this; omega⟩
theorem ab_fold_in {α : Type} (f : α → Int × Int) : ∀ (l : List α) (b : Int × Int) {a : α}, a ∈ l → (l.foldl (fun b i => (min b.1 (f i).1, max b.2 (f i).2)) b).1 ≤ (f a).1 ∧ (f a).2 ≤ (l.foldl (fun b i => (min b.1 (f i).1, max b.2 (f i).2)) b).2
  | [], b, a, h => by cases h
  | x :: l, b, a, h => by
    rw [List.foldl_cons]
    rcases List.mem_cons.mp h with rfl | h
    · have := ab_fold_mono f l (min b.1 (f a).1, max b.2 (f a).2)
      exact ⟨by have := this.1; dsimp only at this; omega, by have := this.2; dsimp only at this; omega⟩
    · exact ab_fold_in f l _ h
theorem ab_hull_mono {h : ab_H} {l : List Nat} : ∀ (cs : List Nat) (b : Int × Int), (cs.foldl (fun b c => l.foldl (fun b i => (min b.1 (ab_hi h c i).1, max b.2 (ab_hi h c i).2)) b) b).1 ≤ b.1 ∧ b.2 ≤ (cs.foldl (fun b c => l.foldl (fun b i => (min b.1 (ab_hi h c i).1, max b.2 (ab_hi h c i).2)) b) b).2
  | [], b => ⟨Int.le_refl _, Int.le_refl _⟩
  | c :: cs, b => by
    rw [List.foldl_cons]
    have h1 := ab_fold_mono (fun i => ab_hi h c i) l b
    have h2 := ab_hull_mono (h := h) (l := l) cs (l.foldl (fun b i => (min b.1 (ab_hi h c i).1, max b.2 (ab_hi h c i).2)) b)
    exact ⟨Int.le_trans h2.1 h1.1, Int.le_trans h1.2 h2.2⟩
theorem ab_hull_in {h : ab_H} {l : List Nat} {i : Nat} (hi : i ∈ l) : ∀ (cs : List Nat) (b : Int × Int) {c : Nat}, c ∈ cs → (cs.foldl (fun b c => l.foldl (fun b i => (min b.1 (ab_hi h c i).1, max b.2 (ab_hi h c i).2)) b) b).1 ≤ (ab_hi h c i).1 ∧ (ab_hi h c i).2 ≤ (cs.foldl (fun b c => l.foldl (fun b i => (min b.1 (ab_hi h c i).1, max b.2 (ab_hi h c i).2)) b) b).2
  | [], b, c, hc => by cases hc
  | x :: cs, b, c, hc => by
    rw [List.foldl_cons]
    rcases List.mem_cons.mp hc with rfl | hc
    · have h1 := ab_fold_in (fun i => ab_hi h c i) l b hi
      have h2 := ab_hull_mono (h := h) (l := l) cs (l.foldl (fun b i => (min b.1 (ab_hi h c i).1, max b.2 (ab_hi h c i).2)) b)
      exact ⟨Int.le_trans h2.1 h1.1, Int.le_trans h1.2 h2.2⟩
    · exact ab_hull_in hi cs _ hc
/-- the bounds of a place, by what is known of another one -/
def ab_cd (K : ab_K) (Ca : ab_Ca) (e : Nat × Nat × Nat × Nat × Int × Int × Int) : Bool := match ab_cf Ca e.2.2.1 e.2.2.2.1 with
  | some a => ab_isI a && (decide ((ab_bd K a).1 = e.2.2.2.2.1) && decide ((ab_bd K a).2 = e.2.2.2.2.1))
  | none => false
def ab_hc (h : ab_H) (K : ab_K) (Ca : ab_Ca) (c i : Nat) : List (Nat × Nat × Nat × Nat × Int × Int × Int) → Int × Int
  | [] => ab_hi h c i
  | e :: r => cond (Nat.beq e.1 c) (if e.2.1 = i ∧ ab_cd K Ca e = true then e.2.2.2.2.2 else ab_hc h K Ca c i r) (ab_hc h K Ca c i r)
theorem ab_hc_in {h : ab_H} {N : cm_M → Prop} {M0 : cm_M} {md : ab_Md} {ρ : List Int32} {Ca : ab_Ca} {M : cm_M} {K : ab_K} {c i : Nat} (hN : ab_NP h N) (hk : ab_k ρ K) (hm : ab_m h N M0 md ρ Ca M) : ∀ (l : List (Nat × Nat × Nat × Nat × Int × Int × Int)), (∀ e ∈ l, e ∈ h.2.2.2) → ev_inb (ab_hc h K Ca c i l) (M.1 c i)
  | [], _ => hm.1.1 c i
  | e :: r, hl => by
    show ev_inb (cond (Nat.beq e.1 c) (if e.2.1 = i ∧ ab_cd K Ca e = true then e.2.2.2.2.2 else ab_hc h K Ca c i r) (ab_hc h K Ca c i r)) (M.1 c i)
    cases hb : Nat.beq e.1 c with
    | false => exact ab_hc_in hN hk hm r (fun x hx => hl x (List.mem_cons_of_mem _ hx))
    | true =>
      have q1 := Nat.eq_of_beq_eq_true hb
      show ev_inb (if e.2.1 = i ∧ ab_cd K Ca e = true then e.2.2.2.2.2 else ab_hc h K Ca c i r) (M.1 c i)
      split
      · rename_i hq
        obtain ⟨q2, q3⟩ := hq
        unfold ab_cd at q3
        split at q3
        · rename_i a ha
          simp only [Bool.and_eq_true, decide_eq_true_eq] at q3
          have h1 := hm.2.2 _ (ab_cf_mem ha)
          unfold ab_ce at h1
          rw [if_pos q3.1] at h1
          obtain ⟨b1, b2⟩ := ab_bd_in hk h1
          dsimp only at b1 b2
          have h2 : M.1 e.2.2.1 e.2.2.2.1 = Int32.ofInt e.2.2.2.2.1 := by
            rw [← Int32.ofInt_toInt (M.1 e.2.2.1 e.2.2.2.1)]
            congr 1
            omega
          have h3 := hN.2 M hm.1.2.2 e (hl e List.mem_cons_self) h2
          rw [q1, q2] at h3
          exact h3
        · cases q3
      · exact ab_hc_in hN hk hm r (fun x hx => hl x (List.mem_cons_of_mem _ hx))
/-- an int is read -/
def ab_ldI (h : ab_H) (K : ab_K) (Ca : ab_Ca) (cs : List Nat) (ix : ab_Ix) : ab_A × ab_K × ab_Ca := match cs, ix with
  | [c], some [i] => (match ab_cf Ca c i with
    | some a => if ab_isI a = true then (a, K, Ca) else ((ab_any K (ab_hi h c i)).1, (ab_any K (ab_hi h c i)).2, Ca)
    | none => ((ab_any K (ab_hc h K Ca c i h.2.2.2)).1, (ab_any K (ab_hc h K Ca c i h.2.2.2)).2, (c, i, (ab_any K (ab_hc h K Ca c i h.2.2.2)).1) :: Ca))
  | cs, some l => ((ab_any K (ab_hull h cs l)).1, (ab_any K (ab_hull h cs l)).2, Ca)
  | _, none => ((ab_any K ev_ful).1, (ab_any K ev_ful).2, Ca)
theorem ab_ldI_ok {h : ab_H} {N : cm_M → Prop} {M0 : cm_M} {md : ab_Md} {ρ : List Int32} {Ca Ca' : ab_Ca} {M : cm_M} {K K' : ab_K} {cs : List Nat} {ix : ab_Ix} {a : ab_A} {c i : Nat} (hN : ab_NP h N) (hk : ab_k ρ K) (hm : ab_m h N M0 md ρ Ca M) (hl : ab_ldI h K Ca cs ix = (a, K', Ca')) (hc : c ∈ cs) (hi : ab_ixin ix i) : ∃ ext, ab_k (ρ ++ ext) K' ∧ ab_i (ρ ++ ext) a = some (M.1 c i) ∧ ab_m h N M0 md (ρ ++ ext) Ca' M := by
  unfold ab_ldI at hl
  split at hl
  · rename_i c' i'
    have e1 : c = c' := List.mem_singleton.mp hc
    have e2 : i = i' := List.mem_singleton.mp hi
    subst e1
    subst e2
    split at hl
    · rename_i q hq
      split at hl
      · rename_i hI
        cases hl
        have := hm.2.2 _ (ab_cf_mem hq)
        unfold ab_ce at this
        rw [if_pos hI] at this
        exact ⟨[], by simpa using hk, by simpa using this, by simpa using hm⟩
      · cases hl
        obtain ⟨ext, k1, k2⟩ := ab_any_ok hk (hm.1.1 c i) (rfl : ab_any K (ab_hi h c i) = (_, _))
        exact ⟨ext, k1, k2, ab_m_ap hm⟩
    · cases hl
      obtain ⟨ext, k1, k2⟩ := ab_any_ok hk (ab_hc_in hN hk hm h.2.2.2 (fun _ z => z)) (rfl : ab_any K (ab_hc h K Ca c i h.2.2.2) = (_, _))
      refine ⟨ext, k1, k2, hm.1, hm.2.1, fun q hq => ?_⟩
      rcases List.mem_cons.mp hq with rfl | hq
      · unfold ab_ce
        rw [if_pos (show ab_isI (ab_any K (ab_hc h K Ca c i h.2.2.2)).1 = true from ab_ivI k2)]
        exact k2
      · exact ab_ce_ap (hm.2.2 q hq)
  · rename_i l hne
    cases hl
    have hb : ev_inb (ab_hull h cs l) (M.1 c i) := by
      have h1 := ab_hull_in (h := h) (l := l) hi cs (2147483647, -2147483648) hc
      have h2 := hm.1.1 c i
      exact ⟨Int.le_trans h1.1 h2.1, Int.le_trans h2.2 h1.2⟩
    obtain ⟨ext, k1, k2⟩ := ab_any_ok hk hb (rfl : ab_any K (ab_hull h cs l) = (_, _))
    exact ⟨ext, k1, k2, ab_m_ap hm⟩
  · cases hl
    obtain ⟨ext, k1, k2⟩ := ab_any_ok hk (ev_ful_in (M.1 c i)) (rfl : ab_any K ev_ful = (_, _))
    exact ⟨ext, k1, k2, ab_m_ap hm⟩
/-- a reference is read: which cells -/
def ab_un (h : ab_H) : List (Nat × Nat) → Option (Bool × List Nat)
  | [] => some (false, [])
  | q :: r => match ab_hr h q.1 q.2, ab_un h r with
    | some (n, cs), some (n', cs') => some (n || n', cs ++ cs')
    | _, _ => none
theorem ab_un_ok {h : ab_H} : ∀ {l : List (Nat × Nat)} {n : Bool} {cs : List Nat}, ab_un h l = some (n, cs) → ∀ q ∈ l, ∀ r, ab_rok (ab_hr h q.1 q.2) r → ab_rok (some (n, cs)) r
  | [], n, cs, e => fun q hq => nomatch hq
  | p :: l, n, cs, e => by
    unfold ab_un at e
    split at e
    · rename_i n1 c1 n2 c2 e1 e2
      cases e
      intro q hq r hr
      rcases List.mem_cons.mp hq with rfl | hq
      · rw [e1] at hr
        cases r with
        | none => have hr : n1 = true := hr; show (n1 || n2) = true; rw [hr]; rfl
        | some x => exact List.mem_append_left _ hr
      · have := ab_un_ok e2 q hq r hr
        cases r with
        | none => have hr : n2 = true := this; show (n1 || n2) = true; rw [hr]; simp
        | some x => exact List.mem_append_right _ this
    · cases e
def ab_ldR (h : ab_H) (Ca : ab_Ca) (cs l : List Nat) : Option ab_A := match cs, l with
  | [c], [i] => (match ab_cf Ca c i with
    | some a => if ab_isI a = false then some a else none
    | none => (match ab_hr h c i with
      | some (false, ts) => some (1, 0, ts)
      | some (true, ts) => some (7, 0, ts)
      | none => none))
  | cs, l => (match ab_un h (cs.flatMap (fun c => l.map (fun i => (c, i)))) with
    | some (false, ts) => some (1, 0, ts)
    | some (true, ts) => some (7, 0, ts)
    | none => none)
theorem ab_rokv {ρ : List Int32} {n : Bool} {ts : List Nat} {r : Option Nat} (h : ab_rok (some (n, ts)) r) : ab_v ρ (if n = true then (7, 0, ts) else (1, 0, ts)) (cm_rq r) := by
  cases n with
  | true =>
    rw [if_pos rfl]
    cases r with
    | none => exact Or.inl rfl
    | some x => exact Or.inr ⟨x, h, rfl⟩
  | false =>
    rw [if_neg (by decide)]
    cases r with
    | none => cases h
    | some x => exact ⟨x, h, rfl⟩
theorem ab_ldR_ok {h : ab_H} {N : cm_M → Prop} {M0 : cm_M} {md : ab_Md} {ρ : List Int32} {Ca : ab_Ca} {M : cm_M} {cs l : List Nat} {a : ab_A} {c i : Nat} (hm : ab_m h N M0 md ρ Ca M) (hl : ab_ldR h Ca cs l = some a) (hc : c ∈ cs) (hi : i ∈ l) : ab_v ρ a (cm_rq (M.2.2 c i)) := by
  unfold ab_ldR at hl
  have fin : ∀ {n : Bool} {ts : List Nat}, ab_rok (some (n, ts)) (M.2.2 c i) → (match (some (n, ts) : Option (Bool × List Nat)) with
      | some (false, ts) => some ((1, 0, ts) : ab_A)
      | some (true, ts) => some (7, 0, ts)
      | none => none) = some a → ab_v ρ a (cm_rq (M.2.2 c i)) := by
    intro n ts h1 h2
    have := ab_rokv (ρ := ρ) h1
    cases n with
    | true => cases h2; exact this
    | false => cases h2; exact this
  split at hl
  · rename_i c' i'
    have e1 : c = c' := List.mem_singleton.mp hc
    have e2 : i = i' := List.mem_singleton.mp hi
    subst e1
    subst e2
    split at hl
    · rename_i q hq
      split at hl
      · rename_i hI
        cases hl
        have := hm.2.2 _ (ab_cf_mem hq)
        unfold ab_ce at this
        rw [if_neg (by dsimp only; rw [hI]; decide)] at this
        exact this
      · cases hl
    · have h1 := hm.1.2.1 c i
      cases hz : ab_hr h c i with
      | none => rw [hz] at hl; cases hl
      | some q =>
        rw [hz] at hl h1
        exact fin h1 hl
  · have h1 := hm.1.2.1 c i
    cases hz : ab_un h (cs.flatMap (fun c => l.map (fun i => (c, i)))) with
    | none => rw [hz] at hl; cases hl
    | some q =>
      rw [hz] at hl
      exact fin (ab_un_ok hz (c, i) (List.mem_flatMap.mpr ⟨c, hc, List.mem_map.mpr ⟨i, hi, rfl⟩⟩) _ h1) hl
