/-! THE CHECK: a measure falls from a head to an end that is an instance of a head -/
def ev_ud (k : Nat) (B c : Int) (b : Int × Int) : Int := if k = 0 then (if 0 ≤ c then (if b.2 ≤ B then -c else 0) else -c) else (if c ≤ 0 then (if B ≤ b.1 then c else 0) else c)
theorem ev_ud_ok {k : Nat} {B c x z : Int} {b : Int × Int} (hk : k < 2) (hz : z = x + c) (h1 : b.1 ≤ z) (h2 : z ≤ b.2) : ev_tu k B z ≤ ev_tu k B x + ev_ud k B c b := by
  have hk : k = 0 ∨ k = 1 := by omega
  subst hz
  rcases hk with rfl | rfl
  · simp only [ev_tu, ev_ud, if_true]
    split
    · split <;> omega
    · omega
  · simp only [ev_tu, ev_ud, if_true, if_neg (by decide : ¬ (1 : Nat) = 0)]
    split
    · split <;> omega
    · omega
def ev_th (k : Nat) (B : Int) (b : Int × Int) : Int := if k = 0 then max 0 (B - b.1) else if k = 1 then max 0 (b.2 - B) else max 0 B
def ev_tl (k : Nat) (B : Int) (b : Int × Int) : Int := if k = 0 then max 0 (B - b.2) else if k = 1 then max 0 (b.1 - B) else max 0 B
theorem ev_th_ok {k : Nat} {B z : Int} {b : Int × Int} (h1 : b.1 ≤ z) (h2 : z ≤ b.2) : ev_tu k B z ≤ ev_th k B b := by
  unfold ev_tu ev_th
  split
  · omega
  · split <;> omega
theorem ev_tl_ok {k : Nat} {B z : Int} {b : Int × Int} (h1 : b.1 ≤ z) (h2 : z ≤ b.2) : ev_tl k B b ≤ ev_tu k B z := by
  unfold ev_tu ev_tl
  split
  · omega
  · split <;> omega
/-- a bound of what a term at the end is more than its term at the head -/
def ev_td (K : ev_K) (a : ev_A) (t' t : ev_Mt) : Int := match (if t'.1 = t.1 ∧ t'.2.1 = t.2.1 ∧ t'.2.2.1 = t.2.2.1 ∧ t.2.1 < 2 then ev_dl K t.2.2.2 a else none) with
  | some c => (t.1 : Int) * ev_ud t.2.1 t.2.2.1 c (ev_ob K a)
  | none => (t'.1 : Int) * ev_th t'.2.1 t'.2.2.1 (ev_ob K a) - (t.1 : Int) * ev_tl t.2.1 t.2.2.1 (ev_ob K (3, (t.2.2.2 : Int)))
theorem ev_td_ok {K : ev_K} {g : ev_G} {a : ev_A} {t' t : ev_Mt} {x z : Int32} (hB : ev_b K g) (hi : ev_isI a = true) (hx : ev_v g (3, (t.2.2.2 : Int)) = some (.int x)) (hz : ev_v g a = some (.int z)) :
    (t'.1 : Int) * ev_tu t'.2.1 t'.2.2.1 z.toInt ≤ (t.1 : Int) * ev_tu t.2.1 t.2.2.1 x.toInt + ev_td K a t' t := by
  obtain ⟨a1, a2⟩ := ev_ob_in hB hi hz
  obtain ⟨b1, b2⟩ := ev_ob_in hB rfl hx
  unfold ev_td
  split
  · rename_i c hc
    split at hc
    · rename_i he
      obtain ⟨e1, e2, e3, e4⟩ := he
      rw [e1, e2, e3, ← Int.mul_add]
      exact Int.mul_le_mul_of_nonneg_left (ev_ud_ok e4 (ev_dl_ok hB hc hx hz) a1 a2) (Int.natCast_nonneg _)
    · cases hc
  · have h1 := Int.mul_le_mul_of_nonneg_left (ev_th_ok (k := t'.2.1) (B := t'.2.2.1) a1 a2) (Int.natCast_nonneg t'.1)
    have h2 := Int.mul_le_mul_of_nonneg_left (ev_tl_ok (k := t.2.1) (B := t.2.2.1) b1 b2) (Int.natCast_nonneg t.1)
    omega
def ev_mfall (K : ev_K) (n : Nat) (sg : List ev_A) : List ev_Mt → List ev_Mt → Option Int
  | [], [] => some 0
  | t' :: ts', t :: ts => match sg[t'.2.2.2]?, ev_mfall K n sg ts' ts with
    | some a, some d => if t.2.2.2 < n ∧ ev_isI a = true then some (ev_td K a t' t + d) else none
    | _, _ => none
  | _, _ => none
theorem ev_mfall_ok {K : ev_K} {gh g : ev_G} {sg : List ev_A} (hai : ev_ai gh) (hle : ev_le gh g) (hB : ev_b K g) (hv : ∀ b ∈ sg, ∃ v, ev_v g b = some v) : ∀ {ts' ts : List ev_Mt} {d : Int}, ev_mfall K gh.2.2.length sg ts' ts = some d → ev_ms ts' (ev_ET g sg) ≤ ev_ms ts gh.2.2 + d
  | [], [], d, h => by
    cases h
    exact Int.le_refl _
  | t' :: ts', t :: ts, d, h => by
    unfold ev_mfall at h
    split at h
    · rename_i a d2 ha hd
      split at h
      · rename_i hc
        obtain ⟨hn, hi⟩ := hc
        cases h
        have ih := ev_mfall_ok hai hle hB hv hd
        obtain ⟨v, hz⟩ := hv a (List.mem_of_getElem? ha)
        obtain ⟨z, rfl⟩ := ev_vI hi hz
        obtain ⟨x, hx⟩ := hai t.2.2.2 _ (List.getElem?_eq_getElem hn)
        have hx1 : gh.2.2[t.2.2.2]? = some (.int x) := by rw [List.getElem?_eq_getElem hn, hx]
        obtain ⟨l3, e3⟩ := hle.2.2
        have hx2 : ev_v g (3, (t.2.2.2 : Int)) = some (.int x) := ev_at3 (by rw [Int.toNat_natCast, e3, List.getElem?_append_left hn, hx1])
        have e1 : ev_zi (ev_ET g sg) t'.2.2.2 = z.toInt := by unfold ev_zi; rw [ev_ET_at ha hz]
        have e2 : ev_zi gh.2.2 t.2.2.2 = x.toInt := by unfold ev_zi; rw [hx1]
        have hd := ev_td_ok (t' := t') (t := t) hB hi hx2 hz
        unfold ev_ms ev_tt
        rw [e1, e2]
        omega
      · cases h
    · cases h
  | [], _ :: _, _, h => by simp [ev_mfall] at h
  | _ :: _, [], _, h => by simp [ev_mfall] at h
def ev_nx (tbl : List (List ev_Mt)) (n0 h h' : Nat) (T T' S : ev_S) (sg : List ev_A) : Bool := ev_inst T' S sg && (ev_pre n0 sg && (sg.all (ev_has S.2.2.2.2.1 T.2.2.2.2.1.1.length) && (match ev_mfall S.2.2.2.2.1 T.2.2.2.2.1.1.length sg ((tbl[h']?).getD []) ((tbl[h]?).getD []) with
  | some d => decide (d < 0)
  | none => false)))
theorem ev_nx_ok {p : Program} {l : Launch} {e : Env} {R : Room} {s : State} {m : MethodId} {args : Array Value} {below : List Frame} {meth : Method} {c : Code} {Q : State → Prop} {nL : Nat} {D : va_G} {A : Nat → Prop} {g0 : ev_G} {heads : List ev_S} {tbl : List (List ev_Mt)} {h h' : Nat} {T T' S : ev_S} {sg : List ev_A}
    (hT : heads[h]? = some T) (hT' : heads[h']? = some T') (hn : ev_nx tbl g0.2.2.length h h' T T' S sg = true) : ev_Next p l e R s m args below meth c Q nL D A g0 heads (ev_mu tbl) h S := by
  simp only [ev_nx, Bool.and_eq_true, List.all_eq_true] at hn
  obtain ⟨h1, h2, h3, h4⟩ := hn
  refine Or.inr ⟨h', T', sg, hT', h1, h2, fun T2 gh g hT2 hBT hai hle hle' hB => ?_⟩
  rw [hT] at hT2
  cases hT2
  rw [hBT.1] at h3 h4
  have hv : ∀ b ∈ sg, ∃ v, ev_v g b = some v := fun b hb => by
    obtain ⟨x, hx⟩ := ev_has_ok hai hle' hB (h3 b hb)
    exact ⟨_, hx⟩
  refine ⟨hv, ?_⟩
  split at h4
  · rename_i d hd
    have hd0 : d < 0 := by simpa using h4
    have := ev_mfall_ok hai hle' hB hv hd
    have := ev_ms_nn (ev_ET g sg) ((tbl[h']?).getD [])
    unfold ev_mu
    omega
  · cases h4
