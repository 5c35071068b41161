/-! CM: LIBERAL RUNS: what is said of every end, without side conditions and without an end being shown -/
/-- what holds of every answer of a call -/
def cm_Lc (ms : List ev_MI) (k : Nat) (as : List Value) (M : cm_M) (R : cm_K) : Prop := ∀ (d : Nat) (Post : cm_K), cm_Call ms d k as M Post → cm_Call ms d k as M (fun v M' => Post v M' ∧ R v M')
theorem cm_Lc_im {ms : List ev_MI} {k : Nat} {as : List Value} {M : cm_M} {R R' : cm_K} (h : cm_Lc ms k as M R) (hr : ∀ v M', R v M' → R' v M') : cm_Lc ms k as M R' := fun d Post hc => cm_Call_up (h d Post hc) (Nat.le_refl _) (fun v M' q => ⟨q.1, hr v M' q.2⟩)
theorem cm_Lc_and {ms : List ev_MI} {k : Nat} {as : List Value} {M : cm_M} {R R' : cm_K} (h : cm_Lc ms k as M R) (h' : cm_Lc ms k as M R') : cm_Lc ms k as M (fun v M' => R v M' ∧ R' v M') := fun d Post hc => cm_Call_up (h' d _ (h d Post hc)) (Nat.le_refl _) (fun v M' q => ⟨q.1.1, q.1.2, q.2⟩)
/-- a contract holds of every answer, where it can be had at all -/
theorem cm_Lc_use {ms : List ev_MI} {d k : Nat} {as : List Value} {M : cm_M} {Post R : cm_K} (hc : cm_Call ms d k as M Post) (h : cm_Lc ms k as M R) : cm_Call ms d k as M (fun v M' => Post v M' ∧ R v M') := h d Post hc
def cm_il (ms : List ev_MI) (r : ev_Row) (S : cm_S) (k : cm_S → Prop) : Prop :=
  match cm_take (!(r.1 == 201)) r.2.2.2.1.toNat S.2.2.1 with
  | some (as, rest) => ∃ R : cm_K, cm_Lc ms r.2.1.toNat as S.2.2.2 R ∧ ∀ v M', R v M' → k (S.1 + 3, S.2.1, v.toList ++ rest, M')
  | none => True
def cm_lw (ms : List ev_MI) (E : cm_E) (P : ev_P) (rows : List (Nat × ev_Row)) (stops : List (Nat × List Nat)) (J : cm_S → Prop) (Z : Nat → cm_S → Prop) : Nat → cm_S → Prop
  | 0, _ => False
  | n + 1, S => match ev_at rows S.1 with
    | none => True
    | some r =>
      if 210 ≤ r.1 then Z r.1 S
      else if 200 ≤ r.1 then cm_il ms r S (cm_stop stops J (cm_lw ms E P rows stops J Z n))
      else (match cx_ops[r.1]? with
        | some x => (match x E P r.2 S with
          | some S1 => cm_stop stops J (cm_lw ms E P rows stops J Z n) S1
          | none => False)
        | none => True)
theorem cm_pick_le {A B : List (Nat × Value)} (h : cm_le A B) : ∀ {live : List Nat} {L1 : List (Nat × Value)}, cm_pick A live = some L1 → cm_pick B live = some L1
  | [], L1, e => e
  | i :: r, L1, e => by
    unfold cm_pick at e ⊢
    split at e
    · rename_i v l h1 h2
      cases e
      rw [h.2 _ _ h1, cm_pick_le h h2]
    · cases e
section LIB
variable {ms : List ev_MI} {E : cm_E} {P : ev_P} {rows : List (Nat × ev_Row)} {stops : List (Nat × List Nat)} {J : cm_S → Prop} {Z Z1 Z2 : Nat → cm_S → Prop}
theorem cm_lw_le (hZ : cm_ZL Z) : ∀ (n : Nat) (pc : Nat) (A B : List (Nat × Value)) (st : List Value) (M : cm_M), cm_le A B → cm_lw ms E P rows stops J Z n (pc, A, st, M) → cm_lw ms E P rows stops J Z n (pc, B, st, M)
  | 0, pc, A, B, st, M, hL, h => h
  | n + 1, pc, A, B, st, M, hL, h => by
    have hst : ∀ (pc : Nat) (A B : List (Nat × Value)) (st : List Value) (M : cm_M), cm_le A B → cm_stop stops J (cm_lw ms E P rows stops J Z n) (pc, A, st, M) → cm_stop stops J (cm_lw ms E P rows stops J Z n) (pc, B, st, M) := by
      intro pc A B st M hL h
      unfold cm_stop at h ⊢
      dsimp only at h ⊢
      split at h
      · exact cm_lw_le hZ n pc A B st M hL h
      · split at h
        · rename_i L1 hp
          rw [cm_pick_le hL hp]
          exact h
        · exact h.elim
    unfold cm_lw at h ⊢
    dsimp only at h ⊢
    split at h
    · trivial
    · split at h
      · rename_i h1
        rw [if_pos h1]
        exact hZ _ _ _ _ _ _ h
      · rename_i h1
        rw [if_neg h1]
        split at h
        · rename_i h2
          rw [if_pos h2]
          unfold cm_il at h ⊢
          dsimp only at h ⊢
          split at h
          · obtain ⟨R, hR, hk⟩ := h
            exact ⟨R, hR, fun v M' q => hst _ _ _ _ _ hL (hk v M' q)⟩
          · trivial
        · rename_i h2
          rw [if_neg h2]
          split at h
          · rename_i x hx
            split at h
            · rename_i S1 hS1
              obtain ⟨B', hB', e⟩ := cy_ops x (List.mem_of_getElem? hx) _ _ _ _ _ _ _ _ _ hL hS1
              rw [e]
              exact hst _ _ _ _ _ hB' h
            · exact h.elim
          · trivial
theorem cm_lib {d N : Nat} (hZ : cm_ZL Z2) (hinv : ∀ S, J S → cm_lw ms E P rows stops J Z2 N S) {S : cm_S} (h : cm_lf ms (cm_Call ms d) E P rows Z1 S) : ∀ m, cm_lw ms E P rows stops J Z2 m S → cm_lf ms (cm_Call ms d) E P rows (fun op S => Z1 op S ∧ Z2 op S) S := by
  refine h (fun S => ∀ m, cm_lw ms E P rows stops J Z2 m S → cm_lf ms (cm_Call ms d) E P rows (fun op S => Z1 op S ∧ Z2 op S) S) ?_
  intro S hS m hw
  cases m with
  | zero => exact hw.elim
  | succ m =>
    have hst : ∀ S, cm_stop stops J (cm_lw ms E P rows stops J Z2 m) S → (∀ m, cm_lw ms E P rows stops J Z2 m S → cm_lf ms (cm_Call ms d) E P rows (fun op S => Z1 op S ∧ Z2 op S) S) → cm_lf ms (cm_Call ms d) E P rows (fun op S => Z1 op S ∧ Z2 op S) S := by
      intro S hs hX
      unfold cm_stop at hs
      split at hs
      · exact hX m hs
      · split at hs
        · rename_i L1 hp
          obtain ⟨pc, L, st, M⟩ := S
          exact hX N (cm_lw_le hZ N _ _ _ _ _ (cm_le_of (cm_pick_look hp)) (hinv _ hs))
        · exact hs.elim
    refine cm_lf_F (cm_Call_M ms d d (Nat.le_refl _)) ?_
    unfold cm_F at hS ⊢
    unfold cm_lw at hw
    split at hS
    · exact hS
    · rename_i r hr
      rw [hr] at hw
      dsimp only at hw
      split at hS
      · rename_i h1
        rw [if_pos h1] at hw ⊢
        exact ⟨hS, hw⟩
      · rename_i h1
        rw [if_neg h1] at hw ⊢
        split at hS
        · rename_i h2
          rw [if_pos h2] at hw ⊢
          unfold cm_inv at hS ⊢
          unfold cm_il at hw
          split at hS
          · split at hS
            · rename_i as rest hta
              rw [hta] at hw
              obtain ⟨R, hR, hk⟩ := hw
              exact ⟨hS.1, hS.2.1, hS.2.2.1, cm_Call_up (hR d _ hS.2.2.2) (Nat.le_refl _) (fun v M' q => hst _ (hk v M' q.2) q.1)⟩
            · exact hS
          · exact hS
        · rename_i h2
          rw [if_neg h2] at hw ⊢
          split at hS
          · rename_i o ho
            obtain ⟨x, hx, hdt⟩ := cd_ops _ o ho
            rw [hx] at hw
            dsimp only at hw
            obtain ⟨S1, S2, g1, g2, g3, g4⟩ := hdt _ _ _ _ _ hS
            split at hw
            · rename_i S0 hS0
              obtain ⟨e1, e2⟩ := g4 S0 hS0
              subst e1
              subst e2
              exact g3 _ (hst _ hw g1) (hst _ hw g1)
            · exact hw.elim
          · exact hS
end LIB
/-- a method's end, of which R is to be said -/
def cm_rl (R : cm_K) (op : Nat) (S : cm_S) : Prop := match op, S.2.2.1 with
  | 210, [.int x] => R (some (.int x)) S.2.2.2
  | 211, [.long x] => R (some (.long x)) S.2.2.2
  | 212, [.ref x] => R (some (.ref x)) S.2.2.2
  | 213, [] => R none S.2.2.2
  | _, _ => True
theorem cm_rl_L {R : cm_K} : cm_ZL (cm_rl R) := fun op pc L L' st M h => h
theorem cm_rl_ret {ret : Option FieldType} {Post R : cm_K} {op : Nat} {S : cm_S} (h : cm_ret ret Post op S) (h2 : cm_rl R op S) : cm_ret ret (fun v M => Post v M ∧ R v M) op S := by
  obtain ⟨pc, L, st, M⟩ := S
  unfold cm_ret at h ⊢
  dsimp only at h ⊢
  split at h
  · exact ⟨h, h2⟩
  · exact ⟨h.1, h.2, h2⟩
  · exact ⟨h.1, h.2.1, h.2.2, h2⟩
  · exact ⟨h.1, h.2, h2⟩
  · exact ⟨h, h2⟩
  · exact ⟨h, h2⟩
  · exact ⟨h, h2⟩
  · exact h
/-- of every answer of a method, by invariants at stops -/
theorem cm_Lc_of {ms : List ev_MI} {k : Nat} {mi : ev_MI} (hk : ms[k]? = some mi) {as : List Value} {M : cm_M} {R : cm_K} (stops : List (Nat × List Nat)) (J : cm_S → Prop) (N : Nat) (hinv : ∀ S, J S → cm_lw ms none (cm_P mi) mi.2.2.2.2.2.2 stops J (cm_rl R) N S) (N0 : Nat) (h0 : cm_lw ms none (cm_P mi) mi.2.2.2.2.2.2 stops J (cm_rl R) N0 (0, cm_args 0 as, [], M)) : cm_Lc ms k as M R := by
  intro d Post hc
  cases d with
  | zero => exact hc.elim
  | succ d =>
    obtain ⟨mi', h1, h2, h3⟩ := hc
    rw [hk] at h1
    cases h1
    exact ⟨mi, hk, h2, cm_lf_im (cm_Call_M ms d d (Nat.le_refl _)) (cm_Call_M ms d d (Nat.le_refl _)) (fun _ _ q => cm_rl_ret q.1 q.2) (cm_lib cm_rl_L hinv h3 N0 h0)⟩
/-- .. of a method without loops -/
theorem cm_Lc_st {ms : List ev_MI} {k : Nat} {mi : ev_MI} (hk : ms[k]? = some mi) {as : List Value} {M : cm_M} {R : cm_K} (N0 : Nat) (h0 : cm_lw ms none (cm_P mi) mi.2.2.2.2.2.2 [] (fun _ => False) (cm_rl R) N0 (0, cm_args 0 as, [], M)) : cm_Lc ms k as M R := cm_Lc_of hk [] (fun _ => False) 0 (fun S h => h.elim) N0 h0
