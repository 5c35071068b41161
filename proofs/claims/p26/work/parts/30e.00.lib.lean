noncomputable def nd : List (Nat × Value) → Bool
  | [] => true
  | q :: L => L.all (fun p => !(p.1 == q.1)) && nd L
theorem nd_look : ∀ {L : List (Nat × Value)}, nd L = true → ∀ q ∈ L, cm_look L q.1 = some q.2
  | [], _, q, hq => nomatch hq
  | p :: L, h, q, hq => by
    unfold nd at h
    rw [Bool.and_eq_true] at h
    rcases List.mem_cons.mp hq with rfl | hm
    · unfold cm_look
      rw [if_pos rfl]
    · have h1 := List.all_eq_true.mp h.1 q hm
      have h2 : ¬ p.1 = q.1 := fun e => by
        rw [Bool.not_eq_true', beq_eq_false_iff_ne] at h1
        exact h1 e.symm
      unfold cm_look
      rw [if_neg h2]
      exact nd_look h.2 q hm
theorem nd_le {L : List (Nat × Value)} (h : nd L = true) : cm_le L L := cm_le_of (nd_look h)
theorem ev_at_c {α : Type} {l : List (Nat × α)} {p i : Nat} {x : α} : ev_at ((p, x) :: l) i = if p = i then some x else ev_at l i := by
  show cond (Nat.beq p i) (some x) (ev_at l i) = _
  cases hq : Nat.beq p i with
  | true => exact (if_pos (Nat.eq_of_beq_eq_true hq)).symm
  | false => exact (if_neg (Nat.ne_of_beq_eq_false hq)).symm
section LBTO
variable {ms : List ev_MI} {E : cm_E} {P : ev_P} {rows : List (Nat × ev_Row)} {stops : List (Nat × List Nat)} {J : cm_S → Prop} {Z : Nat → cm_S → Prop}
theorem lb_lm (hZ : cm_ZL Z) : ∀ (n k : Nat), n ≤ k → ∀ (pc : Nat) (A B : List (Nat × Value)) (st : List Value) (M : cm_M), cm_le A B → lb_ ms E P rows stops J Z n (pc, A, st, M) → lb_ ms E P rows stops J Z k (pc, B, st, M)
  | 0, _, _, pc, A, B, st, M, hL, h => h.elim
  | n + 1, 0, hk, _, _, _, _, _, _, _ => absurd hk (by omega)
  | n + 1, k + 1, hk, pc, A, B, st, M, hL, h => by
    have hst : ∀ (pc : Nat) (A B : List (Nat × Value)) (st : List Value) (M : cm_M), cm_le A B → cm_stop stops J (lb_ ms E P rows stops J Z n) (pc, A, st, M) → cm_stop stops J (lb_ ms E P rows stops J Z k) (pc, B, st, M) := by
      intro pc A B st M hL h
      unfold cm_stop at h ⊢
      dsimp only at h ⊢
      split at h
      · exact lb_lm hZ n k (by omega) pc A B st M hL h
      · split at h
        · rename_i L1 hp
          rw [cm_pick_le hL hp]
          exact h
        · exact h.elim
    unfold lb_ at h ⊢
    rw [fz_eq] at h ⊢
    split at h
    · trivial
    · split at h
      · rename_i x hx
        exact cp_ops x (List.mem_of_getElem? ((cq_opF_eq _).symm.trans hx)) _ _ _ _ _ _ _ _ _ _ hL hst h
      · split at h
        · rename_i h1
          rw [if_pos h1]
          exact hZ _ _ _ _ _ _ h
        · rename_i h1
          rw [if_neg h1]
          split at h
          · rename_i h2
            rw [if_pos h2]
            unfold cq_il at h ⊢
            dsimp only at h ⊢
            split at h
            · obtain ⟨R, hR, hk⟩ := h
              exact ⟨R, hR, fun v M' q => hst _ _ _ _ _ hL (hk v M' q)⟩
            · trivial
          · rename_i h2
            rw [if_neg h2]
            trivial
/-- a stop more, at which the run is known to go on -/
theorem lb_ax (hZ : cm_ZL Z) {m pc1 : Nat} {live : List Nat} {T : cm_S} (hp : ev_at stops pc1 = none) (hT : T.1 = pc1) (h : lb_ ms E P rows stops J Z m T) : ∀ (n : Nat) (pc : Nat) (A B : List (Nat × Value)) (st : List Value) (M : cm_M), cm_le A B → lb_ ms E P rows ((pc1, live) :: stops) (fun X => X = T) Z n (pc, A, st, M) → lb_ ms E P rows stops J Z (m + n) (pc, B, st, M)
  | 0, pc, A, B, st, M, hL, hr => hr.elim
  | n + 1, pc, A, B, st, M, hL, hr => by
    have hst : ∀ (pc : Nat) (A B : List (Nat × Value)) (st : List Value) (M : cm_M), cm_le A B → cm_stop ((pc1, live) :: stops) (fun X => X = T) (lb_ ms E P rows ((pc1, live) :: stops) (fun X => X = T) Z n) (pc, A, st, M) → cm_stop stops J (lb_ ms E P rows stops J Z (m + n)) (pc, B, st, M) := by
      intro pc A B st M hL hr
      unfold cm_stop at hr ⊢
      dsimp only at hr ⊢
      rw [ev_at_c] at hr
      by_cases e : pc1 = pc
      · rw [if_pos e] at hr
        dsimp only at hr
        rw [← e, hp]
        dsimp only
        split at hr
        · rename_i L1 hpk
          have hr : (pc, L1, st, M) = T := hr
          rw [← hr] at h
          rw [e]
          exact lb_lm hZ m (m + n) (by omega) _ _ _ _ _ (cm_le_tr (cm_le_of (cm_pick_look hpk)) hL.2) h
        · exact hr.elim
      · rw [if_neg e] at hr
        split at hr
        · exact lb_ax hZ hp hT h n pc A B st M hL hr
        · split at hr
          · have hr : _ = T := hr
            exact absurd ((congrArg (fun X : cm_S => X.1) hr).trans hT) (fun q => e q.symm)
          · exact hr.elim
    show lb_ ms E P rows stops J Z ((m + n) + 1) (pc, B, st, M)
    unfold lb_ at hr ⊢
    rw [fz_eq] at hr ⊢
    split at hr
    · trivial
    · split at hr
      · rename_i x hx
        exact cp_ops x (List.mem_of_getElem? ((cq_opF_eq _).symm.trans hx)) _ _ _ _ _ _ _ _ _ _ hL hst hr
      · split at hr
        · rename_i h1
          rw [if_pos h1]
          exact hZ _ _ _ _ _ _ hr
        · rename_i h1
          rw [if_neg h1]
          split at hr
          · rename_i h2
            rw [if_pos h2]
            unfold cq_il at hr ⊢
            dsimp only at hr ⊢
            split at hr
            · obtain ⟨R, hR, hk⟩ := hr
              exact ⟨R, hR, fun v M' q => hst _ _ _ _ _ hL (hk v M' q)⟩
            · trivial
          · rename_i h2
            rw [if_neg h2]
            trivial
end LBTO
section LBTO2
variable {ms : List ev_MI} {E : cm_E} {P : ev_P} {rows : List (Nat × ev_Row)} {stops : List (Nat × List Nat)} {J : cm_S → Prop} {R : cm_K}
theorem lb_to0 {m : Nat} {S T : cm_S} (pc1 : Nat) (live : List Nat) (hp : ev_at stops pc1 = none) (hT : T.1 = pc1) (hL : nd S.2.1 = true) (hrun : ∀ J' : cm_S → Prop, J' T → lb_ ms E P rows ((pc1, live) :: stops) J' (cm_rl R) 20 S) (h : lb_ ms E P rows stops J (cm_rl R) m T) : lb_ ms E P rows stops J (cm_rl R) (m + 20) S := by
  obtain ⟨pc, A, st, M⟩ := S
  exact lb_ax cm_rl_L hp hT h 20 pc A A st M (nd_le hL) (hrun _ rfl)
theorem lb_to {m : Nat} {S T : cm_S} (pc1 : Nat) (live : List Nat) (hp : ev_at stops pc1 = none) (hT : T.1 = pc1) (hL : nd S.2.1 = true) (hrun : ∀ J' : cm_S → Prop, J' T → cm_stop ((pc1, live) :: stops) J' (lb_ ms E P rows ((pc1, live) :: stops) J' (cm_rl R) 20) S) (h : lb_ ms E P rows stops J (cm_rl R) m T) : cm_stop stops J (lb_ ms E P rows stops J (cm_rl R) (m + 20)) S := by
  obtain ⟨pc, A, st, M⟩ := S
  have hr := hrun (fun X => X = T) rfl
  unfold cm_stop at hr ⊢
  dsimp only at hr ⊢
  rw [ev_at_c] at hr
  by_cases e : pc1 = pc
  · rw [if_pos e] at hr
    dsimp only at hr
    rw [← e, hp]
    dsimp only
    split at hr
    · rename_i L1 hpk
      have hr : (pc, L1, st, M) = T := hr
      rw [← hr] at h
      rw [e]
      exact lb_lm cm_rl_L m (m + 20) (by omega) _ _ _ _ _ (cm_le_of (cm_pick_look hpk)) h
    · exact hr.elim
  · rw [if_neg e] at hr
    split at hr
    · exact lb_ax cm_rl_L hp hT h 20 pc A A st M (nd_le hL) hr
    · split at hr
      · have hr : _ = T := hr
        exact absurd ((congrArg (fun X : cm_S => X.1) hr).trans hT) (fun q => e q.symm)
      · exact hr.elim
/-- a reference read of a field, of a cell -/
theorem lb_g0 {n pc c q : Nat} {ci fi x : Int} {L : List (Nat × Value)} {st : List Value} {M : cm_M} {Z : Nat → cm_S → Prop} (hr : ev_at rows pc = some (49, ci, fi, x, [])) (ht : cm_ft ci.toNat fi.toNat = 3) (hq : M.2.2 c fi.toNat = some q) (h : cm_stop stops J (lb_ ms E P rows stops J Z n) (pc + 3, L, .ref q :: st, M)) : lb_ ms E P rows stops J Z (n + 1) (pc, L, .ref c :: st, M) := by
  rw [← adL_eq pc 3] at h
  unfold lb_
  rw [fz_eq, hr]
  show cm_stop stops J (lb_ ms E P rows stops J Z n) (adL pc 3, L, cm_rd M (cm_ft ci.toNat fi.toNat) c fi.toNat :: st, M)
  rw [ht]
  show cm_stop stops J (lb_ ms E P rows stops J Z n) (adL pc 3, L, cm_rq (M.2.2 c fi.toNat) :: st, M)
  rw [hq]
  exact h
theorem lb_a0 {n pc c q : Nat} {i : Int32} {t : ev_T} {L : List (Nat × Value)} {st : List Value} {M : cm_M} {Z : Nat → cm_S → Prop} (hr : ev_at rows pc = some (55, t)) (hq : M.2.2 c i.toNatClampNeg = some q) (h : cm_stop stops J (lb_ ms E P rows stops J Z n) (pc + 1, L, .ref q :: st, M)) : lb_ ms E P rows stops J Z (n + 1) (pc, L, .int i :: .ref c :: st, M) := by
  rw [← adL_eq pc 1] at h
  unfold lb_
  rw [fz_eq, hr]
  show cm_stop stops J (lb_ ms E P rows stops J Z n) (adL pc 1, L, cm_rq (M.2.2 c i.toNatClampNeg) :: st, M)
  rw [hq]
  exact h
end LBTO2
