/-! CM: PURE CALLS: what a method does, without the machine -/
/-- one step; what must hold behind it -/
def cm_F (ms : List ev_MI) (C : cm_C) (E : cm_E) (P : ev_P) (rows : List (Nat × ev_Row)) (Z : Nat → cm_S → Prop) (X : cm_S → Prop) (S : cm_S) : Prop := match ev_at rows S.1 with
  | none => False
  | some r =>
    if 210 ≤ r.1 then Z r.1 S
    else if 200 ≤ r.1 then cm_inv ms C r S X
    else (match cm_ops[r.1]? with
      | some o => o.2 E P r.2 S X
      | none => False)
/-- it comes to an end with Z: the least such -/
def cm_lf (ms : List ev_MI) (C : cm_C) (E : cm_E) (P : ev_P) (rows : List (Nat × ev_Row)) (Z : Nat → cm_S → Prop) (S : cm_S) : Prop := ∀ X : cm_S → Prop, (∀ S, cm_F ms C E P rows Z X S → X S) → X S
/-- calls grow with what is wanted -/
def cm_CM (C1 C2 : cm_C) : Prop := ∀ (k : Nat) (as : List Value) (M : cm_M) (P1 P2 : cm_K), (∀ v M', P1 v M' → P2 v M') → C1 k as M P1 → C2 k as M P2
section PURE
variable {ms : List ev_MI} {C C1 C2 : cm_C} {E : cm_E} {P : ev_P} {rows : List (Nat × ev_Row)} {Z Z1 Z2 : Nat → cm_S → Prop} {X X1 X2 : cm_S → Prop}
theorem cm_inv_im2 {r : ev_Row} {S : cm_S} (hC : cm_CM C1 C2) (hX : ∀ S, X1 S → X2 S) (h : cm_inv ms C1 r S X1) : cm_inv ms C2 r S X2 := by
  unfold cm_inv at h ⊢
  split at h
  · split at h
    · exact ⟨h.1, h.2.1, h.2.2.1, hC _ _ _ _ _ (fun v M' q => hX _ q) h.2.2.2⟩
    · exact h
  · exact h
theorem cm_F_im {S : cm_S} (hC : cm_CM C1 C2) (hZ : ∀ op S, Z1 op S → Z2 op S) (hX : ∀ S, X1 S → X2 S) (h : cm_F ms C1 E P rows Z1 X1 S) : cm_F ms C2 E P rows Z2 X2 S := by
  unfold cm_F at h ⊢
  split at h
  · exact h
  · split at h
    · rename_i h1
      rw [if_pos h1]
      exact hZ _ _ h
    · rename_i h1
      rw [if_neg h1]
      split at h
      · rename_i h2
        rw [if_pos h2]
        exact cm_inv_im2 hC hX h
      · rename_i h2
        rw [if_neg h2]
        split at h
        · rename_i o ho
          exact cm_ops_im o (List.mem_of_getElem? ho) _ _ _ _ _ _ h hX
        · exact h
theorem cm_lf_F {S : cm_S} (hC : cm_CM C C) (h : cm_F ms C E P rows Z (cm_lf ms C E P rows Z) S) : cm_lf ms C E P rows Z S := fun X hX => hX S (cm_F_im hC (fun _ _ h => h) (fun S h => h X hX) h)
theorem cm_lf_im {S : cm_S} (hC : cm_CM C1 C2) (hC2 : cm_CM C2 C2) (hZ : ∀ op S, Z1 op S → Z2 op S) (h : cm_lf ms C1 E P rows Z1 S) : cm_lf ms C2 E P rows Z2 S :=
  h (cm_lf ms C2 E P rows Z2) (fun S hS => cm_lf_F hC2 (cm_F_im hC hZ (fun _ h => h) hS))
/-- .. as it stands, and what can be said of its step -/
theorem cm_lf_un {S : cm_S} (hC : cm_CM C C) (h : cm_lf ms C E P rows Z S) : cm_F ms C E P rows Z (cm_lf ms C E P rows Z) S :=
  h (cm_F ms C E P rows Z (cm_lf ms C E P rows Z)) (fun S hS => cm_F_im hC (fun _ _ h => h) (fun S h => cm_lf_F hC h) hS)
/-- Z doesn't look at the locals -/
def cm_ZL (Z : Nat → cm_S → Prop) : Prop := ∀ op pc L L' st M, Z op (pc, L, st, M) → Z op (pc, L', st, M)
theorem cm_lf_le (hC : cm_CM C C) (hZ : cm_ZL Z) {pc : Nat} {L' L : List (Nat × Value)} {st : List Value} {M : cm_M} (hL : cm_le L' L) (h : cm_lf ms C E P rows Z (pc, L', st, M)) : cm_lf ms C E P rows Z (pc, L, st, M) := by
  refine h (fun S => ∀ B, cm_le S.2.1 B → cm_lf ms C E P rows Z (S.1, B, S.2.2)) ?_ L hL
  intro S hS B hB
  obtain ⟨pc, A, st, M⟩ := S
  refine cm_lf_F hC ?_
  unfold cm_F at hS ⊢
  dsimp only at hS hB ⊢
  split at hS
  · exact hS
  · split at hS
    · rename_i h1
      rw [if_pos h1]
      exact hZ _ _ _ _ _ _ hS
    · rename_i h1
      rw [if_neg h1]
      split at hS
      · rename_i h2
        rw [if_pos h2]
        unfold cm_inv at hS ⊢
        dsimp only at hS ⊢
        split at hS
        · split at hS
          · exact ⟨hS.1, hS.2.1, hS.2.2.1, hC _ _ _ _ _ (fun v M' q => q B hB) hS.2.2.2⟩
          · exact hS
        · exact hS
      · rename_i h2
        rw [if_neg h2]
        split at hS
        · rename_i o ho
          exact cl_ops o (List.mem_of_getElem? ho) _ _ _ _ _ _ _ _ _ _ hB (fun pc2 A B st2 M2 hAB q => q B hAB) hS
        · exact hS
/-- runs with stops -/
theorem cm_pick_look : ∀ {L L' : List (Nat × Value)} {live : List Nat}, cm_pick L live = some L' → ∀ q ∈ L', cm_look L q.1 = some q.2
  | L, L', [], h => by
    cases h
    exact fun q hq => nomatch hq
  | L, L', i :: r, h => by
    unfold cm_pick at h
    split at h
    · rename_i v l h1 h2
      cases h
      intro q hq
      rcases List.mem_cons.mp hq with rfl | hq
      · exact h1
      · exact cm_pick_look h2 q hq
    · cases h
theorem cm_look_of {L' : List (Nat × Value)} {i : Nat} : ∀ {L : List (Nat × Value)}, (∀ q ∈ L', cm_look L q.1 = some q.2) → ∀ v, (i, v) ∈ L' → cm_look L' i = some v := by
  intro L h v hm
  induction L' with
  | nil => cases hm
  | cons q L' ih =>
    obtain ⟨a, b⟩ := q
    unfold cm_look
    by_cases ha : a = i
    · rw [if_pos ha]
      have e1 := h _ List.mem_cons_self
      have e2 := h _ hm
      dsimp only at e1 e2
      rw [ha, e2] at e1
      exact e1.symm
    · rw [if_neg ha]
      rcases List.mem_cons.mp hm with e | hm
      · cases e
        exact absurd rfl ha
      · exact ih (fun q hq => h q (List.mem_cons_of_mem _ hq)) hm
theorem cm_le_of {L' L : List (Nat × Value)} (h : ∀ q ∈ L', cm_look L q.1 = some q.2) : cm_le L' L := ⟨fun q hq => cm_look_of h q.2 hq, fun i v hl => h _ (cm_look_mem hl)⟩
theorem cm_wp_lf (hC : cm_CM C C) (hZ : cm_ZL Z) {stops : List (Nat × List Nat)} {J : cm_S → Prop} (hJ : ∀ S, J S → cm_lf ms C E P rows Z S) : ∀ (n : Nat) (S : cm_S), cm_wp ms C E P rows stops J Z n S → cm_lf ms C E P rows Z S
  | 0, S, h => h.elim
  | n + 1, S, h => by
    refine cm_lf_F hC (cm_F_im (X1 := cm_stop stops J (cm_wp ms C E P rows stops J Z n)) hC (fun _ _ h => h) (fun S' h' => ?_) h)
    unfold cm_stop at h'
    split at h'
    · exact cm_wp_lf hC hZ hJ n S' h'
    · split at h'
      · rename_i L' hL'
        obtain ⟨pc, L, st, M⟩ := S'
        exact cm_lf_le hC hZ (cm_le_of (cm_pick_look hL')) (hJ _ h')
      · exact h'.elim
theorem cm_wp_im {stops : List (Nat × List Nat)} {J1 J2 : cm_S → Prop} (hC : cm_CM C1 C2) (hJ : ∀ S, J1 S → J2 S) (hZ : ∀ op S, Z1 op S → Z2 op S) : ∀ (n : Nat) (S : cm_S), cm_wp ms C1 E P rows stops J1 Z1 n S → cm_wp ms C2 E P rows stops J2 Z2 n S
  | 0, S, h => h
  | n + 1, S, h => by
    refine cm_F_im (X1 := cm_stop stops J1 (cm_wp ms C1 E P rows stops J1 Z1 n)) (X2 := cm_stop stops J2 (cm_wp ms C2 E P rows stops J2 Z2 n)) hC hZ (fun S' h' => ?_) h
    unfold cm_stop at h' ⊢
    split at h'
    · exact cm_wp_im hC hJ hZ n S' h'
    · split at h'
      · exact hJ _ h'
      · exact h'
end PURE
theorem cm_ret_im {ret : Option FieldType} {P1 P2 : cm_K} (h : ∀ v M, P1 v M → P2 v M) {op : Nat} {S : cm_S} (hr : cm_ret ret P1 op S) : cm_ret ret P2 op S := by
  unfold cm_ret at hr ⊢
  split at hr
  · exact h _ _ hr
  · exact ⟨hr.1, h _ _ hr.2⟩
  · exact ⟨hr.1, hr.2.1, h _ _ hr.2.2⟩
  · exact ⟨hr.1, h _ _ hr.2⟩
  · exact h _ _ hr
  · exact h _ _ hr
  · exact h _ _ hr
  · exact hr
theorem cm_ret_L {ret : Option FieldType} {Post : cm_K} : cm_ZL (cm_ret ret Post) := fun op pc L L' st M h => h
/-- a call, at a depth -/
def cm_Call (ms : List ev_MI) : Nat → cm_C
  | 0 => fun _ _ _ _ => False
  | d + 1 => fun k as M Post => ∃ mi, ms[k]? = some mi ∧ cm_cs as ≤ mi.2.2.1 ∧ cm_lf ms (cm_Call ms d) none (cm_P mi) mi.2.2.2.2.2.2 (cm_ret mi.2.2.2.1 Post) (0, cm_args 0 as, [], M)
theorem cm_Call_M (ms : List ev_MI) : ∀ (d e : Nat), d ≤ e → cm_CM (cm_Call ms d) (cm_Call ms e)
  | 0, e, _ => fun k as M P1 P2 hp h => h.elim
  | d + 1, 0, h => absurd h (by omega)
  | d + 1, e + 1, hde => fun k as M P1 P2 hp h => by
    obtain ⟨mi, h1, h2, h3⟩ := h
    exact ⟨mi, h1, h2, cm_lf_im (cm_Call_M ms d e (by omega)) (cm_Call_M ms e e (Nat.le_refl _)) (fun _ _ q => cm_ret_im hp q) h3⟩
theorem cm_Call_up {ms : List ev_MI} {d e k : Nat} {as : List Value} {M : cm_M} {Post Post' : cm_K} (h : cm_Call ms d k as M Post) (hd : d ≤ e) (hp : ∀ v M', Post v M' → Post' v M') : cm_Call ms e k as M Post' := cm_Call_M ms d e hd k as M Post Post' hp h
/-- from this state the method ends as wanted -/
def cm_At (ms : List ev_MI) (d : Nat) (mi : ev_MI) (Post : cm_K) (S : cm_S) : Prop := cm_lf ms (cm_Call ms d) none (cm_P mi) mi.2.2.2.2.2.2 (cm_ret mi.2.2.2.1 Post) S
theorem cm_At_run {ms : List ev_MI} (_ : ∀ (k : Nat) (mi : ev_MI), ms[k]? = some mi → cm_MOK ms mi) {d k : Nat} {mi : ev_MI} (_ : ms[k]? = some mi) {Post : cm_K} {stops : List (Nat × List Nat)} {J : cm_S → Prop} (hJ : ∀ S, J S → cm_At ms d mi Post S) {n : Nat} {S : cm_S} (h : cm_wp ms (cm_Call ms d) none (cm_P mi) mi.2.2.2.2.2.2 stops J (cm_ret mi.2.2.2.1 Post) n S) : cm_At ms d mi Post S :=
  cm_wp_lf (cm_Call_M ms d d (Nat.le_refl _)) cm_ret_L hJ n S h
theorem cm_Call_of {ms : List ev_MI} (_ : ∀ (k : Nat) (mi : ev_MI), ms[k]? = some mi → cm_MOK ms mi) {d k : Nat} {mi : ev_MI} (hk : ms[k]? = some mi) {as : List Value} {M : cm_M} {Post : cm_K} (hcs : cm_cs as ≤ mi.2.2.1) (h : cm_At ms d mi Post (0, cm_args 0 as, [], M)) : cm_Call ms (d + 1) k as M Post := ⟨mi, hk, hcs, h⟩
theorem cm_At_sub {ms : List ev_MI} {d : Nat} {mi : ev_MI} {Post : cm_K} {pc : Nat} {L L' : List (Nat × Value)} {st : List Value} {M : cm_M} (h : cm_At ms d mi Post (pc, L', st, M)) (hL : ∀ q ∈ L', cm_look L q.1 = some q.2) : cm_At ms d mi Post (pc, L, st, M) := cm_lf_le (cm_Call_M ms d d (Nat.le_refl _)) cm_ret_L (cm_le_of hL) h
theorem cm_At_im {ms : List ev_MI} {d : Nat} {mi : ev_MI} {P1 P2 : cm_K} {S : cm_S} (h : cm_At ms d mi P1 S) (hp : ∀ v M, P1 v M → P2 v M) : cm_At ms d mi P2 S := cm_lf_im (cm_Call_M ms d d (Nat.le_refl _)) (cm_Call_M ms d d (Nat.le_refl _)) (fun _ _ q => cm_ret_im hp q) h
/-! .. and the machine does it -/
theorem cm_Call_M0 (ms : List ev_MI) (d : Nat) : cm_CM (cm_Call0 ms d) (cm_Call0 ms d) := fun k as M P1 P2 hp h => cm_Call_up0 h (Nat.le_refl _) hp
section REAL
variable {p : Program} {l : Launch} {e : Env} {R : Room} {s : State} {m : MethodId} {args : Array Value} {below : List Frame} {meth : Method} {c : Code} {cc : ByteArray} {Q : State → Prop} {D : va_G} {A : Nat → Prop} {adr : Nat → Nat} {ce sl d : Nat} {E : cm_E} {P : ev_P} {ms : List ev_MI}
theorem cm_F_ok (hMS : ∀ (k : Nat) (mi : ev_MI), ms[k]? = some mi → cm_MOK ms mi) (hRm : d + 1 ≤ R.frames ∧ 40 * (d + 1) ≤ R.locals) (X : cm_X p R s m args c cc P.2.2.2.2.1 P.2.2.2.1 D A adr ce sl E) {rows : List (Nat × ev_Row)} (hrows : ∀ q ∈ rows, cm_RowOK ms P cc q) {Z : Nat → cm_S → Prop} {Y : cm_S → Prop}
    (hY : ∀ S, Y S → cm_Go p l e R s m args below meth c Q P.2.2.2.2.1 D A adr ce sl S) (hZ : ∀ (r : ev_Row) (S : cm_S), ev_at rows S.1 = some r → 210 ≤ r.1 → Z r.1 S → cm_Go p l e R s m args below meth c Q P.2.2.2.2.1 D A adr ce sl S) {S : cm_S} (h : cm_F ms (cm_Call0 ms d) E P rows Z Y S) : cm_Go p l e R s m args below meth c Q P.2.2.2.2.1 D A adr ce sl S := by
  unfold cm_F at h
  split at h
  · exact h.elim
  · rename_i r hr
    have hq := hrows _ (ev_at_mem hr)
    split at h
    · rename_i h210
      exact hZ r S hr h210 h
    · rename_i h210
      split at h
      · rename_i h200
        exact cm_inv_ok hMS hRm X hq h200 (by dsimp only; omega) rfl (cm_inv_im (fun k as M P1 P2 hp hc => cm_Call_up0 hc (Nat.le_refl _) hp) h hY)
      · split at h
        · rename_i o ho
          obtain ⟨i, k, cs, hi, hd, hw⟩ := hq
          rw [cm_rowI_op (by dsimp only; omega)] at hi
          dsimp only at hi hd
          rw [ho] at hi
          exact cm_ops_ok o (List.mem_of_getElem? ho) p l e R s m args below meth c cc Q D A adr ce sl E P r.2 S i k cs X hi hd hw (cm_ops_im o (List.mem_of_getElem? ho) E P r.2 S _ _ h hY)
        · exact h.elim
end REAL
theorem cm_real {ms : List ev_MI} (hMS : ∀ (k : Nat) (mi : ev_MI), ms[k]? = some mi → cm_MOK ms mi) : ∀ (d : Nat), cm_CM (cm_Call ms d) (cm_Call0 ms d)
  | 0 => fun k as M P1 P2 hp h => h.elim
  | d + 1 => fun k as M P1 P2 hp h => by
    obtain ⟨mi, h1, h2, h3⟩ := h
    refine cm_Call_of0 hMS h1 h2 ?_
    have h4 := cm_lf_im (cm_real hMS d) (cm_Call_M0 ms d) (fun _ _ q => cm_ret_im hp q) h3
    refine h4 (cm_At0 d mi P2) (fun S hS => ?_)
    intro p l e s m args below meth c D adr ws0 X hrt hlocks
    exact cm_F_ok (P := cm_P mi) hMS ⟨Nat.le_refl _, Nat.le_refl _⟩ X (hMS k mi h1).2.2.2.2 (fun S hS => hS p l e s m args below meth c D adr ws0 X hrt hlocks) (fun r S hr _ hZ => cm_ret_ok (hMS k mi h1) hr hZ p l e s m args below meth c D adr ws0 X hrt hlocks) hS
theorem cm_wp_real {ms : List ev_MI} (hMS : ∀ (k : Nat) (mi : ev_MI), ms[k]? = some mi → cm_MOK ms mi) {d : Nat} {E : cm_E} {P : ev_P} {rows : List (Nat × ev_Row)} {Z : Nat → cm_S → Prop} {stops : List (Nat × List Nat)} {J : cm_S → Prop} {n : Nat} {S : cm_S} (h : cm_wp ms (cm_Call ms d) E P rows stops J Z n S) : cm_wp ms (cm_Call0 ms d) E P rows stops J Z n S := cm_wp_im (cm_real hMS d) (fun _ h => h) (fun _ _ h => h) n S h
