theorem m_hairy {M : cm_M} {me : Nat} (h15 : M.2.2 124 15 = some 127) (h17 : M.2.2 124 17 = some 129) (h3 : M.1 127 3 = Int32.ofNat me) (hme : me ≤ 6) : cm_Lc cm_ms 228 [.ref 124] M (fun v M' => M' = M ∧ v = some (.int (Int32.ofNat (2 ^ me - 1) &&& (orF (fun m => bdB (M.1 127 1) (M.1 129 m)) me ^^^ -1)))) := by
  refine lb_st0 (mi := mr_228) rfl 400 ?_
  show ∃ R, cm_Lc cm_ms 208 [.ref 124] M R ∧ ∀ v M', R v M' → _
  refine ⟨_, m_allMen h15 h3 hme, ?_⟩
  rintro v M' ⟨hM, rfl⟩
  subst M'
  first | refine lb_to (T := (6, [(0, .ref 124)], [.ref 124, .ref 124, .int (Int32.ofNat (2 ^ me - 1))], M)) 6 [0] rfl rfl rfl (fun J' h => h) (lb_g0 rfl rfl h17 ?_) | refine lb_to0 (T := (6, [(0, .ref 124)], [.ref 124, .ref 124, .int (Int32.ofNat (2 ^ me - 1))], M)) 6 [0] rfl rfl rfl (fun J' h => h) (lb_g0 rfl rfl h17 ?_)
  show ∃ R, cm_Lc cm_ms 210 [.ref 124, .ref 129] M R ∧ ∀ v M', R v M' → _
  refine ⟨_, m_baldOf (d := 129) h15 h3 hme, ?_⟩
  rintro v M' ⟨hM, rfl⟩
  subst M'
  exact ⟨rfl, rfl⟩

