/-! SIZE -/
theorem f_bitsA {T' : Nat} (hT : T' = 6 ∨ T' = 19) (x : Int32) (M : cm_M) : cm_Lc cm_ms 12 [.ref (T' + 4), .int x] M (fun v M' => M' = M ∧ v = some (.int (bS (M.1 (T' + 4)) (min x.toNatClampNeg 6)))) := by
  rcases hT with rfl | rfl
  · exact cm_Lc_im (f_bits10 x M) (fun v M' z => ⟨z.2, z.1⟩)
  · exact cm_Lc_im (f_bits23 x M) (fun v M' z => ⟨z.2, z.1⟩)
theorem f_bitsM {T' : Nat} (hT : T' = 6 ∨ T' = 19) (x : Int32) (M : cm_M) : cm_Lc cm_ms 12 [.ref (T' + 9), .int x] M (fun v M' => M' = M ∧ v = some (.int (bS (M.1 (T' + 9)) (min x.toNatClampNeg 5)))) := by
  rcases hT with rfl | rfl
  · exact cm_Lc_im (f_bits15 x M) (fun v M' z => ⟨z.2, z.1⟩)
  · exact cm_Lc_im (f_bits28 x M) (fun v M' z => ⟨z.2, z.1⟩)
theorem f_bcM (x : Int32) (M : cm_M) : cm_Lc cm_ms 0 [.int x] M (fun v M' => M' = M ∧ v = some (.int (bcF x))) := cm_Lc_im (f_bc x M) (fun v M' z => ⟨z.2, z.1⟩)
theorem c_size_0 {M : cm_M} {T' me mo : Nat} (hx : CTX T' me mo M) : cm_Lc cm_ms 155 [.ref 0, .int 0] M (fun v _ => v = some (.int (M.1 T' 0))) := by
  refine lb_st0 (mi := mr_155) rfl 400 ?_
  show ((0 : Int32).toInt < 0 ∨ 13 < (0 : Int32).toInt → _) ∧ (∀ (j : Nat) (o : Int), ([71, 79, 87, 95, 103, 111, 129, 147, 155, 163, 174, 182, 190, 198] : List Int)[j]? = some o → (0 : Int32).toInt = 0 + (j : Int) → _)
  refine sw_k 0 71 rfl (by decide) (by decide) ?_
  first | refine lb_to (T := (73, [(0, .ref 0), (1, .int 0)], [.ref 0], M)) 73 [0, 1] rfl rfl rfl (fun J' h => h) (lb_g0 rfl rfl hx.2.1.1 ?_) | refine lb_to0 (T := (73, [(0, .ref 0), (1, .int 0)], [.ref 0], M)) 73 [0, 1] rfl rfl rfl (fun J' h => h) (lb_g0 rfl rfl hx.2.1.1 ?_)
  exact rfl
theorem c_size_1 {M : cm_M} {T' me mo : Nat} (hx : CTX T' me mo M) : cm_Lc cm_ms 155 [.ref 0, .int 1] M (fun v _ => v = some (.int (M.1 T' 1))) := by
  refine lb_st0 (mi := mr_155) rfl 400 ?_
  show ((1 : Int32).toInt < 0 ∨ 13 < (1 : Int32).toInt → _) ∧ (∀ (j : Nat) (o : Int), ([71, 79, 87, 95, 103, 111, 129, 147, 155, 163, 174, 182, 190, 198] : List Int)[j]? = some o → (1 : Int32).toInt = 0 + (j : Int) → _)
  refine sw_k 1 79 rfl (by decide) (by decide) ?_
  first | refine lb_to (T := (81, [(0, .ref 0), (1, .int 1)], [.ref 0], M)) 81 [0, 1] rfl rfl rfl (fun J' h => h) (lb_g0 rfl rfl hx.2.1.1 ?_) | refine lb_to0 (T := (81, [(0, .ref 0), (1, .int 1)], [.ref 0], M)) 81 [0, 1] rfl rfl rfl (fun J' h => h) (lb_g0 rfl rfl hx.2.1.1 ?_)
  exact rfl
theorem c_size_2 {M : cm_M} {T' me mo : Nat} (hx : CTX T' me mo M) : cm_Lc cm_ms 155 [.ref 0, .int 2] M (fun v _ => v = some (.int (M.1 T' 2))) := by
  refine lb_st0 (mi := mr_155) rfl 400 ?_
  show ((2 : Int32).toInt < 0 ∨ 13 < (2 : Int32).toInt → _) ∧ (∀ (j : Nat) (o : Int), ([71, 79, 87, 95, 103, 111, 129, 147, 155, 163, 174, 182, 190, 198] : List Int)[j]? = some o → (2 : Int32).toInt = 0 + (j : Int) → _)
  refine sw_k 2 87 rfl (by decide) (by decide) ?_
  first | refine lb_to (T := (89, [(0, .ref 0), (1, .int 2)], [.ref 0], M)) 89 [0, 1] rfl rfl rfl (fun J' h => h) (lb_g0 rfl rfl hx.2.1.1 ?_) | refine lb_to0 (T := (89, [(0, .ref 0), (1, .int 2)], [.ref 0], M)) 89 [0, 1] rfl rfl rfl (fun J' h => h) (lb_g0 rfl rfl hx.2.1.1 ?_)
  exact rfl
theorem c_size_3 {M : cm_M} {T' me mo : Nat} (hx : CTX T' me mo M) : cm_Lc cm_ms 155 [.ref 0, .int 3] M (fun v _ => v = some (.int (M.1 T' 3))) := by
  refine lb_st0 (mi := mr_155) rfl 400 ?_
  show ((3 : Int32).toInt < 0 ∨ 13 < (3 : Int32).toInt → _) ∧ (∀ (j : Nat) (o : Int), ([71, 79, 87, 95, 103, 111, 129, 147, 155, 163, 174, 182, 190, 198] : List Int)[j]? = some o → (3 : Int32).toInt = 0 + (j : Int) → _)
  refine sw_k 3 95 rfl (by decide) (by decide) ?_
  first | refine lb_to (T := (97, [(0, .ref 0), (1, .int 3)], [.ref 0], M)) 97 [0, 1] rfl rfl rfl (fun J' h => h) (lb_g0 rfl rfl hx.2.1.1 ?_) | refine lb_to0 (T := (97, [(0, .ref 0), (1, .int 3)], [.ref 0], M)) 97 [0, 1] rfl rfl rfl (fun J' h => h) (lb_g0 rfl rfl hx.2.1.1 ?_)
  exact rfl
theorem c_size_4 {M : cm_M} {T' me mo : Nat} (hx : CTX T' me mo M) : cm_Lc cm_ms 155 [.ref 0, .int 4] M (fun v _ => v = some (.int (M.1 T' 9))) := by
  refine lb_st0 (mi := mr_155) rfl 400 ?_
  show ((4 : Int32).toInt < 0 ∨ 13 < (4 : Int32).toInt → _) ∧ (∀ (j : Nat) (o : Int), ([71, 79, 87, 95, 103, 111, 129, 147, 155, 163, 174, 182, 190, 198] : List Int)[j]? = some o → (4 : Int32).toInt = 0 + (j : Int) → _)
  refine sw_k 4 103 rfl (by decide) (by decide) ?_
  first | refine lb_to (T := (105, [(0, .ref 0), (1, .int 4)], [.ref 0], M)) 105 [0, 1] rfl rfl rfl (fun J' h => h) (lb_g0 rfl rfl hx.2.1.1 ?_) | refine lb_to0 (T := (105, [(0, .ref 0), (1, .int 4)], [.ref 0], M)) 105 [0, 1] rfl rfl rfl (fun J' h => h) (lb_g0 rfl rfl hx.2.1.1 ?_)
  exact rfl
theorem c_size_5 {M : cm_M} {T' me mo : Nat} (hx : CTX T' me mo M) : cm_Lc cm_ms 155 [.ref 0, .int 5] M (fun v _ => v = some (.int (bS (M.1 (T' + 4)) (min (M.1 T' 3).toNatClampNeg 6)))) := by
  refine lb_st0 (mi := mr_155) rfl 400 ?_
  show ((5 : Int32).toInt < 0 ∨ 13 < (5 : Int32).toInt → _) ∧ (∀ (j : Nat) (o : Int), ([71, 79, 87, 95, 103, 111, 129, 147, 155, 163, 174, 182, 190, 198] : List Int)[j]? = some o → (5 : Int32).toInt = 0 + (j : Int) → _)
  refine sw_k 5 111 rfl (by decide) (by decide) ?_
  first | refine lb_to (T := (113, [(0, .ref 0), (1, .int 5)], [.ref 0], M)) 113 [0, 1] rfl rfl rfl (fun J' h => h) (lb_g0 rfl rfl hx.2.1.1 ?_) | refine lb_to0 (T := (113, [(0, .ref 0), (1, .int 5)], [.ref 0], M)) 113 [0, 1] rfl rfl rfl (fun J' h => h) (lb_g0 rfl rfl hx.2.1.1 ?_)
  first | refine lb_to (T := (116, [(0, .ref 0), (1, .int 5)], [.ref T'], M)) 116 [0, 1] rfl rfl rfl (fun J' h => h) (lb_g0 rfl rfl (hx.2.2.2.1 7 4 (by decide)) ?_) | refine lb_to0 (T := (116, [(0, .ref 0), (1, .int 5)], [.ref T'], M)) 116 [0, 1] rfl rfl rfl (fun J' h => h) (lb_g0 rfl rfl (hx.2.2.2.1 7 4 (by decide)) ?_)
  first | refine lb_to (T := (120, [(0, .ref 0), (1, .int 5)], [.ref 0, .ref (T' + 4)], M)) 120 [0, 1] rfl rfl rfl (fun J' h => h) (lb_g0 rfl rfl hx.2.1.1 ?_) | refine lb_to0 (T := (120, [(0, .ref 0), (1, .int 5)], [.ref 0, .ref (T' + 4)], M)) 120 [0, 1] rfl rfl rfl (fun J' h => h) (lb_g0 rfl rfl hx.2.1.1 ?_)
  show ∃ R, cm_Lc cm_ms 12 [.ref (T' + 4), .int (M.1 T' 3)] M R ∧ ∀ v M', R v M' → _
  refine ⟨_, f_bitsA hx.1 _ M, ?_⟩
  rintro v M' ⟨hM, rfl⟩
  subst M'
  exact rfl
theorem c_size_6 {M : cm_M} {T' me mo : Nat} (hx : CTX T' me mo M) : cm_Lc cm_ms 155 [.ref 0, .int 6] M (fun v _ => v = some (.int (bS (M.1 (T' + 9)) (min (M.1 T' 9).toNatClampNeg 5)))) := by
  refine lb_st0 (mi := mr_155) rfl 400 ?_
  show ((6 : Int32).toInt < 0 ∨ 13 < (6 : Int32).toInt → _) ∧ (∀ (j : Nat) (o : Int), ([71, 79, 87, 95, 103, 111, 129, 147, 155, 163, 174, 182, 190, 198] : List Int)[j]? = some o → (6 : Int32).toInt = 0 + (j : Int) → _)
  refine sw_k 6 129 rfl (by decide) (by decide) ?_
  first | refine lb_to (T := (131, [(0, .ref 0), (1, .int 6)], [.ref 0], M)) 131 [0, 1] rfl rfl rfl (fun J' h => h) (lb_g0 rfl rfl hx.2.1.1 ?_) | refine lb_to0 (T := (131, [(0, .ref 0), (1, .int 6)], [.ref 0], M)) 131 [0, 1] rfl rfl rfl (fun J' h => h) (lb_g0 rfl rfl hx.2.1.1 ?_)
  first | refine lb_to (T := (134, [(0, .ref 0), (1, .int 6)], [.ref T'], M)) 134 [0, 1] rfl rfl rfl (fun J' h => h) (lb_g0 rfl rfl (hx.2.2.2.1 13 9 (by decide)) ?_) | refine lb_to0 (T := (134, [(0, .ref 0), (1, .int 6)], [.ref T'], M)) 134 [0, 1] rfl rfl rfl (fun J' h => h) (lb_g0 rfl rfl (hx.2.2.2.1 13 9 (by decide)) ?_)
  first | refine lb_to (T := (138, [(0, .ref 0), (1, .int 6)], [.ref 0, .ref (T' + 9)], M)) 138 [0, 1] rfl rfl rfl (fun J' h => h) (lb_g0 rfl rfl hx.2.1.1 ?_) | refine lb_to0 (T := (138, [(0, .ref 0), (1, .int 6)], [.ref 0, .ref (T' + 9)], M)) 138 [0, 1] rfl rfl rfl (fun J' h => h) (lb_g0 rfl rfl hx.2.1.1 ?_)
  show ∃ R, cm_Lc cm_ms 12 [.ref (T' + 9), .int (M.1 T' 9)] M R ∧ ∀ v M', R v M' → _
  refine ⟨_, f_bitsM hx.1 _ M, ?_⟩
  rintro v M' ⟨hM, rfl⟩
  subst M'
  exact rfl
theorem c_size_7 {M : cm_M} {T' me mo : Nat} (hx : CTX T' me mo M) {q : Nat} {qu : Nat → Nat} (hq : QU me (M.1 (T' + 5)) qu) (hs : su qu me = 2 * q) : cm_Lc cm_ms 155 [.ref 0, .int 7] M (fun v _ => v = some (.int (Int32.ofNat q))) := by
  refine lb_st0 (mi := mr_155) rfl 400 ?_
  show ((7 : Int32).toInt < 0 ∨ 13 < (7 : Int32).toInt → _) ∧ (∀ (j : Nat) (o : Int), ([71, 79, 87, 95, 103, 111, 129, 147, 155, 163, 174, 182, 190, 198] : List Int)[j]? = some o → (7 : Int32).toInt = 0 + (j : Int) → _)
  refine sw_k 7 147 rfl (by decide) (by decide) ?_
  first | refine lb_to (T := (149, [(0, .ref 0), (1, .int 7)], [.ref 0], M)) 149 [0, 1] rfl rfl rfl (fun J' h => h) (lb_g0 rfl rfl hx.2.1.1 ?_) | refine lb_to0 (T := (149, [(0, .ref 0), (1, .int 7)], [.ref 0], M)) 149 [0, 1] rfl rfl rfl (fun J' h => h) (lb_g0 rfl rfl hx.2.1.1 ?_)
  show ∃ R, cm_Lc cm_ms 16 [.ref T'] M R ∧ ∀ v M', R v M' → _
  refine ⟨_, c_qtold hx.1 (hx.2.2.2.1 8 5 (by decide)) hx.2.2.2.2.1.1 hx.2.2.2.2.2.1 hq hs, ?_⟩
  rintro v M' ⟨hM, rfl⟩
  subst M'
  exact rfl
theorem c_size_8 {M : cm_M} {T' me mo : Nat} (hx : CTX T' me mo M) : cm_Lc cm_ms 155 [.ref 0, .int 8] M (fun v _ => v = some (.int (M.1 T' 15))) := by
  refine lb_st0 (mi := mr_155) rfl 400 ?_
  show ((8 : Int32).toInt < 0 ∨ 13 < (8 : Int32).toInt → _) ∧ (∀ (j : Nat) (o : Int), ([71, 79, 87, 95, 103, 111, 129, 147, 155, 163, 174, 182, 190, 198] : List Int)[j]? = some o → (8 : Int32).toInt = 0 + (j : Int) → _)
  refine sw_k 8 155 rfl (by decide) (by decide) ?_
  first | refine lb_to (T := (157, [(0, .ref 0), (1, .int 8)], [.ref 0], M)) 157 [0, 1] rfl rfl rfl (fun J' h => h) (lb_g0 rfl rfl hx.2.1.1 ?_) | refine lb_to0 (T := (157, [(0, .ref 0), (1, .int 8)], [.ref 0], M)) 157 [0, 1] rfl rfl rfl (fun J' h => h) (lb_g0 rfl rfl hx.2.1.1 ?_)
  exact rfl
theorem c_size_9 {M : cm_M} {T' me mo : Nat} (hx : CTX T' me mo M) : cm_Lc cm_ms 155 [.ref 0, .int 9] M (fun v _ => v = some (.int (bcF (M.1 T' 18)))) := by
  refine lb_st0 (mi := mr_155) rfl 400 ?_
  show ((9 : Int32).toInt < 0 ∨ 13 < (9 : Int32).toInt → _) ∧ (∀ (j : Nat) (o : Int), ([71, 79, 87, 95, 103, 111, 129, 147, 155, 163, 174, 182, 190, 198] : List Int)[j]? = some o → (9 : Int32).toInt = 0 + (j : Int) → _)
  refine sw_k 9 163 rfl (by decide) (by decide) ?_
  first | refine lb_to (T := (165, [(0, .ref 0), (1, .int 9)], [.ref 0], M)) 165 [0, 1] rfl rfl rfl (fun J' h => h) (lb_g0 rfl rfl hx.2.1.1 ?_) | refine lb_to0 (T := (165, [(0, .ref 0), (1, .int 9)], [.ref 0], M)) 165 [0, 1] rfl rfl rfl (fun J' h => h) (lb_g0 rfl rfl hx.2.1.1 ?_)
  show ∃ R, cm_Lc cm_ms 0 [.int (M.1 T' 18)] M R ∧ ∀ v M', R v M' → _
  refine ⟨_, f_bcM _ M, ?_⟩
  rintro v M' ⟨hM, rfl⟩
  subst M'
  exact rfl
theorem c_size_10 {M : cm_M} {T' me mo : Nat} (hx : CTX T' me mo M) : cm_Lc cm_ms 155 [.ref 0, .int 10] M (fun v _ => v = some (.int (M.1 32 3))) := by
  refine lb_st0 (mi := mr_155) rfl 400 ?_
  show ((10 : Int32).toInt < 0 ∨ 13 < (10 : Int32).toInt → _) ∧ (∀ (j : Nat) (o : Int), ([71, 79, 87, 95, 103, 111, 129, 147, 155, 163, 174, 182, 190, 198] : List Int)[j]? = some o → (10 : Int32).toInt = 0 + (j : Int) → _)
  refine sw_k 10 174 rfl (by decide) (by decide) ?_
  first | refine lb_to (T := (176, [(0, .ref 0), (1, .int 10)], [.ref 0], M)) 176 [0, 1] rfl rfl rfl (fun J' h => h) (lb_g0 rfl rfl hx.2.1.2.1 ?_) | refine lb_to0 (T := (176, [(0, .ref 0), (1, .int 10)], [.ref 0], M)) 176 [0, 1] rfl rfl rfl (fun J' h => h) (lb_g0 rfl rfl hx.2.1.2.1 ?_)
  exact rfl
theorem c_size_11 {M : cm_M} {T' me mo : Nat} (hx : CTX T' me mo M) : cm_Lc cm_ms 155 [.ref 0, .int 11] M (fun v _ => v = some (.int (M.1 38 3))) := by
  refine lb_st0 (mi := mr_155) rfl 400 ?_
  show ((11 : Int32).toInt < 0 ∨ 13 < (11 : Int32).toInt → _) ∧ (∀ (j : Nat) (o : Int), ([71, 79, 87, 95, 103, 111, 129, 147, 155, 163, 174, 182, 190, 198] : List Int)[j]? = some o → (11 : Int32).toInt = 0 + (j : Int) → _)
  refine sw_k 11 182 rfl (by decide) (by decide) ?_
  first | refine lb_to (T := (184, [(0, .ref 0), (1, .int 11)], [.ref 0], M)) 184 [0, 1] rfl rfl rfl (fun J' h => h) (lb_g0 rfl rfl hx.2.1.2.2 ?_) | refine lb_to0 (T := (184, [(0, .ref 0), (1, .int 11)], [.ref 0], M)) 184 [0, 1] rfl rfl rfl (fun J' h => h) (lb_g0 rfl rfl hx.2.1.2.2 ?_)
  exact rfl
theorem c_size_12 {M : cm_M} {T' me mo : Nat} (hx : CTX T' me mo M) : cm_Lc cm_ms 155 [.ref 0, .int 12] M (fun v _ => v = some (.int (M.1 38 4))) := by
  refine lb_st0 (mi := mr_155) rfl 400 ?_
  show ((12 : Int32).toInt < 0 ∨ 13 < (12 : Int32).toInt → _) ∧ (∀ (j : Nat) (o : Int), ([71, 79, 87, 95, 103, 111, 129, 147, 155, 163, 174, 182, 190, 198] : List Int)[j]? = some o → (12 : Int32).toInt = 0 + (j : Int) → _)
  refine sw_k 12 190 rfl (by decide) (by decide) ?_
  first | refine lb_to (T := (192, [(0, .ref 0), (1, .int 12)], [.ref 0], M)) 192 [0, 1] rfl rfl rfl (fun J' h => h) (lb_g0 rfl rfl hx.2.1.2.2 ?_) | refine lb_to0 (T := (192, [(0, .ref 0), (1, .int 12)], [.ref 0], M)) 192 [0, 1] rfl rfl rfl (fun J' h => h) (lb_g0 rfl rfl hx.2.1.2.2 ?_)
  exact rfl
theorem c_size_13 {M : cm_M} {T' me mo : Nat} (hx : CTX T' me mo M) : cm_Lc cm_ms 155 [.ref 0, .int 13] M (fun v _ => v = some (.int (M.1 0 1))) := by
  refine lb_st0 (mi := mr_155) rfl 400 ?_
  show ((13 : Int32).toInt < 0 ∨ 13 < (13 : Int32).toInt → _) ∧ (∀ (j : Nat) (o : Int), ([71, 79, 87, 95, 103, 111, 129, 147, 155, 163, 174, 182, 190, 198] : List Int)[j]? = some o → (13 : Int32).toInt = 0 + (j : Int) → _)
  refine sw_k 13 198 rfl (by decide) (by decide) ?_
  exact rfl
theorem c_size_out {M : cm_M} (x : Int32) (hx : x.toInt < 0 ∨ 13 < x.toInt) : cm_Lc cm_ms 155 [.ref 0, .int x] M (fun v _ => v = some (.int (-1))) := by
  refine lb_st0 (mi := mr_155) rfl 400 ?_
  show (x.toInt < 0 ∨ 13 < x.toInt → _) ∧ (∀ (j : Nat) (o : Int), ([71, 79, 87, 95, 103, 111, 129, 147, 155, 163, 174, 182, 190, 198] : List Int)[j]? = some o → x.toInt = 0 + (j : Int) → _)
  refine sw_d (by decide) hx ?_
  exact rfl
theorem m_size_13 {a : Bool} {me mo : Nat} {M : cm_M} (hx : MTX a me mo M) : cm_Lc cm_ms 295 [.ref 124, .int 13] M (fun v _ => v = some (.int (M.1 124 2))) := by
  refine lb_st0 (mi := mr_295) rfl 400 ?_
  show (ev_cmp 1 13 13 = true → _) ∧ (ev_cmp 1 13 13 = false → _)
  refine ⟨fun h => ?_, fun h => ?_⟩
  · exact absurd h (by decide)
  · exact rfl
theorem m_size_no_0 {a : Bool} {me mo : Nat} {M : cm_M} (hx : MTX a me mo M) (ha : a = false) : cm_Lc cm_ms 295 [.ref 124, .int 0] M (fun v _ => v = some (.int (0))) := by
  refine lb_st0 (mi := mr_295) rfl 400 ?_
  show (ev_cmp 1 0 13 = true → _) ∧ (ev_cmp 1 0 13 = false → _)
  refine ⟨fun h => ?_, fun h => ?_⟩
  · show (ev_cmp 1 (M.1 124 14) 0 = true → _) ∧ (ev_cmp 1 (M.1 124 14) 0 = false → _)
    refine ⟨fun ht => ?_, fun ht => ?_⟩
    · have q := fn_ne ht
      rw [hx.1, ha] at q
      exact absurd rfl q
    · show ∃ R, cm_Lc cm_ms 167 [.int 0, .int 0, .int 12] (cm_wi M 124 0 0) R ∧ ∀ v M', R v M' → _
      have hi := m_in2 0 0 12 (cm_wi M 124 0 0)
      rw [show inB 0 0 12 = true from by decide] at hi
      refine ⟨_, hi, ?_⟩
      rintro v M' ⟨hM, rfl⟩
      subst M'
      show (ev_cmp 0 (bi true) 0 = true → _) ∧ (ev_cmp 0 (bi true) 0 = false → _)
      refine ⟨fun htfc => ?_, fun htfc => ?_⟩
      · exact absurd htfc (by decide)
      · exact rfl
  · exact absurd h (by decide)
theorem m_size_0 {a : Bool} {me mo : Nat} {M : cm_M} (hx : MTX a me mo M) (ha : a = true) : cm_Lc cm_ms 295 [.ref 124, .int 0] M (fun v _ => v = some (.int (M.1 127 0))) := by
  refine lb_st0 (mi := mr_295) rfl 400 ?_
  show (ev_cmp 1 0 13 = true → _) ∧ (ev_cmp 1 0 13 = false → _)
  refine ⟨fun h => ?_, fun h => ?_⟩
  · show (ev_cmp 1 (M.1 124 14) 0 = true → _) ∧ (ev_cmp 1 (M.1 124 14) 0 = false → _)
    refine ⟨fun ht => ?_, fun ht => ?_⟩
    · show ∃ R, cm_Lc cm_ms 167 [.int 0, .int 0, .int 9] (cm_wi M 124 0 0) R ∧ ∀ v M', R v M' → _
      have hi := m_in2 0 0 9 (cm_wi M 124 0 0)
      rw [show inB 0 0 9 = true from by decide] at hi
      refine ⟨_, hi, ?_⟩
      rintro v M' ⟨hM, rfl⟩
      subst M'
      show (ev_cmp 0 (bi true) 0 = true → _) ∧ (ev_cmp 0 (bi true) 0 = false → _)
      refine ⟨fun httc => ?_, fun httc => ?_⟩
      · exact absurd httc (by decide)
      · first | refine lb_to (T := (50, [(0, .ref 124), (1, .int 0)], [.ref 124], cm_wi M 124 0 0)) 50 [0, 1] rfl rfl rfl (fun J' h => h) (lb_g0 rfl rfl hx.2.1.1 ?_) | refine lb_to0 (T := (50, [(0, .ref 124), (1, .int 0)], [.ref 124], cm_wi M 124 0 0)) 50 [0, 1] rfl rfl rfl (fun J' h => h) (lb_g0 rfl rfl hx.2.1.1 ?_)
        exact rfl
    · have q := fn_eq ht
      rw [hx.1, ha] at q
      exact absurd q (by decide)
  · exact absurd h (by decide)
theorem m_size_no_1 {a : Bool} {me mo : Nat} {M : cm_M} (hx : MTX a me mo M) (ha : a = false) : cm_Lc cm_ms 295 [.ref 124, .int 1] M (fun v _ => v = some (.int (0))) := by
  refine lb_st0 (mi := mr_295) rfl 400 ?_
  show (ev_cmp 1 1 13 = true → _) ∧ (ev_cmp 1 1 13 = false → _)
  refine ⟨fun h => ?_, fun h => ?_⟩
  · show (ev_cmp 1 (M.1 124 14) 0 = true → _) ∧ (ev_cmp 1 (M.1 124 14) 0 = false → _)
    refine ⟨fun ht => ?_, fun ht => ?_⟩
    · have q := fn_ne ht
      rw [hx.1, ha] at q
      exact absurd rfl q
    · show ∃ R, cm_Lc cm_ms 167 [.int 1, .int 0, .int 12] (cm_wi M 124 0 0) R ∧ ∀ v M', R v M' → _
      have hi := m_in2 1 0 12 (cm_wi M 124 0 0)
      rw [show inB 1 0 12 = true from by decide] at hi
      refine ⟨_, hi, ?_⟩
      rintro v M' ⟨hM, rfl⟩
      subst M'
      show (ev_cmp 0 (bi true) 0 = true → _) ∧ (ev_cmp 0 (bi true) 0 = false → _)
      refine ⟨fun htfc => ?_, fun htfc => ?_⟩
      · exact absurd htfc (by decide)
      · exact rfl
  · exact absurd h (by decide)
theorem m_size_1 {a : Bool} {me mo : Nat} {M : cm_M} (hx : MTX a me mo M) (ha : a = true) : cm_Lc cm_ms 295 [.ref 124, .int 1] M (fun v _ => v = some (.int (M.1 127 1))) := by
  refine lb_st0 (mi := mr_295) rfl 400 ?_
  show (ev_cmp 1 1 13 = true → _) ∧ (ev_cmp 1 1 13 = false → _)
  refine ⟨fun h => ?_, fun h => ?_⟩
  · show (ev_cmp 1 (M.1 124 14) 0 = true → _) ∧ (ev_cmp 1 (M.1 124 14) 0 = false → _)
    refine ⟨fun ht => ?_, fun ht => ?_⟩
    · show ∃ R, cm_Lc cm_ms 167 [.int 1, .int 0, .int 9] (cm_wi M 124 0 0) R ∧ ∀ v M', R v M' → _
      have hi := m_in2 1 0 9 (cm_wi M 124 0 0)
      rw [show inB 1 0 9 = true from by decide] at hi
      refine ⟨_, hi, ?_⟩
      rintro v M' ⟨hM, rfl⟩
      subst M'
      show (ev_cmp 0 (bi true) 0 = true → _) ∧ (ev_cmp 0 (bi true) 0 = false → _)
      refine ⟨fun httc => ?_, fun httc => ?_⟩
      · exact absurd httc (by decide)
      · first | refine lb_to (T := (50, [(0, .ref 124), (1, .int 1)], [.ref 124], cm_wi M 124 0 0)) 50 [0, 1] rfl rfl rfl (fun J' h => h) (lb_g0 rfl rfl hx.2.1.1 ?_) | refine lb_to0 (T := (50, [(0, .ref 124), (1, .int 1)], [.ref 124], cm_wi M 124 0 0)) 50 [0, 1] rfl rfl rfl (fun J' h => h) (lb_g0 rfl rfl hx.2.1.1 ?_)
        exact rfl
    · have q := fn_eq ht
      rw [hx.1, ha] at q
      exact absurd q (by decide)
  · exact absurd h (by decide)
theorem m_size_no_2 {a : Bool} {me mo : Nat} {M : cm_M} (hx : MTX a me mo M) (ha : a = false) : cm_Lc cm_ms 295 [.ref 124, .int 2] M (fun v _ => v = some (.int (0))) := by
  refine lb_st0 (mi := mr_295) rfl 400 ?_
  show (ev_cmp 1 2 13 = true → _) ∧ (ev_cmp 1 2 13 = false → _)
  refine ⟨fun h => ?_, fun h => ?_⟩
  · show (ev_cmp 1 (M.1 124 14) 0 = true → _) ∧ (ev_cmp 1 (M.1 124 14) 0 = false → _)
    refine ⟨fun ht => ?_, fun ht => ?_⟩
    · have q := fn_ne ht
      rw [hx.1, ha] at q
      exact absurd rfl q
    · show ∃ R, cm_Lc cm_ms 167 [.int 2, .int 0, .int 12] (cm_wi M 124 0 0) R ∧ ∀ v M', R v M' → _
      have hi := m_in2 2 0 12 (cm_wi M 124 0 0)
      rw [show inB 2 0 12 = true from by decide] at hi
      refine ⟨_, hi, ?_⟩
      rintro v M' ⟨hM, rfl⟩
      subst M'
      show (ev_cmp 0 (bi true) 0 = true → _) ∧ (ev_cmp 0 (bi true) 0 = false → _)
      refine ⟨fun htfc => ?_, fun htfc => ?_⟩
      · exact absurd htfc (by decide)
      · exact rfl
  · exact absurd h (by decide)
theorem m_size_2 {a : Bool} {me mo : Nat} {M : cm_M} (hx : MTX a me mo M) (ha : a = true) : cm_Lc cm_ms 295 [.ref 124, .int 2] M (fun v _ => v = some (.int (M.1 127 2))) := by
  refine lb_st0 (mi := mr_295) rfl 400 ?_
  show (ev_cmp 1 2 13 = true → _) ∧ (ev_cmp 1 2 13 = false → _)
  refine ⟨fun h => ?_, fun h => ?_⟩
  · show (ev_cmp 1 (M.1 124 14) 0 = true → _) ∧ (ev_cmp 1 (M.1 124 14) 0 = false → _)
    refine ⟨fun ht => ?_, fun ht => ?_⟩
    · show ∃ R, cm_Lc cm_ms 167 [.int 2, .int 0, .int 9] (cm_wi M 124 0 0) R ∧ ∀ v M', R v M' → _
      have hi := m_in2 2 0 9 (cm_wi M 124 0 0)
      rw [show inB 2 0 9 = true from by decide] at hi
      refine ⟨_, hi, ?_⟩
      rintro v M' ⟨hM, rfl⟩
      subst M'
      show (ev_cmp 0 (bi true) 0 = true → _) ∧ (ev_cmp 0 (bi true) 0 = false → _)
      refine ⟨fun httc => ?_, fun httc => ?_⟩
      · exact absurd httc (by decide)
      · first | refine lb_to (T := (50, [(0, .ref 124), (1, .int 2)], [.ref 124], cm_wi M 124 0 0)) 50 [0, 1] rfl rfl rfl (fun J' h => h) (lb_g0 rfl rfl hx.2.1.1 ?_) | refine lb_to0 (T := (50, [(0, .ref 124), (1, .int 2)], [.ref 124], cm_wi M 124 0 0)) 50 [0, 1] rfl rfl rfl (fun J' h => h) (lb_g0 rfl rfl hx.2.1.1 ?_)
        exact rfl
    · have q := fn_eq ht
      rw [hx.1, ha] at q
      exact absurd q (by decide)
  · exact absurd h (by decide)
theorem m_size_no_3 {a : Bool} {me mo : Nat} {M : cm_M} (hx : MTX a me mo M) (ha : a = false) : cm_Lc cm_ms 295 [.ref 124, .int 3] M (fun v _ => v = some (.int (0))) := by
  refine lb_st0 (mi := mr_295) rfl 400 ?_
  show (ev_cmp 1 3 13 = true → _) ∧ (ev_cmp 1 3 13 = false → _)
  refine ⟨fun h => ?_, fun h => ?_⟩
  · show (ev_cmp 1 (M.1 124 14) 0 = true → _) ∧ (ev_cmp 1 (M.1 124 14) 0 = false → _)
    refine ⟨fun ht => ?_, fun ht => ?_⟩
    · have q := fn_ne ht
      rw [hx.1, ha] at q
      exact absurd rfl q
    · show ∃ R, cm_Lc cm_ms 167 [.int 3, .int 0, .int 12] (cm_wi M 124 0 0) R ∧ ∀ v M', R v M' → _
      have hi := m_in2 3 0 12 (cm_wi M 124 0 0)
      rw [show inB 3 0 12 = true from by decide] at hi
      refine ⟨_, hi, ?_⟩
      rintro v M' ⟨hM, rfl⟩
      subst M'
      show (ev_cmp 0 (bi true) 0 = true → _) ∧ (ev_cmp 0 (bi true) 0 = false → _)
      refine ⟨fun htfc => ?_, fun htfc => ?_⟩
      · exact absurd htfc (by decide)
      · exact rfl
  · exact absurd h (by decide)
theorem m_size_3 {a : Bool} {me mo : Nat} {M : cm_M} (hx : MTX a me mo M) (ha : a = true) : cm_Lc cm_ms 295 [.ref 124, .int 3] M (fun v _ => v = some (.int (M.1 127 3))) := by
  refine lb_st0 (mi := mr_295) rfl 400 ?_
  show (ev_cmp 1 3 13 = true → _) ∧ (ev_cmp 1 3 13 = false → _)
  refine ⟨fun h => ?_, fun h => ?_⟩
  · show (ev_cmp 1 (M.1 124 14) 0 = true → _) ∧ (ev_cmp 1 (M.1 124 14) 0 = false → _)
    refine ⟨fun ht => ?_, fun ht => ?_⟩
    · show ∃ R, cm_Lc cm_ms 167 [.int 3, .int 0, .int 9] (cm_wi M 124 0 0) R ∧ ∀ v M', R v M' → _
      have hi := m_in2 3 0 9 (cm_wi M 124 0 0)
      rw [show inB 3 0 9 = true from by decide] at hi
      refine ⟨_, hi, ?_⟩
      rintro v M' ⟨hM, rfl⟩
      subst M'
      show (ev_cmp 0 (bi true) 0 = true → _) ∧ (ev_cmp 0 (bi true) 0 = false → _)
      refine ⟨fun httc => ?_, fun httc => ?_⟩
      · exact absurd httc (by decide)
      · first | refine lb_to (T := (50, [(0, .ref 124), (1, .int 3)], [.ref 124], cm_wi M 124 0 0)) 50 [0, 1] rfl rfl rfl (fun J' h => h) (lb_g0 rfl rfl hx.2.1.1 ?_) | refine lb_to0 (T := (50, [(0, .ref 124), (1, .int 3)], [.ref 124], cm_wi M 124 0 0)) 50 [0, 1] rfl rfl rfl (fun J' h => h) (lb_g0 rfl rfl hx.2.1.1 ?_)
        exact rfl
    · have q := fn_eq ht
      rw [hx.1, ha] at q
      exact absurd q (by decide)
  · exact absurd h (by decide)
theorem m_size_no_4 {a : Bool} {me mo : Nat} {M : cm_M} (hx : MTX a me mo M) (ha : a = false) : cm_Lc cm_ms 295 [.ref 124, .int 4] M (fun v _ => v = some (.int (0))) := by
  refine lb_st0 (mi := mr_295) rfl 400 ?_
  show (ev_cmp 1 4 13 = true → _) ∧ (ev_cmp 1 4 13 = false → _)
  refine ⟨fun h => ?_, fun h => ?_⟩
  · show (ev_cmp 1 (M.1 124 14) 0 = true → _) ∧ (ev_cmp 1 (M.1 124 14) 0 = false → _)
    refine ⟨fun ht => ?_, fun ht => ?_⟩
    · have q := fn_ne ht
      rw [hx.1, ha] at q
      exact absurd rfl q
    · show ∃ R, cm_Lc cm_ms 167 [.int 4, .int 0, .int 12] (cm_wi M 124 0 0) R ∧ ∀ v M', R v M' → _
      have hi := m_in2 4 0 12 (cm_wi M 124 0 0)
      rw [show inB 4 0 12 = true from by decide] at hi
      refine ⟨_, hi, ?_⟩
      rintro v M' ⟨hM, rfl⟩
      subst M'
      show (ev_cmp 0 (bi true) 0 = true → _) ∧ (ev_cmp 0 (bi true) 0 = false → _)
      refine ⟨fun htfc => ?_, fun htfc => ?_⟩
      · exact absurd htfc (by decide)
      · exact rfl
  · exact absurd h (by decide)
theorem m_size_4 {a : Bool} {me mo : Nat} {M : cm_M} (hx : MTX a me mo M) (ha : a = true) : cm_Lc cm_ms 295 [.ref 124, .int 4] M (fun v _ => v = some (.int (M.1 127 4))) := by
  refine lb_st0 (mi := mr_295) rfl 400 ?_
  show (ev_cmp 1 4 13 = true → _) ∧ (ev_cmp 1 4 13 = false → _)
  refine ⟨fun h => ?_, fun h => ?_⟩
  · show (ev_cmp 1 (M.1 124 14) 0 = true → _) ∧ (ev_cmp 1 (M.1 124 14) 0 = false → _)
    refine ⟨fun ht => ?_, fun ht => ?_⟩
    · show ∃ R, cm_Lc cm_ms 167 [.int 4, .int 0, .int 9] (cm_wi M 124 0 0) R ∧ ∀ v M', R v M' → _
      have hi := m_in2 4 0 9 (cm_wi M 124 0 0)
      rw [show inB 4 0 9 = true from by decide] at hi
      refine ⟨_, hi, ?_⟩
      rintro v M' ⟨hM, rfl⟩
      subst M'
      show (ev_cmp 0 (bi true) 0 = true → _) ∧ (ev_cmp 0 (bi true) 0 = false → _)
      refine ⟨fun httc => ?_, fun httc => ?_⟩
      · exact absurd httc (by decide)
      · first | refine lb_to (T := (50, [(0, .ref 124), (1, .int 4)], [.ref 124], cm_wi M 124 0 0)) 50 [0, 1] rfl rfl rfl (fun J' h => h) (lb_g0 rfl rfl hx.2.1.1 ?_) | refine lb_to0 (T := (50, [(0, .ref 124), (1, .int 4)], [.ref 124], cm_wi M 124 0 0)) 50 [0, 1] rfl rfl rfl (fun J' h => h) (lb_g0 rfl rfl hx.2.1.1 ?_)
        exact rfl
    · have q := fn_eq ht
      rw [hx.1, ha] at q
      exact absurd q (by decide)
  · exact absurd h (by decide)
theorem m_size_no_5 {a : Bool} {me mo : Nat} {M : cm_M} (hx : MTX a me mo M) (ha : a = false) : cm_Lc cm_ms 295 [.ref 124, .int 5] M (fun v _ => v = some (.int (0))) := by
  refine lb_st0 (mi := mr_295) rfl 400 ?_
  show (ev_cmp 1 5 13 = true → _) ∧ (ev_cmp 1 5 13 = false → _)
  refine ⟨fun h => ?_, fun h => ?_⟩
  · show (ev_cmp 1 (M.1 124 14) 0 = true → _) ∧ (ev_cmp 1 (M.1 124 14) 0 = false → _)
    refine ⟨fun ht => ?_, fun ht => ?_⟩
    · have q := fn_ne ht
      rw [hx.1, ha] at q
      exact absurd rfl q
    · show ∃ R, cm_Lc cm_ms 167 [.int 5, .int 0, .int 12] (cm_wi M 124 0 0) R ∧ ∀ v M', R v M' → _
      have hi := m_in2 5 0 12 (cm_wi M 124 0 0)
      rw [show inB 5 0 12 = true from by decide] at hi
      refine ⟨_, hi, ?_⟩
      rintro v M' ⟨hM, rfl⟩
      subst M'
      show (ev_cmp 0 (bi true) 0 = true → _) ∧ (ev_cmp 0 (bi true) 0 = false → _)
      refine ⟨fun htfc => ?_, fun htfc => ?_⟩
      · exact absurd htfc (by decide)
      · exact rfl
  · exact absurd h (by decide)
theorem m_size_5 {a : Bool} {me mo : Nat} {M : cm_M} (hx : MTX a me mo M) (ha : a = true) : cm_Lc cm_ms 295 [.ref 124, .int 5] M (fun v _ => v = some (.int (M.1 127 5))) := by
  refine lb_st0 (mi := mr_295) rfl 400 ?_
  show (ev_cmp 1 5 13 = true → _) ∧ (ev_cmp 1 5 13 = false → _)
  refine ⟨fun h => ?_, fun h => ?_⟩
  · show (ev_cmp 1 (M.1 124 14) 0 = true → _) ∧ (ev_cmp 1 (M.1 124 14) 0 = false → _)
    refine ⟨fun ht => ?_, fun ht => ?_⟩
    · show ∃ R, cm_Lc cm_ms 167 [.int 5, .int 0, .int 9] (cm_wi M 124 0 0) R ∧ ∀ v M', R v M' → _
      have hi := m_in2 5 0 9 (cm_wi M 124 0 0)
      rw [show inB 5 0 9 = true from by decide] at hi
      refine ⟨_, hi, ?_⟩
      rintro v M' ⟨hM, rfl⟩
      subst M'
      show (ev_cmp 0 (bi true) 0 = true → _) ∧ (ev_cmp 0 (bi true) 0 = false → _)
      refine ⟨fun httc => ?_, fun httc => ?_⟩
      · exact absurd httc (by decide)
      · first | refine lb_to (T := (50, [(0, .ref 124), (1, .int 5)], [.ref 124], cm_wi M 124 0 0)) 50 [0, 1] rfl rfl rfl (fun J' h => h) (lb_g0 rfl rfl hx.2.1.1 ?_) | refine lb_to0 (T := (50, [(0, .ref 124), (1, .int 5)], [.ref 124], cm_wi M 124 0 0)) 50 [0, 1] rfl rfl rfl (fun J' h => h) (lb_g0 rfl rfl hx.2.1.1 ?_)
        exact rfl
    · have q := fn_eq ht
      rw [hx.1, ha] at q
      exact absurd q (by decide)
  · exact absurd h (by decide)
theorem m_size_no_6 {a : Bool} {me mo : Nat} {M : cm_M} (hx : MTX a me mo M) (ha : a = false) : cm_Lc cm_ms 295 [.ref 124, .int 6] M (fun v _ => v = some (.int (0))) := by
  refine lb_st0 (mi := mr_295) rfl 400 ?_
  show (ev_cmp 1 6 13 = true → _) ∧ (ev_cmp 1 6 13 = false → _)
  refine ⟨fun h => ?_, fun h => ?_⟩
  · show (ev_cmp 1 (M.1 124 14) 0 = true → _) ∧ (ev_cmp 1 (M.1 124 14) 0 = false → _)
    refine ⟨fun ht => ?_, fun ht => ?_⟩
    · have q := fn_ne ht
      rw [hx.1, ha] at q
      exact absurd rfl q
    · show ∃ R, cm_Lc cm_ms 167 [.int 6, .int 0, .int 12] (cm_wi M 124 0 0) R ∧ ∀ v M', R v M' → _
      have hi := m_in2 6 0 12 (cm_wi M 124 0 0)
      rw [show inB 6 0 12 = true from by decide] at hi
      refine ⟨_, hi, ?_⟩
      rintro v M' ⟨hM, rfl⟩
      subst M'
      show (ev_cmp 0 (bi true) 0 = true → _) ∧ (ev_cmp 0 (bi true) 0 = false → _)
      refine ⟨fun htfc => ?_, fun htfc => ?_⟩
      · exact absurd htfc (by decide)
      · exact rfl
  · exact absurd h (by decide)
theorem m_size_6 {a : Bool} {me mo : Nat} {M : cm_M} (hx : MTX a me mo M) (ha : a = true) : cm_Lc cm_ms 295 [.ref 124, .int 6] M (fun v _ => v = some (.int (M.1 127 6))) := by
  refine lb_st0 (mi := mr_295) rfl 400 ?_
  show (ev_cmp 1 6 13 = true → _) ∧ (ev_cmp 1 6 13 = false → _)
  refine ⟨fun h => ?_, fun h => ?_⟩
  · show (ev_cmp 1 (M.1 124 14) 0 = true → _) ∧ (ev_cmp 1 (M.1 124 14) 0 = false → _)
    refine ⟨fun ht => ?_, fun ht => ?_⟩
    · show ∃ R, cm_Lc cm_ms 167 [.int 6, .int 0, .int 9] (cm_wi M 124 0 0) R ∧ ∀ v M', R v M' → _
      have hi := m_in2 6 0 9 (cm_wi M 124 0 0)
      rw [show inB 6 0 9 = true from by decide] at hi
      refine ⟨_, hi, ?_⟩
      rintro v M' ⟨hM, rfl⟩
      subst M'
      show (ev_cmp 0 (bi true) 0 = true → _) ∧ (ev_cmp 0 (bi true) 0 = false → _)
      refine ⟨fun httc => ?_, fun httc => ?_⟩
      · exact absurd httc (by decide)
      · first | refine lb_to (T := (50, [(0, .ref 124), (1, .int 6)], [.ref 124], cm_wi M 124 0 0)) 50 [0, 1] rfl rfl rfl (fun J' h => h) (lb_g0 rfl rfl hx.2.1.1 ?_) | refine lb_to0 (T := (50, [(0, .ref 124), (1, .int 6)], [.ref 124], cm_wi M 124 0 0)) 50 [0, 1] rfl rfl rfl (fun J' h => h) (lb_g0 rfl rfl hx.2.1.1 ?_)
        exact rfl
    · have q := fn_eq ht
      rw [hx.1, ha] at q
      exact absurd q (by decide)
  · exact absurd h (by decide)
theorem m_size_no_7 {a : Bool} {me mo : Nat} {M : cm_M} (hx : MTX a me mo M) (ha : a = false) : cm_Lc cm_ms 295 [.ref 124, .int 7] M (fun v _ => v = some (.int (0))) := by
  refine lb_st0 (mi := mr_295) rfl 400 ?_
  show (ev_cmp 1 7 13 = true → _) ∧ (ev_cmp 1 7 13 = false → _)
  refine ⟨fun h => ?_, fun h => ?_⟩
  · show (ev_cmp 1 (M.1 124 14) 0 = true → _) ∧ (ev_cmp 1 (M.1 124 14) 0 = false → _)
    refine ⟨fun ht => ?_, fun ht => ?_⟩
    · have q := fn_ne ht
      rw [hx.1, ha] at q
      exact absurd rfl q
    · show ∃ R, cm_Lc cm_ms 167 [.int 7, .int 0, .int 12] (cm_wi M 124 0 0) R ∧ ∀ v M', R v M' → _
      have hi := m_in2 7 0 12 (cm_wi M 124 0 0)
      rw [show inB 7 0 12 = true from by decide] at hi
      refine ⟨_, hi, ?_⟩
      rintro v M' ⟨hM, rfl⟩
      subst M'
      show (ev_cmp 0 (bi true) 0 = true → _) ∧ (ev_cmp 0 (bi true) 0 = false → _)
      refine ⟨fun htfc => ?_, fun htfc => ?_⟩
      · exact absurd htfc (by decide)
      · exact rfl
  · exact absurd h (by decide)
theorem m_size_7 {a : Bool} {me mo : Nat} {M : cm_M} (hx : MTX a me mo M) (ha : a = true) : cm_Lc cm_ms 295 [.ref 124, .int 7] M (fun v _ => v = some (.int (M.1 127 7))) := by
  refine lb_st0 (mi := mr_295) rfl 400 ?_
  show (ev_cmp 1 7 13 = true → _) ∧ (ev_cmp 1 7 13 = false → _)
  refine ⟨fun h => ?_, fun h => ?_⟩
  · show (ev_cmp 1 (M.1 124 14) 0 = true → _) ∧ (ev_cmp 1 (M.1 124 14) 0 = false → _)
    refine ⟨fun ht => ?_, fun ht => ?_⟩
    · show ∃ R, cm_Lc cm_ms 167 [.int 7, .int 0, .int 9] (cm_wi M 124 0 0) R ∧ ∀ v M', R v M' → _
      have hi := m_in2 7 0 9 (cm_wi M 124 0 0)
      rw [show inB 7 0 9 = true from by decide] at hi
      refine ⟨_, hi, ?_⟩
      rintro v M' ⟨hM, rfl⟩
      subst M'
      show (ev_cmp 0 (bi true) 0 = true → _) ∧ (ev_cmp 0 (bi true) 0 = false → _)
      refine ⟨fun httc => ?_, fun httc => ?_⟩
      · exact absurd httc (by decide)
      · first | refine lb_to (T := (50, [(0, .ref 124), (1, .int 7)], [.ref 124], cm_wi M 124 0 0)) 50 [0, 1] rfl rfl rfl (fun J' h => h) (lb_g0 rfl rfl hx.2.1.1 ?_) | refine lb_to0 (T := (50, [(0, .ref 124), (1, .int 7)], [.ref 124], cm_wi M 124 0 0)) 50 [0, 1] rfl rfl rfl (fun J' h => h) (lb_g0 rfl rfl hx.2.1.1 ?_)
        exact rfl
    · have q := fn_eq ht
      rw [hx.1, ha] at q
      exact absurd q (by decide)
  · exact absurd h (by decide)
theorem m_size_no_8 {a : Bool} {me mo : Nat} {M : cm_M} (hx : MTX a me mo M) (ha : a = false) : cm_Lc cm_ms 295 [.ref 124, .int 8] M (fun v _ => v = some (.int (0))) := by
  refine lb_st0 (mi := mr_295) rfl 400 ?_
  show (ev_cmp 1 8 13 = true → _) ∧ (ev_cmp 1 8 13 = false → _)
  refine ⟨fun h => ?_, fun h => ?_⟩
  · show (ev_cmp 1 (M.1 124 14) 0 = true → _) ∧ (ev_cmp 1 (M.1 124 14) 0 = false → _)
    refine ⟨fun ht => ?_, fun ht => ?_⟩
    · have q := fn_ne ht
      rw [hx.1, ha] at q
      exact absurd rfl q
    · show ∃ R, cm_Lc cm_ms 167 [.int 8, .int 0, .int 12] (cm_wi M 124 0 0) R ∧ ∀ v M', R v M' → _
      have hi := m_in2 8 0 12 (cm_wi M 124 0 0)
      rw [show inB 8 0 12 = true from by decide] at hi
      refine ⟨_, hi, ?_⟩
      rintro v M' ⟨hM, rfl⟩
      subst M'
      show (ev_cmp 0 (bi true) 0 = true → _) ∧ (ev_cmp 0 (bi true) 0 = false → _)
      refine ⟨fun htfc => ?_, fun htfc => ?_⟩
      · exact absurd htfc (by decide)
      · exact rfl
  · exact absurd h (by decide)
theorem m_size_8 {a : Bool} {me mo : Nat} {M : cm_M} (hx : MTX a me mo M) (ha : a = true) : cm_Lc cm_ms 295 [.ref 124, .int 8] M (fun v _ => v = some (.int (M.1 127 8))) := by
  refine lb_st0 (mi := mr_295) rfl 400 ?_
  show (ev_cmp 1 8 13 = true → _) ∧ (ev_cmp 1 8 13 = false → _)
  refine ⟨fun h => ?_, fun h => ?_⟩
  · show (ev_cmp 1 (M.1 124 14) 0 = true → _) ∧ (ev_cmp 1 (M.1 124 14) 0 = false → _)
    refine ⟨fun ht => ?_, fun ht => ?_⟩
    · show ∃ R, cm_Lc cm_ms 167 [.int 8, .int 0, .int 9] (cm_wi M 124 0 0) R ∧ ∀ v M', R v M' → _
      have hi := m_in2 8 0 9 (cm_wi M 124 0 0)
      rw [show inB 8 0 9 = true from by decide] at hi
      refine ⟨_, hi, ?_⟩
      rintro v M' ⟨hM, rfl⟩
      subst M'
      show (ev_cmp 0 (bi true) 0 = true → _) ∧ (ev_cmp 0 (bi true) 0 = false → _)
      refine ⟨fun httc => ?_, fun httc => ?_⟩
      · exact absurd httc (by decide)
      · first | refine lb_to (T := (50, [(0, .ref 124), (1, .int 8)], [.ref 124], cm_wi M 124 0 0)) 50 [0, 1] rfl rfl rfl (fun J' h => h) (lb_g0 rfl rfl hx.2.1.1 ?_) | refine lb_to0 (T := (50, [(0, .ref 124), (1, .int 8)], [.ref 124], cm_wi M 124 0 0)) 50 [0, 1] rfl rfl rfl (fun J' h => h) (lb_g0 rfl rfl hx.2.1.1 ?_)
        exact rfl
    · have q := fn_eq ht
      rw [hx.1, ha] at q
      exact absurd q (by decide)
  · exact absurd h (by decide)
theorem m_size_no_9 {a : Bool} {me mo : Nat} {M : cm_M} (hx : MTX a me mo M) (ha : a = false) : cm_Lc cm_ms 295 [.ref 124, .int 9] M (fun v _ => v = some (.int (0))) := by
  refine lb_st0 (mi := mr_295) rfl 400 ?_
  show (ev_cmp 1 9 13 = true → _) ∧ (ev_cmp 1 9 13 = false → _)
  refine ⟨fun h => ?_, fun h => ?_⟩
  · show (ev_cmp 1 (M.1 124 14) 0 = true → _) ∧ (ev_cmp 1 (M.1 124 14) 0 = false → _)
    refine ⟨fun ht => ?_, fun ht => ?_⟩
    · have q := fn_ne ht
      rw [hx.1, ha] at q
      exact absurd rfl q
    · show ∃ R, cm_Lc cm_ms 167 [.int 9, .int 0, .int 12] (cm_wi M 124 0 0) R ∧ ∀ v M', R v M' → _
      have hi := m_in2 9 0 12 (cm_wi M 124 0 0)
      rw [show inB 9 0 12 = true from by decide] at hi
      refine ⟨_, hi, ?_⟩
      rintro v M' ⟨hM, rfl⟩
      subst M'
      show (ev_cmp 0 (bi true) 0 = true → _) ∧ (ev_cmp 0 (bi true) 0 = false → _)
      refine ⟨fun htfc => ?_, fun htfc => ?_⟩
      · exact absurd htfc (by decide)
      · exact rfl
  · exact absurd h (by decide)
theorem m_size_9 {a : Bool} {me mo : Nat} {M : cm_M} (hx : MTX a me mo M) (ha : a = true) : cm_Lc cm_ms 295 [.ref 124, .int 9] M (fun v _ => v = some (.int (M.1 127 9))) := by
  refine lb_st0 (mi := mr_295) rfl 400 ?_
  show (ev_cmp 1 9 13 = true → _) ∧ (ev_cmp 1 9 13 = false → _)
  refine ⟨fun h => ?_, fun h => ?_⟩
  · show (ev_cmp 1 (M.1 124 14) 0 = true → _) ∧ (ev_cmp 1 (M.1 124 14) 0 = false → _)
    refine ⟨fun ht => ?_, fun ht => ?_⟩
    · show ∃ R, cm_Lc cm_ms 167 [.int 9, .int 0, .int 9] (cm_wi M 124 0 0) R ∧ ∀ v M', R v M' → _
      have hi := m_in2 9 0 9 (cm_wi M 124 0 0)
      rw [show inB 9 0 9 = true from by decide] at hi
      refine ⟨_, hi, ?_⟩
      rintro v M' ⟨hM, rfl⟩
      subst M'
      show (ev_cmp 0 (bi true) 0 = true → _) ∧ (ev_cmp 0 (bi true) 0 = false → _)
      refine ⟨fun httc => ?_, fun httc => ?_⟩
      · exact absurd httc (by decide)
      · first | refine lb_to (T := (50, [(0, .ref 124), (1, .int 9)], [.ref 124], cm_wi M 124 0 0)) 50 [0, 1] rfl rfl rfl (fun J' h => h) (lb_g0 rfl rfl hx.2.1.1 ?_) | refine lb_to0 (T := (50, [(0, .ref 124), (1, .int 9)], [.ref 124], cm_wi M 124 0 0)) 50 [0, 1] rfl rfl rfl (fun J' h => h) (lb_g0 rfl rfl hx.2.1.1 ?_)
        exact rfl
    · have q := fn_eq ht
      rw [hx.1, ha] at q
      exact absurd q (by decide)
  · exact absurd h (by decide)
theorem m_size_no_10 {a : Bool} {me mo : Nat} {M : cm_M} (hx : MTX a me mo M) (ha : a = false) : cm_Lc cm_ms 295 [.ref 124, .int 10] M (fun v _ => v = some (.int (0))) := by
  refine lb_st0 (mi := mr_295) rfl 400 ?_
  show (ev_cmp 1 10 13 = true → _) ∧ (ev_cmp 1 10 13 = false → _)
  refine ⟨fun h => ?_, fun h => ?_⟩
  · show (ev_cmp 1 (M.1 124 14) 0 = true → _) ∧ (ev_cmp 1 (M.1 124 14) 0 = false → _)
    refine ⟨fun ht => ?_, fun ht => ?_⟩
    · have q := fn_ne ht
      rw [hx.1, ha] at q
      exact absurd rfl q
    · show ∃ R, cm_Lc cm_ms 167 [.int 10, .int 0, .int 12] (cm_wi M 124 0 0) R ∧ ∀ v M', R v M' → _
      have hi := m_in2 10 0 12 (cm_wi M 124 0 0)
      rw [show inB 10 0 12 = true from by decide] at hi
      refine ⟨_, hi, ?_⟩
      rintro v M' ⟨hM, rfl⟩
      subst M'
      show (ev_cmp 0 (bi true) 0 = true → _) ∧ (ev_cmp 0 (bi true) 0 = false → _)
      refine ⟨fun htfc => ?_, fun htfc => ?_⟩
      · exact absurd htfc (by decide)
      · exact rfl
  · exact absurd h (by decide)
theorem m_size_10 {a : Bool} {me mo : Nat} {M : cm_M} (hx : MTX a me mo M) (ha : a = true) : cm_Lc cm_ms 295 [.ref 124, .int 10] M (fun v _ => v = some (.int (M.1 129 10))) := by
  refine lb_st0 (mi := mr_295) rfl 400 ?_
  show (ev_cmp 1 10 13 = true → _) ∧ (ev_cmp 1 10 13 = false → _)
  refine ⟨fun h => ?_, fun h => ?_⟩
  · show (ev_cmp 1 (M.1 124 14) 0 = true → _) ∧ (ev_cmp 1 (M.1 124 14) 0 = false → _)
    refine ⟨fun ht => ?_, fun ht => ?_⟩
    · show ∃ R, cm_Lc cm_ms 167 [.int 10, .int 0, .int 9] (cm_wi M 124 0 0) R ∧ ∀ v M', R v M' → _
      have hi := m_in2 10 0 9 (cm_wi M 124 0 0)
      rw [show inB 10 0 9 = false from by decide] at hi
      refine ⟨_, hi, ?_⟩
      rintro v M' ⟨hM, rfl⟩
      subst M'
      show (ev_cmp 0 (bi false) 0 = true → _) ∧ (ev_cmp 0 (bi false) 0 = false → _)
      refine ⟨fun httc => ?_, fun httc => ?_⟩
      · show (ev_cmp 1 10 10 = true → _) ∧ (ev_cmp 1 10 10 = false → _)
        refine ⟨fun httct => ?_, fun httct => ?_⟩
        · exact absurd httct (by decide)
        · first | refine lb_to (T := (63, [(0, .ref 124), (1, .int 10)], [.ref 124], cm_wi M 124 0 0)) 63 [0, 1] rfl rfl rfl (fun J' h => h) (lb_g0 rfl rfl hx.2.1.2.1 ?_) | refine lb_to0 (T := (63, [(0, .ref 124), (1, .int 10)], [.ref 124], cm_wi M 124 0 0)) 63 [0, 1] rfl rfl rfl (fun J' h => h) (lb_g0 rfl rfl hx.2.1.2.1 ?_)
          exact rfl
      · exact absurd httc (by decide)
    · have q := fn_eq ht
      rw [hx.1, ha] at q
      exact absurd q (by decide)
  · exact absurd h (by decide)
theorem m_size_no_11 {a : Bool} {me mo : Nat} {M : cm_M} (hx : MTX a me mo M) (ha : a = false) : cm_Lc cm_ms 295 [.ref 124, .int 11] M (fun v _ => v = some (.int (0))) := by
  refine lb_st0 (mi := mr_295) rfl 400 ?_
  show (ev_cmp 1 11 13 = true → _) ∧ (ev_cmp 1 11 13 = false → _)
  refine ⟨fun h => ?_, fun h => ?_⟩
  · show (ev_cmp 1 (M.1 124 14) 0 = true → _) ∧ (ev_cmp 1 (M.1 124 14) 0 = false → _)
    refine ⟨fun ht => ?_, fun ht => ?_⟩
    · have q := fn_ne ht
      rw [hx.1, ha] at q
      exact absurd rfl q
    · show ∃ R, cm_Lc cm_ms 167 [.int 11, .int 0, .int 12] (cm_wi M 124 0 0) R ∧ ∀ v M', R v M' → _
      have hi := m_in2 11 0 12 (cm_wi M 124 0 0)
      rw [show inB 11 0 12 = true from by decide] at hi
      refine ⟨_, hi, ?_⟩
      rintro v M' ⟨hM, rfl⟩
      subst M'
      show (ev_cmp 0 (bi true) 0 = true → _) ∧ (ev_cmp 0 (bi true) 0 = false → _)
      refine ⟨fun htfc => ?_, fun htfc => ?_⟩
      · exact absurd htfc (by decide)
      · exact rfl
  · exact absurd h (by decide)
theorem m_size_11 {a : Bool} {me mo : Nat} {M : cm_M} (hx : MTX a me mo M) (ha : a = true) : cm_Lc cm_ms 295 [.ref 124, .int 11] M (fun v _ => v = some (.int (M.1 124 20))) := by
  refine lb_st0 (mi := mr_295) rfl 400 ?_
  show (ev_cmp 1 11 13 = true → _) ∧ (ev_cmp 1 11 13 = false → _)
  refine ⟨fun h => ?_, fun h => ?_⟩
  · show (ev_cmp 1 (M.1 124 14) 0 = true → _) ∧ (ev_cmp 1 (M.1 124 14) 0 = false → _)
    refine ⟨fun ht => ?_, fun ht => ?_⟩
    · show ∃ R, cm_Lc cm_ms 167 [.int 11, .int 0, .int 9] (cm_wi M 124 0 0) R ∧ ∀ v M', R v M' → _
      have hi := m_in2 11 0 9 (cm_wi M 124 0 0)
      rw [show inB 11 0 9 = false from by decide] at hi
      refine ⟨_, hi, ?_⟩
      rintro v M' ⟨hM, rfl⟩
      subst M'
      show (ev_cmp 0 (bi false) 0 = true → _) ∧ (ev_cmp 0 (bi false) 0 = false → _)
      refine ⟨fun httc => ?_, fun httc => ?_⟩
      · show (ev_cmp 1 11 10 = true → _) ∧ (ev_cmp 1 11 10 = false → _)
        refine ⟨fun httct => ?_, fun httct => ?_⟩
        · show (ev_cmp 1 11 11 = true → _) ∧ (ev_cmp 1 11 11 = false → _)
          refine ⟨fun httctt => ?_, fun httctt => ?_⟩
          · exact absurd httctt (by decide)
          · exact rfl
        · exact absurd httct (by decide)
      · exact absurd httc (by decide)
    · have q := fn_eq ht
      rw [hx.1, ha] at q
      exact absurd q (by decide)
  · exact absurd h (by decide)
theorem m_size_no_12 {a : Bool} {me mo : Nat} {M : cm_M} (hx : MTX a me mo M) (ha : a = false) : cm_Lc cm_ms 295 [.ref 124, .int 12] M (fun v _ => v = some (.int (0))) := by
  refine lb_st0 (mi := mr_295) rfl 400 ?_
  show (ev_cmp 1 12 13 = true → _) ∧ (ev_cmp 1 12 13 = false → _)
  refine ⟨fun h => ?_, fun h => ?_⟩
  · show (ev_cmp 1 (M.1 124 14) 0 = true → _) ∧ (ev_cmp 1 (M.1 124 14) 0 = false → _)
    refine ⟨fun ht => ?_, fun ht => ?_⟩
    · have q := fn_ne ht
      rw [hx.1, ha] at q
      exact absurd rfl q
    · show ∃ R, cm_Lc cm_ms 167 [.int 12, .int 0, .int 12] (cm_wi M 124 0 0) R ∧ ∀ v M', R v M' → _
      have hi := m_in2 12 0 12 (cm_wi M 124 0 0)
      rw [show inB 12 0 12 = true from by decide] at hi
      refine ⟨_, hi, ?_⟩
      rintro v M' ⟨hM, rfl⟩
      subst M'
      show (ev_cmp 0 (bi true) 0 = true → _) ∧ (ev_cmp 0 (bi true) 0 = false → _)
      refine ⟨fun htfc => ?_, fun htfc => ?_⟩
      · exact absurd htfc (by decide)
      · exact rfl
  · exact absurd h (by decide)
theorem m_size_12 {a : Bool} {me mo : Nat} {M : cm_M} (hx : MTX a me mo M) (ha : a = true) : cm_Lc cm_ms 295 [.ref 124, .int 12] M (fun v _ => v = some (.int (M.1 124 21))) := by
  refine lb_st0 (mi := mr_295) rfl 400 ?_
  show (ev_cmp 1 12 13 = true → _) ∧ (ev_cmp 1 12 13 = false → _)
  refine ⟨fun h => ?_, fun h => ?_⟩
  · show (ev_cmp 1 (M.1 124 14) 0 = true → _) ∧ (ev_cmp 1 (M.1 124 14) 0 = false → _)
    refine ⟨fun ht => ?_, fun ht => ?_⟩
    · show ∃ R, cm_Lc cm_ms 167 [.int 12, .int 0, .int 9] (cm_wi M 124 0 0) R ∧ ∀ v M', R v M' → _
      have hi := m_in2 12 0 9 (cm_wi M 124 0 0)
      rw [show inB 12 0 9 = false from by decide] at hi
      refine ⟨_, hi, ?_⟩
      rintro v M' ⟨hM, rfl⟩
      subst M'
      show (ev_cmp 0 (bi false) 0 = true → _) ∧ (ev_cmp 0 (bi false) 0 = false → _)
      refine ⟨fun httc => ?_, fun httc => ?_⟩
      · show (ev_cmp 1 12 10 = true → _) ∧ (ev_cmp 1 12 10 = false → _)
        refine ⟨fun httct => ?_, fun httct => ?_⟩
        · show (ev_cmp 1 12 11 = true → _) ∧ (ev_cmp 1 12 11 = false → _)
          refine ⟨fun httctt => ?_, fun httctt => ?_⟩
          · show (ev_cmp 1 12 12 = true → _) ∧ (ev_cmp 1 12 12 = false → _)
            refine ⟨fun httcttt => ?_, fun httcttt => ?_⟩
            · exact absurd httcttt (by decide)
            · exact rfl
          · exact absurd httctt (by decide)
        · exact absurd httct (by decide)
      · exact absurd httc (by decide)
    · have q := fn_eq ht
      rw [hx.1, ha] at q
      exact absurd q (by decide)
  · exact absurd h (by decide)
theorem m_size_out {a : Bool} {me mo : Nat} {M : cm_M} (hx : MTX a me mo M) (x : Int32) (hy : x.toInt < 0 ∨ 13 < x.toInt) : cm_Lc cm_ms 295 [.ref 124, .int x] M (fun v _ => v = some (.int (-1))) := by
  refine lb_st0 (mi := mr_295) rfl 400 ?_
  show (ev_cmp 1 x 13 = true → _) ∧ (ev_cmp 1 x 13 = false → _)
  refine ⟨fun h => ?_, fun h => ?_⟩
  · show (ev_cmp 1 (M.1 124 14) 0 = true → _) ∧ (ev_cmp 1 (M.1 124 14) 0 = false → _)
    refine ⟨fun ht => ?_, fun ht => ?_⟩
    · show ∃ R, cm_Lc cm_ms 167 [.int x, .int 0, .int 9] (cm_wi M 124 0 0) R ∧ ∀ v M', R v M' → _
      have hi := m_in2 x 0 9 (cm_wi M 124 0 0)
      rw [show inB x 0 9 = false from by
        unfold inB
        rw [show (0 : Int32).toInt = 0 by decide, show (9 : Int32).toInt = 9 by decide]
        rcases hy with q | q
        · rw [decide_eq_false (show ¬ (0 : Int) ≤ x.toInt by omega), Bool.false_and]
        · rw [decide_eq_false (show ¬ x.toInt ≤ 9 by omega), Bool.and_false]] at hi
      refine ⟨_, hi, ?_⟩
      rintro v M' ⟨hM, rfl⟩
      subst M'
      show (ev_cmp 0 (bi false) 0 = true → _) ∧ (ev_cmp 0 (bi false) 0 = false → _)
      refine ⟨fun httc => ?_, fun httc => ?_⟩
      · show (ev_cmp 1 x 10 = true → _) ∧ (ev_cmp 1 x 10 = false → _)
        refine ⟨fun httct => ?_, fun httct => ?_⟩
        · show (ev_cmp 1 x 11 = true → _) ∧ (ev_cmp 1 x 11 = false → _)
          refine ⟨fun httctt => ?_, fun httctt => ?_⟩
          · show (ev_cmp 1 x 12 = true → _) ∧ (ev_cmp 1 x 12 = false → _)
            refine ⟨fun httcttt => ?_, fun httcttt => ?_⟩
            · exact rfl
            · have q := fn_eq httcttt
              rw [q, show (12 : Int32).toInt = 12 by decide] at hy
              omega
          · have q := fn_eq httctt
            rw [q, show (11 : Int32).toInt = 11 by decide] at hy
            omega
        · have q := fn_eq httct
          rw [q, show (10 : Int32).toInt = 10 by decide] at hy
          omega
      · exact absurd httc (by decide)
    · show ∃ R, cm_Lc cm_ms 167 [.int x, .int 0, .int 12] (cm_wi M 124 0 0) R ∧ ∀ v M', R v M' → _
      have hi := m_in2 x 0 12 (cm_wi M 124 0 0)
      rw [show inB x 0 12 = false from by
        unfold inB
        rw [show (0 : Int32).toInt = 0 by decide, show (12 : Int32).toInt = 12 by decide]
        rcases hy with q | q
        · rw [decide_eq_false (show ¬ (0 : Int) ≤ x.toInt by omega), Bool.false_and]
        · rw [decide_eq_false (show ¬ x.toInt ≤ 12 by omega), Bool.and_false]] at hi
      refine ⟨_, hi, ?_⟩
      rintro v M' ⟨hM, rfl⟩
      subst M'
      show (ev_cmp 0 (bi false) 0 = true → _) ∧ (ev_cmp 0 (bi false) 0 = false → _)
      refine ⟨fun htfc => ?_, fun htfc => ?_⟩
      · exact rfl
      · exact absurd htfc (by decide)
  · have q := fn_eq h
    rw [q, show (13 : Int32).toInt = 13 by decide] at hy
    omega
