/-! THE REFERENCE'S READER, beside the class's: words -/
theorem m_isWord {N t : Nat} (ht : t < 40) {C D : cm_M} (h : Rq N C D) : cm_Lc cm_ms 178 [.ref 124, .ref (1001 + 2 * t)] (fm D) (fun v M' => v = some (.int (bi (decide (C.1 2 9 = 0) && wt t C))) ∧ M' = fm D) := by
  obtain ⟨r, h1, h2, h3⟩ := strs_at ht
  refine cm_Lc_im (fn_mIsWord h1 h2 (M := fm D) rfl rfl) (fun v M' q => ⟨?_, q.1⟩)
  rw [q.2]
  congr 3
  have e13 : decide ((fm D).1 124 13 = 0) = decide (C.1 2 9 = 0) := by
    refine decide_eq_decide.mpr ⟨fun hh => fl_0 h.2 hh, fun hh => fl_c h.2 hh⟩
  rw [e13]
  congr 1
  have hr : ev_strs[t]? = some r := by
    have e : (1001 + 2 * t + 1 - 1001) / 2 = t := by omega
    rw [← e]
    exact h1
  have hrep := sn_rep hr
  have hl8 := hrep.1
  unfold wt
  rcases h.1.2.2.2.2.2 with ⟨a, b⟩ | ⟨a, b, ns, c1, c2, c3⟩ | ⟨a, b, -⟩ | ⟨a, b⟩ | ⟨a, b⟩
  · rw [a, show (fm D).1 124 6 = 0 from b]; rfl
  · rw [a, show (fm D).1 124 6 = 2 from b]
    show (true && _) = (true && _)
    rw [Bool.true_and, Bool.true_and]
    rw [show (fm D).1 124 8 = Int32.ofNat ns from c2]
    have hw := wrep_eq c3 hrep
    have hns := c3.1
    have e8 : (Int32.ofNat ns = Int32.ofNat r.2.2.2.length) ↔ ns = r.2.2.2.length := by
      constructor
      · intro hh
        have := congrArg Int32.toInt hh
        rw [fn_toInt (by omega), fn_toInt (by omega)] at this
        omega
      · intro hh
        rw [hh]
    by_cases hn : ns = r.2.2.2.length
    · rw [decide_eq_true (e8.mpr hn), Bool.true_and]
      unfold mw_same
      refine decide_eq_decide.mpr ⟨fun hh => hw.mpr ⟨hn, fun j hj => hh j (by omega)⟩, fun hh k hk => (hw.mp hh).2 k (by omega)⟩
    · rw [decide_eq_false (fun hh => hn (e8.mp hh)), Bool.false_and, decide_eq_false (fun hh => hn (hw.mp hh).1)]
  · rw [a, show (fm D).1 124 6 = 3 from b]; rfl
  · rw [a, show (fm D).1 124 6 = 59 from b]; rfl
  · rw [a, show (fm D).1 124 6 = 1 from b]; rfl
