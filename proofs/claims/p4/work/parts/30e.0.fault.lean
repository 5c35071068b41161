/-! fault -/
theorem c_fault (M : cm_M) : cm_Lc cm_ms 96 [.ref 0] M (fun v _ => v = some (.int (M.1 0 12))) := by
  refine lb_st0 (mi := mr_96) rfl 20 ?_
  exact rfl
theorem m_fault (M : cm_M) : cm_Lc cm_ms 203 [.ref 124] M (fun v _ => v = some (.int (M.1 124 9))) := by
  refine lb_st0 (mi := mr_203) rfl 20 ?_
  exact rfl
