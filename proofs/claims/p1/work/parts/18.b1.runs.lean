/-! the runs of the calls -/
set_option maxRecDepth 1000000 in
theorem run_c39 : law_all law_b (ev_run ev_ms (ev_exec ev_ms 12) (law_P 7) law_b [] 5000 law_c39) = true := by decide +kernel
