/-! the runs of the calls -/
set_option maxRecDepth 1000000 in
theorem run_c0 : law_all law_b (ev_run ev_ms (ev_exec ev_ms 12) (law_P 7) law_b [] 5000 law_c0) = true := by decide +kernel
set_option maxRecDepth 1000000 in
theorem run_c2 : law_all law_b (ev_run ev_ms (ev_exec ev_ms 12) (law_P 7) law_b [] 5000 law_c2) = true := by decide +kernel
set_option maxRecDepth 1000000 in
theorem run_c4 : law_all law_b (ev_run ev_ms (ev_exec ev_ms 12) (law_P 7) law_b [] 5000 law_c4) = true := by decide +kernel
set_option maxRecDepth 1000000 in
theorem run_c7 : law_all law_b (ev_run ev_ms (ev_exec ev_ms 12) (law_P 7) law_b [] 5000 law_c7) = true := by decide +kernel
set_option maxRecDepth 1000000 in
theorem run_c8 : law_all law_b (ev_run ev_ms (ev_exec ev_ms 12) (law_P 7) law_b [] 5000 law_c8) = true := by decide +kernel
set_option maxRecDepth 1000000 in
theorem run_c11 : law_all law_b (ev_run ev_ms (ev_exec ev_ms 12) (law_P 7) law_b [] 5000 law_c11) = true := by decide +kernel
set_option maxRecDepth 1000000 in
theorem run_c13 : law_all law_b (ev_run ev_ms (ev_exec ev_ms 12) (law_P 7) law_b [] 5000 law_c13) = true := by decide +kernel
set_option maxRecDepth 1000000 in
theorem run_c15 : law_all law_b (ev_run ev_ms (ev_exec ev_ms 12) (law_P 7) law_b [] 5000 law_c15) = true := by decide +kernel
set_option maxRecDepth 1000000 in
theorem run_c16 : law_all law_b (ev_run ev_ms (ev_exec ev_ms 12) (law_P 7) law_b [] 5000 law_c16) = true := by decide +kernel
set_option maxRecDepth 1000000 in
theorem run_c19 : law_all law_b (ev_run ev_ms (ev_exec ev_ms 12) (law_P 7) law_b [] 5000 law_c19) = true := by decide +kernel
set_option maxRecDepth 1000000 in
theorem run_c21 : law_all law_b (ev_run ev_ms (ev_exec ev_ms 12) (law_P 7) law_b [] 5000 law_c21) = true := by decide +kernel
set_option maxRecDepth 1000000 in
theorem run_c23 : law_all law_b (ev_run ev_ms (ev_exec ev_ms 12) (law_P 7) law_b [] 5000 law_c23) = true := by decide +kernel
set_option maxRecDepth 1000000 in
theorem run_c24 : law_all law_b (ev_run ev_ms (ev_exec ev_ms 12) (law_P 7) law_b [] 5000 law_c24) = true := by decide +kernel
set_option maxRecDepth 1000000 in
theorem run_c26 : law_all law_b (ev_run ev_ms (ev_exec ev_ms 12) (law_P 7) law_b [] 5000 law_c26) = true := by decide +kernel
set_option maxRecDepth 1000000 in
theorem run_c27 : law_all law_b (ev_run ev_ms (ev_exec ev_ms 12) (law_P 7) law_b [] 5000 law_c27) = true := by decide +kernel
set_option maxRecDepth 1000000 in
theorem run_c28 : law_all law_b (ev_run ev_ms (ev_exec ev_ms 12) (law_P 7) law_b [] 5000 law_c28) = true := by decide +kernel
set_option maxRecDepth 1000000 in
theorem run_c30 : law_all law_b (ev_run ev_ms (ev_exec ev_ms 12) (law_P 7) law_b [] 5000 law_c30) = true := by decide +kernel
set_option maxRecDepth 1000000 in
theorem run_c33 : law_all law_b (ev_run ev_ms (ev_exec ev_ms 12) (law_P 7) law_b [] 5000 law_c33) = true := by decide +kernel
set_option maxRecDepth 1000000 in
theorem run_c34 : law_all law_b (ev_run ev_ms (ev_exec ev_ms 12) (law_P 7) law_b [] 5000 law_c34) = true := by decide +kernel
set_option maxRecDepth 1000000 in
theorem run_c36 : law_all law_b (ev_run ev_ms (ev_exec ev_ms 12) (law_P 7) law_b [] 5000 law_c36) = true := by decide +kernel
set_option maxRecDepth 1000000 in
theorem run_c44 : law_all law_b (ev_run ev_ms (ev_exec ev_ms 12) (law_P 7) law_b [] 5000 law_c44) = true := by decide +kernel
set_option maxRecDepth 1000000 in
theorem run_c45 : law_all law_b (ev_run ev_ms (ev_exec ev_ms 12) (law_P 7) law_b [] 5000 law_c45) = true := by decide +kernel
set_option maxRecDepth 1000000 in
theorem run_c46 : law_all law_b (ev_run ev_ms (ev_exec ev_ms 12) (law_P 7) law_b [] 5000 law_c46) = true := by decide +kernel
set_option maxRecDepth 1000000 in
theorem run_c47 : law_all law_b (ev_run ev_ms (ev_exec ev_ms 12) (law_P 7) law_b [] 5000 law_c47) = true := by decide +kernel
set_option maxRecDepth 1000000 in
theorem run_c49 : law_all law_b (ev_run ev_ms (ev_exec ev_ms 12) (law_P 7) law_b [] 5000 law_c49) = true := by decide +kernel
set_option maxRecDepth 1000000 in
theorem run_c54 : law_all law_b (ev_run ev_ms (ev_exec ev_ms 12) (law_P 7) law_b [] 5000 law_c54) = true := by decide +kernel
