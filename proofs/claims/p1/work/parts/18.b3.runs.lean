/-! the runs of the calls -/
set_option maxRecDepth 1000000 in
theorem run_c3 : law_all law_b (ev_run ev_ms (ev_exec ev_ms 12) (law_P 7) law_b [] 5000 law_c3) = true := by decide +kernel
set_option maxRecDepth 1000000 in
theorem run_c5 : law_all law_b (ev_run ev_ms (ev_exec ev_ms 12) (law_P 7) law_b [] 5000 law_c5) = true := by decide +kernel
set_option maxRecDepth 1000000 in
theorem run_c6 : law_all law_b (ev_run ev_ms (ev_exec ev_ms 12) (law_P 7) law_b [] 5000 law_c6) = true := by decide +kernel
set_option maxRecDepth 1000000 in
theorem run_c9 : law_all law_b (ev_run ev_ms (ev_exec ev_ms 12) (law_P 7) law_b [] 5000 law_c9) = true := by decide +kernel
set_option maxRecDepth 1000000 in
theorem run_c10 : law_all law_b (ev_run ev_ms (ev_exec ev_ms 12) (law_P 7) law_b [] 5000 law_c10) = true := by decide +kernel
set_option maxRecDepth 1000000 in
theorem run_c12 : law_all law_b (ev_run ev_ms (ev_exec ev_ms 12) (law_P 7) law_b [] 5000 law_c12) = true := by decide +kernel
set_option maxRecDepth 1000000 in
theorem run_c14 : law_all law_b (ev_run ev_ms (ev_exec ev_ms 12) (law_P 7) law_b [] 5000 law_c14) = true := by decide +kernel
set_option maxRecDepth 1000000 in
theorem run_c17 : law_all law_b (ev_run ev_ms (ev_exec ev_ms 12) (law_P 7) law_b [] 5000 law_c17) = true := by decide +kernel
set_option maxRecDepth 1000000 in
theorem run_c18 : law_all law_b (ev_run ev_ms (ev_exec ev_ms 12) (law_P 7) law_b [] 5000 law_c18) = true := by decide +kernel
set_option maxRecDepth 1000000 in
theorem run_c20 : law_all law_b (ev_run ev_ms (ev_exec ev_ms 12) (law_P 7) law_b [] 5000 law_c20) = true := by decide +kernel
set_option maxRecDepth 1000000 in
theorem run_c22 : law_all law_b (ev_run ev_ms (ev_exec ev_ms 12) (law_P 7) law_b [] 5000 law_c22) = true := by decide +kernel
set_option maxRecDepth 1000000 in
theorem run_c25 : law_all law_b (ev_run ev_ms (ev_exec ev_ms 12) (law_P 7) law_b [] 5000 law_c25) = true := by decide +kernel
set_option maxRecDepth 1000000 in
theorem run_c29 : law_all law_b (ev_run ev_ms (ev_exec ev_ms 12) (law_P 7) law_b [] 5000 law_c29) = true := by decide +kernel
set_option maxRecDepth 1000000 in
theorem run_c31 : law_all law_b (ev_run ev_ms (ev_exec ev_ms 12) (law_P 7) law_b [] 5000 law_c31) = true := by decide +kernel
set_option maxRecDepth 1000000 in
theorem run_c32 : law_all law_b (ev_run ev_ms (ev_exec ev_ms 12) (law_P 7) law_b [] 5000 law_c32) = true := by decide +kernel
set_option maxRecDepth 1000000 in
theorem run_c35 : law_all law_b (ev_run ev_ms (ev_exec ev_ms 12) (law_P 7) law_b [] 5000 law_c35) = true := by decide +kernel
set_option maxRecDepth 1000000 in
theorem run_c37 : law_all law_b (ev_run ev_ms (ev_exec ev_ms 12) (law_P 7) law_b [] 5000 law_c37) = true := by decide +kernel
set_option maxRecDepth 1000000 in
theorem run_c38 : law_all law_b (ev_run ev_ms (ev_exec ev_ms 12) (law_P 7) law_b [] 5000 law_c38) = true := by decide +kernel
set_option maxRecDepth 1000000 in
theorem run_c40 : law_all law_b (ev_run ev_ms (ev_exec ev_ms 12) (law_P 7) law_b [] 5000 law_c40) = true := by decide +kernel
set_option maxRecDepth 1000000 in
theorem run_c41 : law_all law_b (ev_run ev_ms (ev_exec ev_ms 12) (law_P 7) law_b [] 5000 law_c41) = true := by decide +kernel
set_option maxRecDepth 1000000 in
theorem run_c42 : law_all law_b (ev_run ev_ms (ev_exec ev_ms 12) (law_P 7) law_b [] 5000 law_c42) = true := by decide +kernel
set_option maxRecDepth 1000000 in
theorem run_c43 : law_all law_b (ev_run ev_ms (ev_exec ev_ms 12) (law_P 7) law_b [] 5000 law_c43) = true := by decide +kernel
set_option maxRecDepth 1000000 in
theorem run_c48 : law_all law_b (ev_run ev_ms (ev_exec ev_ms 12) (law_P 7) law_b [] 5000 law_c48) = true := by decide +kernel
set_option maxRecDepth 1000000 in
theorem run_c50 : law_all law_b (ev_run ev_ms (ev_exec ev_ms 12) (law_P 7) law_b [] 5000 law_c50) = true := by decide +kernel
set_option maxRecDepth 1000000 in
theorem run_c51 : law_all law_b (ev_run ev_ms (ev_exec ev_ms 12) (law_P 7) law_b [] 5000 law_c51) = true := by decide +kernel
set_option maxRecDepth 1000000 in
theorem run_c53 : law_all law_b (ev_run ev_ms (ev_exec ev_ms 12) (law_P 7) law_b [] 5000 law_c53) = true := by decide +kernel
set_option maxRecDepth 1000000 in
theorem run_c55 : law_all law_b (ev_run ev_ms (ev_exec ev_ms 12) (law_P 7) law_b [] 5000 law_c55) = true := by decide +kernel
set_option maxRecDepth 1000000 in
theorem run_c56 : law_all law_b (ev_run ev_ms (ev_exec ev_ms 12) (law_P 7) law_b [] 5000 law_c56) = true := by decide +kernel
