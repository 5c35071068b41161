/-! the runs of the calls -/
