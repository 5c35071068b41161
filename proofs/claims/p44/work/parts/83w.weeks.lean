set_option maxRecDepth 1000000 in
theorem TRX_of {M : cm_M} (h : ab_ok hp hN M) : TRX M := ⟨okr h (by decide +kernel), okr h (by decide +kernel), okr h (by decide +kernel)⟩
