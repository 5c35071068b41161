/-! the law's rows -/
set_option maxRecDepth 1000000 in
theorem law_a_ok : ∀ q ∈ law_a, ev_RowOK ev_ms (law_P 0) code q := ev_chkAll_ok (ps := [([137, 138, 116], 0), ([], 0), ([139, 140, 116], 0), ([], 0), ([1297, 1298, 125], 0), ([], 0), ([1299, 1300, 125], 0), ([], 0), ([], 0), ([195], 0), ([], 0), ([], 0), ([], 0)]) (by decide +kernel)
set_option maxRecDepth 1000000 in
theorem law_h_ok : ∀ Ls, Ls < 7 → ∀ q ∈ law_h, ev_RowOK ev_ms (law_P Ls) code q
  | 0, _ => ev_chkAll_ok (ps := [([], 0), ([], 0), ([], 0), ([], 0), ([], 0), ([], 0), ([], 0), ([], 0)]) (by decide +kernel)
  | 1, _ => ev_chkAll_ok (ps := [([], 0), ([], 0), ([], 0), ([], 0), ([], 0), ([], 0), ([], 0), ([], 0)]) (by decide +kernel)
  | 2, _ => ev_chkAll_ok (ps := [([], 0), ([], 0), ([], 0), ([], 0), ([], 0), ([], 0), ([], 0), ([], 0)]) (by decide +kernel)
  | 3, _ => ev_chkAll_ok (ps := [([], 0), ([], 0), ([], 0), ([], 0), ([], 0), ([], 0), ([], 0), ([], 0)]) (by decide +kernel)
  | 4, _ => ev_chkAll_ok (ps := [([], 0), ([], 0), ([], 0), ([], 0), ([], 0), ([], 0), ([], 0), ([], 0)]) (by decide +kernel)
  | 5, _ => ev_chkAll_ok (ps := [([], 0), ([], 0), ([], 0), ([], 0), ([], 0), ([], 0), ([], 0), ([], 0)]) (by decide +kernel)
  | 6, _ => ev_chkAll_ok (ps := [([], 0), ([], 0), ([], 0), ([], 0), ([], 0), ([], 0), ([], 0), ([], 0)]) (by decide +kernel)
  | n + 7, h => absurd h (by omega)
