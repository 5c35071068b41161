/-! the words of the classes' fields among the tables' -/
theorem lw_good_ps {ws : List Cond} (ps : List Nat) (hp : ws = ps.filterMap lw_at) (h : ws.all goodWord = true) : ∀ w ∈ ws, w ∈ lw_good := by
  intro w hw
  have h1 := List.all_eq_true.mp h w hw
  rw [hp] at hw
  obtain ⟨i, -, hi⟩ := List.mem_filterMap.mp hw
  exact lw_good_at i (lw_at_ok hi) h1
set_option maxRecDepth 100000 in
theorem ev_in0 : ∀ w ∈ u_ws RX0 TX0 5, w ∈ lw_good := lw_good_ps [374, 376, 378, 380, 382] (by decide +kernel) (by decide +kernel)
set_option maxRecDepth 100000 in
theorem ev_in1 : ∀ w ∈ u_ws RX1 TX1 3, w ∈ lw_good := lw_good_ps [435, 437, 439] (by decide +kernel) (by decide +kernel)
set_option maxRecDepth 100000 in
theorem ev_in2 : ∀ w ∈ u_ws RX2 TX2 4, w ∈ lw_good := lw_good_ps [322, 324, 326, 328] (by decide +kernel) (by decide +kernel)
set_option maxRecDepth 100000 in
theorem ev_in3 : ∀ w ∈ u_ws RX3 TX3 5, w ∈ lw_good := lw_good_ps [347, 349, 351, 353, 355] (by decide +kernel) (by decide +kernel)
set_option maxRecDepth 100000 in
theorem ev_in4 : ∀ w ∈ u_ws RX4 TX4 14, w ∈ lw_good := lw_good_ps [165, 167, 169, 171, 173, 175, 177, 179, 181, 183, 185, 187, 189, 191] (by decide +kernel) (by decide +kernel)
set_option maxRecDepth 100000 in
theorem ev_in5 : ∀ w ∈ u_ws RX5 TX5 3, w ∈ lw_good := lw_good_ps [416, 418, 420] (by decide +kernel) (by decide +kernel)
set_option maxRecDepth 100000 in
theorem ev_in6 : ∀ w ∈ u_ws RX6 TX6 3, w ∈ lw_good := lw_good_ps [396, 398, 400] (by decide +kernel) (by decide +kernel)
set_option maxRecDepth 100000 in
theorem ev_in7 : ∀ w ∈ u_ws RX7 TX7 19, w ∈ lw_good := lw_good_ps [267, 269, 271, 273, 275, 277, 279, 281, 283, 285, 287, 289, 291, 293, 295, 297, 299, 301, 303] (by decide +kernel) (by decide +kernel)
set_option maxRecDepth 100000 in
theorem ev_in8 : ∀ w ∈ u_ws RX8 TX8 15, w ∈ lw_good := lw_good_ps [457, 459, 461, 463, 465, 467, 469, 471, 473, 475, 477, 479, 481, 483, 485] (by decide +kernel) (by decide +kernel)
set_option maxRecDepth 100000 in
theorem ev_in9 : ∀ w ∈ u_ws RX9 TX9 35, w ∈ lw_good := lw_good_ps [1338, 1340, 1342, 1344, 1346, 1348, 1350, 1352, 1354, 1356, 1358, 1360, 1362, 1364, 1366, 1368, 1370, 1372, 1374, 1376, 1378, 1380, 1382, 1384, 1386, 1388, 1390, 1392, 1394, 1396, 1398, 1400, 1402, 1404, 1406] (by decide +kernel) (by decide +kernel)
def ev_tyl : List (Nat → FieldType) := [tyX0, tyX1, tyX2, tyX3, tyX4, tyX5, tyX6, tyX7, tyX8, tyX9]
/-- what is known of a class by its number -/
def ev_cok (r : vw_C) (ty : Nat → FieldType) : Prop := (∀ w ∈ u_ws r.1 r.2.1 r.2.2, w ∈ lw_good) ∧ (∀ k, k < r.2.2 → parseFieldDescriptor (r.2.1 k).2.2.1 = some (ty k)) ∧ (∀ a, a < r.2.2 → ∀ b, b < r.2.2 → a ≠ b → (r.2.1 a).2.1 ≠ (r.2.1 b).2.1) ∧ r.2.2 < 100
theorem ev_cls : ∀ (ci : Nat) (r : vw_C) (ty : Nat → FieldType), vwCl[ci]? = some r → ev_tyl[ci]? = some ty → ev_cok r ty
  | 0, r, ty, h1, h2 => by cases h1; cases h2; exact ⟨ev_in0, tyX0_ok, nmX0, by decide⟩
  | 1, r, ty, h1, h2 => by cases h1; cases h2; exact ⟨ev_in1, tyX1_ok, nmX1, by decide⟩
  | 2, r, ty, h1, h2 => by cases h1; cases h2; exact ⟨ev_in2, tyX2_ok, nmX2, by decide⟩
  | 3, r, ty, h1, h2 => by cases h1; cases h2; exact ⟨ev_in3, tyX3_ok, nmX3, by decide⟩
  | 4, r, ty, h1, h2 => by cases h1; cases h2; exact ⟨ev_in4, tyX4_ok, nmX4, by decide⟩
  | 5, r, ty, h1, h2 => by cases h1; cases h2; exact ⟨ev_in5, tyX5_ok, nmX5, by decide⟩
  | 6, r, ty, h1, h2 => by cases h1; cases h2; exact ⟨ev_in6, tyX6_ok, nmX6, by decide⟩
  | 7, r, ty, h1, h2 => by cases h1; cases h2; exact ⟨ev_in7, tyX7_ok, nmX7, by decide⟩
  | 8, r, ty, h1, h2 => by cases h1; cases h2; exact ⟨ev_in8, tyX8_ok, nmX8, by decide⟩
  | 9, r, ty, h1, h2 => by cases h1; cases h2; exact ⟨ev_in9, tyX9_ok, nmX9, by decide⟩
  | n + 10, r, ty, h1, h2 => by cases h1
