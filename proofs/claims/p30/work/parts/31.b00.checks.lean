/-! checks of methods -/
set_option maxRecDepth 1000000 in
theorem mk_0 : ab_MK cm_ms mr_0 := wz_MK wz_C10 wz_W10k rfl (lw_in_3 (p := 27) rfl) (ks := [0, 0, 0, 0, 1, 0, 0, 0, 0, 2, 0, 0, 0, 0, 2, 0, 0, 0, 0, 0, 0, 0, 0, 3, 0, 0, 0, 0, 0, 0, 0, 0, 0, 0, 0, 0, 0, 0, 0, 0, 0, 0]) (by decide +kernel)
set_option maxRecDepth 1000000 in
theorem mk_1 : ab_MK cm_ms mr_1 := wz_MK wz_C11 wz_W11k rfl (lw_in_2 (p := 209) rfl) (ks := [0, 1, 0, 0, 2, 0, 0]) (by decide +kernel)
set_option maxRecDepth 1000000 in
theorem mk_2 : ab_MK cm_ms mr_2 := wz_MK wz_C11 wz_W11k rfl (lw_in_2 (p := 219) rfl) (ks := [0, 3, 0, 0, 1, 0, 4, 0, 0, 1, 0, 0]) (by decide +kernel)
set_option maxRecDepth 1000000 in
theorem mk_3 : ab_MK cm_ms mr_3 := wz_MK wz_C11 wz_W11k rfl (lw_in_2 (p := 213) rfl) (ks := [5, 0, 0, 6, 0, 0, 0]) (by decide +kernel)
set_option maxRecDepth 1000000 in
theorem mk_4 : ab_MK cm_ms mr_4 := wz_MK wz_C11 wz_W11k rfl (lw_in_2 (p := 223) rfl) (ks := [5, 0, 0, 6, 0, 0, 0, 0, 0]) (by decide +kernel)
set_option maxRecDepth 1000000 in
theorem mk_5 : ab_MK cm_ms mr_5 := wz_MK wz_C11 wz_W11k rfl (lw_in_2 (p := 229) rfl) (ks := [0, 0, 7, 8, 0, 0]) (by decide +kernel)
set_option maxRecDepth 1000000 in
theorem mk_6 : ab_MK cm_ms mr_6 := wz_MK wz_C12 wz_W12k rfl (lw_in_2 (p := 226) rfl) (ks := [0, 0, 0, 1, 0, 0, 0, 0, 0, 0, 0]) (by decide +kernel)
set_option maxRecDepth 1000000 in
theorem mk_7 : ab_MK cm_ms mr_7 := wz_MK wz_C13 wz_W13k rfl (lw_in_2 (p := 234) rfl) (ks := [0, 0, 0, 0, 0, 0, 0, 0, 0, 0]) (by decide +kernel)
set_option maxRecDepth 1000000 in
theorem mk_8 : ab_MK cm_ms mr_8 := wz_MK wz_C8 wz_W8k rfl (lw_in_2 (p := 159) rfl) (ks := [0, 0, 1, 0, 0, 2, 0, 0, 3, 0, 0, 4, 0, 0, 5, 0, 0, 6, 0, 0, 7, 0, 0, 0, 0, 0, 0, 8, 0, 0, 0, 0, 0, 0]) (by decide +kernel)
set_option maxRecDepth 1000000 in
theorem mk_9 : ab_MK cm_ms mr_9 := wz_MK wz_C8 wz_W8k rfl (lw_in_3 (p := 78) rfl) (ks := [0, 9, 0, 0, 0, 0, 10, 0, 9, 0, 0, 0, 11, 0, 9, 0, 0, 0, 12, 0, 9, 0, 0, 0, 13, 0, 9, 0, 0, 0, 14, 0, 9, 0, 0, 0, 0, 9, 0, 0, 4, 0]) (by decide +kernel)
set_option maxRecDepth 1000000 in
theorem mk_10 : ab_MK cm_ms mr_10 := wz_MK wz_C8 wz_W8k rfl (lw_in_3 (p := 89) rfl) (ks := [0, 15, 0, 0, 0, 0, 16, 0, 15, 0, 0, 0, 17, 0, 15, 0, 0, 0, 18, 0, 15, 0, 0, 0, 19, 0, 15, 0, 0, 0, 0, 15, 0, 0, 5, 0]) (by decide +kernel)
set_option maxRecDepth 1000000 in
theorem mk_11 : ab_MK cm_ms mr_11 := wz_MK wz_C8 wz_W8k rfl (lw_in_3 (p := 114) rfl) (ks := [0, 20, 0, 0, 0, 21, 0, 20, 0, 0, 0, 0, 20, 0, 0, 6, 0]) (by decide +kernel)
set_option maxRecDepth 1000000 in
theorem mk_12 : ab_MK cm_ms mr_12 := wz_MK wz_C8 wz_W8k rfl (lw_in_3 (p := 24) rfl) (ks := [0, 0, 0, 0, 0, 0, 0, 0, 0, 0, 0, 0, 0, 0, 0, 22, 0, 0, 0, 0, 0, 0]) (by decide +kernel)
set_option maxRecDepth 1000000 in
theorem mk_13 : ab_MK cm_ms mr_13 := wz_MK wz_C8 wz_W8k rfl (lw_in_3 (p := 194) rfl) (ks := [0, 0, 0, 0, 0, 0, 9, 0, 0, 0, 0, 0, 0, 0, 0, 0, 12, 0, 0, 0, 0, 0, 0, 0, 0]) (by decide +kernel)
set_option maxRecDepth 1000000 in
theorem mk_14 : ab_MK cm_ms mr_14 := wz_MK wz_C8 wz_W8k rfl (lw_in_4 (p := 3) rfl) (ks := [0, 0, 0, 0, 0, 0, 0, 0, 0, 0, 15, 0, 0, 19, 0, 0, 0, 0, 0, 0, 0, 0, 0, 0, 0, 0, 0, 0, 0, 0, 0, 0, 0, 0, 0]) (by decide +kernel)
set_option maxRecDepth 1000000 in
theorem mk_15 : ab_MK cm_ms mr_15 := wz_MK wz_C8 wz_W8k rfl (lw_in_4 (p := 11) rfl) (ks := [0, 0, 0, 0, 0, 0, 0, 0, 0, 23, 0, 0, 0, 0, 0, 0, 0, 0, 0, 19, 0, 0, 0, 0, 0, 0, 0, 0, 23, 0, 0, 0, 23, 0, 0, 0, 0, 23, 0, 0, 23, 0, 0, 0, 0, 0, 0, 0, 0, 0, 0, 0, 0, 0, 0, 0, 23, 0, 0, 0, 0, 0]) (by decide +kernel)
set_option maxRecDepth 1000000 in
theorem mk_16 : ab_MK cm_ms mr_16 := wz_MK wz_C8 wz_W8k rfl (lw_in_3 (p := 34) rfl) (ks := [0, 14, 0, 9, 24, 0, 0, 0]) (by decide +kernel)
set_option maxRecDepth 1000000 in
theorem mk_17 : ab_MK cm_ms mr_17 := wz_MK wz_C8 wz_W8k rfl (lw_in_4 (p := 156) rfl) (ks := [0, 0, 0, 0, 0, 0, 9, 0, 0, 0, 0, 0, 0, 0, 0, 0, 14, 0, 0, 0, 0, 0, 0, 22, 0, 0, 0, 0, 0, 0]) (by decide +kernel)
set_option maxRecDepth 1000000 in
theorem mk_18 : ab_MK cm_ms mr_18 := wz_MK wz_C8 wz_W8k rfl (lw_in_4 (p := 152) rfl) (ks := [0, 0, 0, 0, 0, 0, 0, 0, 0, 9, 0, 0, 0, 0, 25, 0, 0, 0, 0, 0, 0, 0, 0, 0, 0, 0, 0]) (by decide +kernel)
set_option maxRecDepth 1000000 in
theorem mk_19 : ab_MK cm_ms mr_19 := wz_MK wz_C8 wz_W8k rfl (lw_in_4 (p := 170) rfl) (ks := [0, 0, 0, 0, 0, 0, 0, 0, 0, 9, 0, 0, 0, 22, 0, 0, 0, 0, 26, 0, 0, 22, 0, 0, 0, 0, 0, 0, 0]) (by decide +kernel)
set_option maxRecDepth 1000000 in
theorem mk_20 : ab_MK cm_ms mr_20 := wz_MK wz_C8 wz_W8k rfl (lw_in_4 (p := 174) rfl) (ks := [0, 0, 0, 0, 9, 0, 0, 0, 0, 0, 0, 0, 0, 14, 0, 0, 0, 0, 0, 0, 0, 0, 0, 0, 0, 0, 0]) (by decide +kernel)
set_option maxRecDepth 1000000 in
theorem mk_21 : ab_MK cm_ms mr_21 := wz_MK wz_C8 wz_W8k rfl (lw_in_4 (p := 186) rfl) (ks := [0, 0, 0, 0, 20, 0, 0, 0, 0, 0, 20, 0, 0, 0, 0, 21, 0, 0, 0, 21, 0, 0, 0, 27, 0, 0, 0, 0, 0, 28, 0]) (by decide +kernel)
set_option maxRecDepth 1000000 in
theorem mk_22 : ab_MK cm_ms mr_22 := wz_MK wz_C3 wz_W3k rfl (lw_in_3 (p := 126) rfl) (ks := [0, 1, 0, 0, 2, 0, 0, 3, 0, 0, 0, 0, 0, 0, 4, 0, 0, 0, 0, 0, 0, 0, 5, 0, 0, 6, 0]) (by decide +kernel)
set_option maxRecDepth 1000000 in
theorem mk_23 : ab_MK cm_ms mr_23 := wz_MK wz_C3 wz_W3k rfl (lw_in_4 (p := 23) rfl) (ks := [0, 2, 0, 0, 2, 0, 0, 3, 0, 4, 0, 0, 4, 0, 0, 3, 0, 0, 7, 5, 0, 0, 8, 6, 0]) (by decide +kernel)
set_option maxRecDepth 1000000 in
theorem mk_24 : ab_MK cm_ms mr_24 := wz_MK wz_C3 wz_W3k rfl (lw_in_4 (p := 27) rfl) (ks := [0, 0, 0, 0, 9, 0, 0, 2, 0, 0, 0, 2, 0, 0, 0, 10, 0, 11, 0, 0, 0, 0, 0, 8, 0, 0, 6, 0]) (by decide +kernel)
set_option maxRecDepth 1000000 in
theorem mk_25 : ab_MK cm_ms mr_25 := wz_MK wz_C3 wz_W3k rfl (lw_in_3 (p := 157) rfl) (ks := [0, 2, 0, 0, 0, 12, 0, 0, 0, 0, 0]) (by decide +kernel)
set_option maxRecDepth 1000000 in
theorem mk_26 : ab_MK cm_ms mr_26 := wz_MK wz_C3 wz_W3k rfl (lw_in_3 (p := 211) rfl) (ks := [0, 0, 0, 0, 0, 0, 9, 0, 0, 0, 0, 13, 0, 0, 0, 0, 0, 0, 0, 0, 0, 0, 0]) (by decide +kernel)
set_option maxRecDepth 1000000 in
theorem mk_27 : ab_MK cm_ms mr_27 := wz_MK wz_C3 wz_W3k rfl (lw_in_3 (p := 233) rfl) (ks := [0, 0, 9, 0, 0, 0, 0, 0, 14, 0, 0, 0, 0]) (by decide +kernel)
set_option maxRecDepth 1000000 in
theorem mk_28 : ab_MK cm_ms mr_28 := wz_MK wz_C3 wz_W3k rfl (lw_in_3 (p := 165) rfl) (ks := [0, 2, 0, 0, 0, 12, 0, 0, 2, 0, 0, 0, 15, 0, 0, 0, 0, 16, 0, 0, 0, 0, 0, 0, 0, 0, 0, 0, 0]) (by decide +kernel)
set_option maxRecDepth 1000000 in
theorem mk_29 : ab_MK cm_ms mr_29 := wz_MK wz_C3 wz_W3k rfl (lw_in_3 (p := 161) rfl) (ks := [0, 0, 0, 0, 0, 0, 17, 0, 0, 0, 0, 0, 18, 0, 0, 0, 0, 0, 0, 0, 0, 0, 0, 0]) (by decide +kernel)
set_option maxRecDepth 1000000 in
theorem mk_30 : ab_MK cm_ms mr_30 := wz_MK wz_C3 wz_W3k rfl (lw_in_3 (p := 190) rfl) (ks := [0, 0, 0, 0, 0, 0, 9, 0, 0, 0, 0, 0, 18, 0, 0, 0, 0, 0, 0, 0, 0, 0, 0, 0]) (by decide +kernel)
set_option maxRecDepth 1000000 in
theorem mk_31 : ab_MK cm_ms mr_31 := wz_MK wz_C3 wz_W3k rfl (lw_in_3 (p := 186) rfl) (ks := [0, 0, 0, 0, 19, 20, 0]) (by decide +kernel)
set_option maxRecDepth 1000000 in
theorem mk_32 : ab_MK cm_ms mr_32 := wz_MK wz_C3 wz_W3k rfl (lw_in_3 (p := 224) rfl) (ks := [0, 0, 0, 21, 0, 22, 0, 0, 0, 0, 0, 0, 0]) (by decide +kernel)
set_option maxRecDepth 1000000 in
theorem mk_33 : ab_MK cm_ms mr_33 := wz_MK wz_C3 wz_W3k rfl (lw_in_3 (p := 177) rfl) (ks := [0, 7, 0, 0, 0, 0, 0, 0, 0, 0, 0]) (by decide +kernel)
set_option maxRecDepth 1000000 in
theorem mk_34 : ab_MK cm_ms mr_34 := wz_MK wz_C3 wz_W3k rfl (lw_in_3 (p := 181) rfl) (ks := [0, 0, 23, 0, 0, 24, 0, 0, 0, 7, 0, 0, 0, 0, 0, 0, 0, 0]) (by decide +kernel)
set_option maxRecDepth 1000000 in
theorem mk_35 : ab_MK cm_ms mr_35 := wz_MK wz_C3 wz_W3k rfl (lw_in_4 (p := 80) rfl) (ks := [0, 0, 0, 19, 0, 0, 0, 20, 0, 22, 0, 0, 0, 0, 0, 0, 0, 0, 0, 0, 0, 9, 0, 0, 0, 0, 0, 0, 0, 0, 0, 0, 0, 15, 0, 0, 25, 0, 0, 0, 0, 0, 0, 7, 0, 0, 0, 0, 5, 0, 0]) (by decide +kernel)
set_option maxRecDepth 1000000 in
theorem mk_36 : ab_MK cm_ms mr_36 := wz_MK wz_C3 wz_W3k rfl (lw_in_4 (p := 84) rfl) (ks := [0, 26, 0, 0, 0, 0, 2, 0, 0, 0, 0, 0, 0, 0, 0, 0, 0, 0, 0, 4, 0, 0, 0, 0, 0, 0, 0]) (by decide +kernel)
set_option maxRecDepth 1000000 in
theorem mk_37 : ab_MK cm_ms mr_37 := wz_MK wz_C3 wz_W3k rfl (lw_in_4 (p := 130) rfl) (ks := [0, 0, 0, 13, 0, 0, 0, 0, 0, 27, 0, 0, 0, 0, 0, 0, 0, 0, 0, 0, 0, 0, 0, 0, 9, 0, 0, 0, 0, 0, 0, 0, 0, 0, 0, 20, 0, 0, 0, 0, 0, 0, 28, 0, 0, 0, 0, 0, 0, 0, 0, 0, 0]) (by decide +kernel)
set_option maxRecDepth 1000000 in
theorem mk_38 : ab_MK cm_ms mr_38 := wz_MK wz_C4 wz_W4k rfl (lw_in_3 (p := 133) rfl) (ks := [0, 0, 1, 0, 0, 2, 0]) (by decide +kernel)
set_option maxRecDepth 1000000 in
theorem mk_39 : ab_MK cm_ms mr_39 := wz_MK wz_C4 wz_W4k rfl (lw_in_5 (p := 107) rfl) (ks := [0, 3, 0, 4, 0, 0, 5, 0, 0, 4, 0, 0, 0, 0, 6, 0, 0, 0, 7, 0, 0, 8, 1, 0]) (by decide +kernel)
set_option maxRecDepth 1000000 in
theorem mk_40 : ab_MK cm_ms mr_40 := wz_MK wz_C4 wz_W4k rfl (lw_in_5 (p := 127) rfl) (ks := [0, 7, 0, 0, 0, 0, 0, 4, 0, 0, 0, 0, 0, 0, 6, 0, 0, 7, 0, 0, 1, 0, 0, 3, 0, 4, 0, 5, 0, 0]) (by decide +kernel)
set_option maxRecDepth 1000000 in
theorem mk_41 : ab_MK cm_ms mr_41 := wz_MK wz_C4 wz_W4k rfl (lw_in_5 (p := 135) rfl) (ks := [0, 9, 0, 0, 0, 0, 0, 10, 0, 9, 0, 0, 5, 0, 0, 9, 0, 0, 2, 0, 9, 0, 0, 0]) (by decide +kernel)
set_option maxRecDepth 1000000 in
theorem mk_42 : ab_MK cm_ms mr_42 := wz_MK wz_C4 wz_W4k rfl (lw_in_5 (p := 143) rfl) (ks := [0, 0, 0, 0, 9, 0, 0, 0, 0, 0, 10, 0, 0, 5, 0, 0, 1, 0, 0]) (by decide +kernel)
set_option maxRecDepth 1000000 in
theorem mk_43 : ab_MK cm_ms mr_43 := wz_MK wz_C1 wz_W1k rfl (lw_in_4 (p := 63) rfl) (ks := [0, 0, 0, 0, 0, 0, 0, 0, 0, 0, 0, 0, 0, 0, 0, 0, 0, 0, 0, 0, 0, 0, 0, 0, 0, 0, 0, 0, 1, 0, 0, 0, 0, 0, 0, 0]) (by decide +kernel)
set_option maxRecDepth 1000000 in
theorem mk_44 : ab_MK cm_ms mr_44 := wz_MK wz_C1 wz_W1k rfl (lw_in_4 (p := 69) rfl) (ks := [0, 2, 0, 0, 0, 3, 0, 0, 0, 0, 0, 0, 0, 0, 0, 0, 0, 0, 0, 0, 0, 0, 0, 0, 0, 0, 0, 0, 0, 0, 4, 0, 0, 0, 0, 0, 0, 0, 0, 0, 0, 0, 0, 0, 0]) (by decide +kernel)
set_option maxRecDepth 1000000 in
theorem mk_45 : ab_MK cm_ms mr_45 := wz_MK wz_C1 wz_W1k rfl (lw_in_4 (p := 92) rfl) (ks := [0, 0, 0, 5, 6, 0, 0, 7, 0, 0, 8, 0, 0, 9, 0, 2, 0, 0, 0, 3, 0, 0, 0, 0, 0, 10, 0]) (by decide +kernel)
