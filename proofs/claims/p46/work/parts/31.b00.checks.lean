set_option maxRecDepth 1000000 in
theorem mk_0 : ab_MK cm_ms mr_0 := wz_MK wz_C10 wz_W10k rfl (lw_in_3 (p := 27) rfl) (ks := [0, 0, 0, 0, 1, 0, 0, 0, 0, 2, 0, 0, 0, 0, 2, 0, 0, 0, 0, 0, 0, 0, 0, 3, 0, 0, 0, 0, 0, 0, 0, 0, 0, 0, 0, 0, 0, 0, 0, 0, 0, 0]) (by decide +kernel)
set_option maxRecDepth 1000000 in
theorem mk_1 : ab_MK cm_ms mr_1 := wz_MK wz_C11 wz_W11k rfl (lw_in_2 (p := 209) rfl) (ks := [0, 1, 0, 0, 2, 0, 0]) (by decide +kernel)
set_option maxRecDepth 1000000 in
theorem mk_2 : ab_MK cm_ms mr_2 := wz_MK wz_C11 wz_W11k rfl (lw_in_2 (p := 219) rfl) (ks := [0, 3, 0, 0, 1, 0, 4, 0, 0, 1, 0, 0]) (by decide +kernel)
set_option maxRecDepth 1000000 in
theorem mk_3 : ab_MK cm_ms mr_3 := wz_MK wz_C11 wz_W11k rfl (lw_in_2 (p := 213) rfl) (ks := [5, 0, 0, 6, 0, 0, 0]) (by decide +kernel)
set_option maxRecDepth 1000000 in
theorem mk_4 : ab_MK cm_ms mr_4 := wz_MK wz_C11 wz_W11k rfl (lw_in_2 (p := 223) rfl) (ks := [5, 0, 0, 6, 0, 0, 0, 0, 0]) (by decide +kernel)
set_option maxRecDepth 1000000 in
theorem mk_5 : ab_MK cm_ms mr_5 := wz_MK wz_C11 wz_W11k rfl (lw_in_2 (p := 229) rfl) (ks := [0, 0, 7, 8, 0, 0]) (by decide +kernel)
set_option maxRecDepth 1000000 in
theorem mk_6 : ab_MK cm_ms mr_6 := wz_MK wz_C12 wz_W12k rfl (lw_in_2 (p := 226) rfl) (ks := [0, 0, 0, 1, 0, 0, 0, 0, 0, 0, 0]) (by decide +kernel)
set_option maxRecDepth 1000000 in
theorem mk_7 : ab_MK cm_ms mr_7 := wz_MK wz_C13 wz_W13k rfl (lw_in_2 (p := 234) rfl) (ks := [0, 0, 0, 0, 0, 0, 0, 0, 0, 0]) (by decide +kernel)
set_option maxRecDepth 1000000 in
theorem mk_8 : ab_MK cm_ms mr_8 := wz_MK wz_C8 wz_W8k rfl (lw_in_2 (p := 159) rfl) (ks := [0, 0, 1, 0, 0, 2, 0, 0, 3, 0, 0, 4, 0, 0, 5, 0, 0, 6, 0, 0, 7, 0, 0, 0, 0, 0, 0, 8, 0, 0, 0, 0, 0, 0]) (by decide +kernel)
set_option maxRecDepth 1000000 in
theorem mk_9 : ab_MK cm_ms mr_9 := wz_MK wz_C8 wz_W8k rfl (lw_in_3 (p := 78) rfl) (ks := [0, 9, 0, 0, 0, 0, 10, 0, 9, 0, 0, 0, 11, 0, 9, 0, 0, 0, 12, 0, 9, 0, 0, 0, 13, 0, 9, 0, 0, 0, 14, 0, 9, 0, 0, 0, 0, 9, 0, 0, 4, 0]) (by decide +kernel)
set_option maxRecDepth 1000000 in
theorem mk_10 : ab_MK cm_ms mr_10 := wz_MK wz_C8 wz_W8k rfl (lw_in_3 (p := 89) rfl) (ks := [0, 15, 0, 0, 0, 0, 16, 0, 15, 0, 0, 0, 17, 0, 15, 0, 0, 0, 18, 0, 15, 0, 0, 0, 19, 0, 15, 0, 0, 0, 0, 15, 0, 0, 5, 0]) (by decide +kernel)
set_option maxRecDepth 1000000 in
theorem mk_11 : ab_MK cm_ms mr_11 := wz_MK wz_C8 wz_W8k rfl (lw_in_3 (p := 114) rfl) (ks := [0, 20, 0, 0, 0, 21, 0, 20, 0, 0, 0, 0, 20, 0, 0, 6, 0]) (by decide +kernel)
set_option maxRecDepth 1000000 in
theorem mk_12 : ab_MK cm_ms mr_12 := wz_MK wz_C8 wz_W8k rfl (lw_in_3 (p := 24) rfl) (ks := [0, 0, 0, 0, 0, 0, 0, 0, 0, 0, 0, 0, 0, 0, 0, 22, 0, 0, 0, 0, 0, 0]) (by decide +kernel)
set_option maxRecDepth 1000000 in
theorem mk_13 : ab_MK cm_ms mr_13 := wz_MK wz_C8 wz_W8k rfl (lw_in_3 (p := 194) rfl) (ks := [0, 0, 0, 0, 0, 0, 9, 0, 0, 0, 0, 0, 0, 0, 0, 0, 12, 0, 0, 0, 0, 0, 0, 0, 0]) (by decide +kernel)
set_option maxRecDepth 1000000 in
theorem mk_14 : ab_MK cm_ms mr_14 := wz_MK wz_C8 wz_W8k rfl (lw_in_4 (p := 3) rfl) (ks := [0, 0, 0, 0, 0, 0, 0, 0, 0, 0, 15, 0, 0, 19, 0, 0, 0, 0, 0, 0, 0, 0, 0, 0, 0, 0, 0, 0, 0, 0, 0, 0, 0, 0, 0]) (by decide +kernel)
set_option maxRecDepth 1000000 in
theorem mk_15 : ab_MK cm_ms mr_15 := wz_MK wz_C8 wz_W8k rfl (lw_in_4 (p := 11) rfl) (ks := [0, 0, 0, 0, 0, 0, 0, 0, 0, 23, 0, 0, 0, 0, 0, 0, 0, 0, 0, 19, 0, 0, 0, 0, 0, 0, 0, 0, 23, 0, 0, 0, 23, 0, 0, 0, 0, 23, 0, 0, 23, 0, 0, 0, 0, 0, 0, 0, 0, 0, 0, 0, 0, 0, 0, 0, 23, 0, 0, 0, 0, 0]) (by decide +kernel)
set_option maxRecDepth 1000000 in
theorem mk_16 : ab_MK cm_ms mr_16 := wz_MK wz_C8 wz_W8k rfl (lw_in_3 (p := 34) rfl) (ks := [0, 14, 0, 9, 24, 0, 0, 0]) (by decide +kernel)
set_option maxRecDepth 1000000 in
theorem mk_17 : ab_MK cm_ms mr_17 := wz_MK wz_C8 wz_W8k rfl (lw_in_4 (p := 156) rfl) (ks := [0, 0, 0, 0, 0, 0, 9, 0, 0, 0, 0, 0, 0, 0, 0, 0, 14, 0, 0, 0, 0, 0, 0, 22, 0, 0, 0, 0, 0, 0]) (by decide +kernel)
set_option maxRecDepth 1000000 in
theorem mk_18 : ab_MK cm_ms mr_18 := wz_MK wz_C8 wz_W8k rfl (lw_in_4 (p := 152) rfl) (ks := [0, 0, 0, 0, 0, 0, 0, 0, 0, 9, 0, 0, 0, 0, 25, 0, 0, 0, 0, 0, 0, 0, 0, 0, 0, 0, 0]) (by decide +kernel)
set_option maxRecDepth 1000000 in
theorem mk_19 : ab_MK cm_ms mr_19 := wz_MK wz_C8 wz_W8k rfl (lw_in_4 (p := 170) rfl) (ks := [0, 0, 0, 0, 0, 0, 0, 0, 0, 9, 0, 0, 0, 22, 0, 0, 0, 0, 26, 0, 0, 22, 0, 0, 0, 0, 0, 0, 0]) (by decide +kernel)
set_option maxRecDepth 1000000 in
theorem mk_20 : ab_MK cm_ms mr_20 := wz_MK wz_C8 wz_W8k rfl (lw_in_4 (p := 174) rfl) (ks := [0, 0, 0, 0, 9, 0, 0, 0, 0, 0, 0, 0, 0, 14, 0, 0, 0, 0, 0, 0, 0, 0, 0, 0, 0, 0, 0]) (by decide +kernel)
set_option maxRecDepth 1000000 in
theorem mk_21 : ab_MK cm_ms mr_21 := wz_MK wz_C8 wz_W8k rfl (lw_in_4 (p := 186) rfl) (ks := [0, 0, 0, 0, 20, 0, 0, 0, 0, 0, 20, 0, 0, 0, 0, 21, 0, 0, 0, 21, 0, 0, 0, 27, 0, 0, 0, 0, 0, 28, 0]) (by decide +kernel)
set_option maxRecDepth 1000000 in
theorem mk_22 : ab_MK cm_ms mr_22 := wz_MK wz_C3 wz_W3k rfl (lw_in_3 (p := 126) rfl) (ks := [0, 1, 0, 0, 2, 0, 0, 3, 0, 0, 0, 0, 0, 0, 4, 0, 0, 0, 0, 0, 0, 0, 5, 0, 0, 6, 0]) (by decide +kernel)
set_option maxRecDepth 1000000 in
theorem mk_23 : ab_MK cm_ms mr_23 := wz_MK wz_C3 wz_W3k rfl (lw_in_4 (p := 23) rfl) (ks := [0, 2, 0, 0, 2, 0, 0, 3, 0, 4, 0, 0, 4, 0, 0, 3, 0, 0, 7, 5, 0, 0, 8, 6, 0]) (by decide +kernel)
set_option maxRecDepth 1000000 in
theorem mk_24 : ab_MK cm_ms mr_24 := wz_MK wz_C3 wz_W3k rfl (lw_in_4 (p := 27) rfl) (ks := [0, 0, 0, 0, 9, 0, 0, 2, 0, 0, 0, 2, 0, 0, 0, 10, 0, 11, 0, 0, 0, 0, 0, 8, 0, 0, 6, 0]) (by decide +kernel)
set_option maxRecDepth 1000000 in
theorem mk_25 : ab_MK cm_ms mr_25 := wz_MK wz_C3 wz_W3k rfl (lw_in_3 (p := 157) rfl) (ks := [0, 2, 0, 0, 0, 12, 0, 0, 0, 0, 0]) (by decide +kernel)
set_option maxRecDepth 1000000 in
theorem mk_26 : ab_MK cm_ms mr_26 := wz_MK wz_C3 wz_W3k rfl (lw_in_3 (p := 211) rfl) (ks := [0, 0, 0, 0, 0, 0, 9, 0, 0, 0, 0, 13, 0, 0, 0, 0, 0, 0, 0, 0, 0, 0, 0]) (by decide +kernel)
set_option maxRecDepth 1000000 in
theorem mk_27 : ab_MK cm_ms mr_27 := wz_MK wz_C3 wz_W3k rfl (lw_in_3 (p := 233) rfl) (ks := [0, 0, 9, 0, 0, 0, 0, 0, 14, 0, 0, 0, 0]) (by decide +kernel)
set_option maxRecDepth 1000000 in
theorem mk_28 : ab_MK cm_ms mr_28 := wz_MK wz_C3 wz_W3k rfl (lw_in_3 (p := 165) rfl) (ks := [0, 2, 0, 0, 0, 12, 0, 0, 2, 0, 0, 0, 15, 0, 0, 0, 0, 16, 0, 0, 0, 0, 0, 0, 0, 0, 0, 0, 0]) (by decide +kernel)
set_option maxRecDepth 1000000 in
theorem mk_29 : ab_MK cm_ms mr_29 := wz_MK wz_C3 wz_W3k rfl (lw_in_3 (p := 161) rfl) (ks := [0, 0, 0, 0, 0, 0, 17, 0, 0, 0, 0, 0, 18, 0, 0, 0, 0, 0, 0, 0, 0, 0, 0, 0]) (by decide +kernel)
set_option maxRecDepth 1000000 in
theorem mk_30 : ab_MK cm_ms mr_30 := wz_MK wz_C3 wz_W3k rfl (lw_in_3 (p := 190) rfl) (ks := [0, 0, 0, 0, 0, 0, 9, 0, 0, 0, 0, 0, 18, 0, 0, 0, 0, 0, 0, 0, 0, 0, 0, 0]) (by decide +kernel)
set_option maxRecDepth 1000000 in
theorem mk_31 : ab_MK cm_ms mr_31 := wz_MK wz_C3 wz_W3k rfl (lw_in_3 (p := 186) rfl) (ks := [0, 0, 0, 0, 19, 20, 0]) (by decide +kernel)
set_option maxRecDepth 1000000 in
theorem mk_32 : ab_MK cm_ms mr_32 := wz_MK wz_C3 wz_W3k rfl (lw_in_3 (p := 224) rfl) (ks := [0, 0, 0, 21, 0, 22, 0, 0, 0, 0, 0, 0, 0]) (by decide +kernel)
set_option maxRecDepth 1000000 in
theorem mk_33 : ab_MK cm_ms mr_33 := wz_MK wz_C3 wz_W3k rfl (lw_in_3 (p := 177) rfl) (ks := [0, 7, 0, 0, 0, 0, 0, 0, 0, 0, 0]) (by decide +kernel)
set_option maxRecDepth 1000000 in
theorem mk_34 : ab_MK cm_ms mr_34 := wz_MK wz_C3 wz_W3k rfl (lw_in_3 (p := 181) rfl) (ks := [0, 0, 23, 0, 0, 24, 0, 0, 0, 7, 0, 0, 0, 0, 0, 0, 0, 0]) (by decide +kernel)
set_option maxRecDepth 1000000 in
theorem mk_35 : ab_MK cm_ms mr_35 := wz_MK wz_C3 wz_W3k rfl (lw_in_4 (p := 80) rfl) (ks := [0, 0, 0, 19, 0, 0, 0, 20, 0, 22, 0, 0, 0, 0, 0, 0, 0, 0, 0, 0, 0, 9, 0, 0, 0, 0, 0, 0, 0, 0, 0, 0, 0, 15, 0, 0, 25, 0, 0, 0, 0, 0, 0, 7, 0, 0, 0, 0, 5, 0, 0]) (by decide +kernel)
set_option maxRecDepth 1000000 in
theorem mk_36 : ab_MK cm_ms mr_36 := wz_MK wz_C3 wz_W3k rfl (lw_in_4 (p := 84) rfl) (ks := [0, 26, 0, 0, 0, 0, 2, 0, 0, 0, 0, 0, 0, 0, 0, 0, 0, 0, 0, 4, 0, 0, 0, 0, 0, 0, 0]) (by decide +kernel)
set_option maxRecDepth 1000000 in
theorem mk_37 : ab_MK cm_ms mr_37 := wz_MK wz_C3 wz_W3k rfl (lw_in_4 (p := 130) rfl) (ks := [0, 0, 0, 13, 0, 0, 0, 0, 0, 27, 0, 0, 0, 0, 0, 0, 0, 0, 0, 0, 0, 0, 0, 0, 9, 0, 0, 0, 0, 0, 0, 0, 0, 0, 0, 20, 0, 0, 0, 0, 0, 0, 28, 0, 0, 0, 0, 0, 0, 0, 0, 0, 0]) (by decide +kernel)
set_option maxRecDepth 1000000 in
theorem mk_38 : ab_MK cm_ms mr_38 := wz_MK wz_C4 wz_W4k rfl (lw_in_3 (p := 133) rfl) (ks := [0, 0, 1, 0, 0, 2, 0]) (by decide +kernel)
set_option maxRecDepth 1000000 in
theorem mk_39 : ab_MK cm_ms mr_39 := wz_MK wz_C4 wz_W4k rfl (lw_in_5 (p := 107) rfl) (ks := [0, 3, 0, 4, 0, 0, 5, 0, 0, 4, 0, 0, 0, 0, 6, 0, 0, 0, 7, 0, 0, 8, 1, 0]) (by decide +kernel)
set_option maxRecDepth 1000000 in
theorem mk_40 : ab_MK cm_ms mr_40 := wz_MK wz_C4 wz_W4k rfl (lw_in_5 (p := 127) rfl) (ks := [0, 7, 0, 0, 0, 0, 0, 4, 0, 0, 0, 0, 0, 0, 6, 0, 0, 7, 0, 0, 1, 0, 0, 3, 0, 4, 0, 5, 0, 0]) (by decide +kernel)
set_option maxRecDepth 1000000 in
theorem mk_41 : ab_MK cm_ms mr_41 := wz_MK wz_C4 wz_W4k rfl (lw_in_5 (p := 135) rfl) (ks := [0, 9, 0, 0, 0, 0, 0, 10, 0, 9, 0, 0, 5, 0, 0, 9, 0, 0, 2, 0, 9, 0, 0, 0]) (by decide +kernel)
set_option maxRecDepth 1000000 in
theorem mk_42 : ab_MK cm_ms mr_42 := wz_MK wz_C4 wz_W4k rfl (lw_in_5 (p := 143) rfl) (ks := [0, 0, 0, 0, 9, 0, 0, 0, 0, 0, 10, 0, 0, 5, 0, 0, 1, 0, 0]) (by decide +kernel)
set_option maxRecDepth 1000000 in
theorem mk_43 : ab_MK cm_ms mr_43 := wz_MK wz_C1 wz_W1k rfl (lw_in_4 (p := 63) rfl) (ks := [0, 0, 0, 0, 0, 0, 0, 0, 0, 0, 0, 0, 0, 0, 0, 0, 0, 0, 0, 0, 0, 0, 0, 0, 0, 0, 0, 0, 1, 0, 0, 0, 0, 0, 0, 0]) (by decide +kernel)
set_option maxRecDepth 1000000 in
theorem mk_44 : ab_MK cm_ms mr_44 := wz_MK wz_C1 wz_W1k rfl (lw_in_4 (p := 69) rfl) (ks := [0, 2, 0, 0, 0, 3, 0, 0, 0, 0, 0, 0, 0, 0, 0, 0, 0, 0, 0, 0, 0, 0, 0, 0, 0, 0, 0, 0, 0, 0, 4, 0, 0, 0, 0, 0, 0, 0, 0, 0, 0, 0, 0, 0, 0]) (by decide +kernel)
set_option maxRecDepth 1000000 in
theorem mk_45 : ab_MK cm_ms mr_45 := wz_MK wz_C1 wz_W1k rfl (lw_in_4 (p := 92) rfl) (ks := [0, 0, 0, 5, 6, 0, 0, 7, 0, 0, 8, 0, 0, 9, 0, 2, 0, 0, 0, 3, 0, 0, 0, 0, 0, 10, 0]) (by decide +kernel)
set_option maxRecDepth 1000000 in
theorem mk_46 : ab_MK cm_ms mr_46 := wz_MK wz_C1 wz_W1k rfl (lw_in_4 (p := 97) rfl) (ks := [0, 0, 11, 0, 0, 0, 12, 0, 0, 0, 8, 0, 0, 7, 0, 0, 2, 0, 0, 13, 9, 0, 0, 0, 0, 0, 1, 0, 0, 0, 0, 0, 4, 0, 0, 0, 0, 0, 0, 0, 0, 0, 0, 0, 0, 0, 0, 0, 0, 0, 10, 0, 0, 0]) (by decide +kernel)
set_option maxRecDepth 1000000 in
theorem mk_47 : ab_MK cm_ms mr_47 := wz_MK wz_C1 wz_W1k rfl (lw_in_4 (p := 74) rfl) (ks := [0, 0, 0, 0, 0, 0, 0, 0, 0, 0, 0, 1, 0, 0, 0, 0, 0, 0, 2, 0, 0, 0, 0, 14, 0, 0, 0, 0, 2, 0, 0, 0, 0, 0, 0, 0, 2, 0, 0, 3, 0, 0, 15, 0, 0, 0, 0, 0, 16, 0, 0, 17, 0, 0, 0, 0, 0]) (by decide +kernel)
set_option maxRecDepth 1000000 in
theorem mk_48 : ab_MK cm_ms mr_48 := wz_MK wz_C1 wz_W1k rfl (lw_in_4 (p := 113) rfl) (ks := [0, 2, 0, 0, 0, 3, 0, 0, 0, 0, 0, 0, 0, 6, 0, 0, 0, 0, 18, 0, 0, 0, 0, 0, 0, 0]) (by decide +kernel)
set_option maxRecDepth 1000000 in
theorem mk_49 : ab_MK cm_ms mr_49 := wz_MK wz_C1 wz_W1k rfl (lw_in_4 (p := 117) rfl) (ks := [0, 0, 11, 0, 0, 2, 0, 0, 0, 19, 0, 0, 0, 11, 0, 0, 0, 0, 0, 0, 0, 0, 0, 0, 0, 11, 0, 0, 0, 0, 0, 0, 0, 0, 1, 0, 0, 0, 0, 0, 0, 0, 0, 0, 0, 4, 0, 0, 0, 0, 0, 0, 0, 0, 18, 0, 0, 0, 0, 0, 0, 0]) (by decide +kernel)
set_option maxRecDepth 1000000 in
theorem mk_50 : ab_MK cm_ms mr_50 := wz_MK wz_C7 wz_W7k rfl (lw_in_4 (p := 198) rfl) (ks := [0, 0, 1, 0, 2, 0, 0, 0, 1, 0, 3, 0, 0, 0, 0, 0, 0, 0, 0, 4, 0]) (by decide +kernel)
set_option maxRecDepth 1000000 in
theorem mk_51 : ab_MK cm_ms mr_51 := wz_MK wz_C7 wz_W7k rfl (lw_in_4 (p := 202) rfl) (ks := [0, 0, 2, 0, 0, 0, 0, 0, 0, 0, 0, 5, 0, 0, 0, 0, 0, 2, 0, 0, 0, 0, 0, 0, 0, 0, 3, 0, 0, 0, 0, 0, 0, 0, 0, 0, 0, 0, 0, 0, 0, 0, 0, 3, 0, 0, 0, 0, 0, 6, 0, 4, 0, 0, 0]) (by decide +kernel)
set_option maxRecDepth 1000000 in
theorem mk_52 : ab_MK cm_ms mr_52 := wz_MK wz_C7 wz_W7k rfl (lw_in_4 (p := 206) rfl) (ks := [0, 0, 0, 3, 0, 0, 0, 0, 0, 6, 0, 0, 0, 0, 7, 0, 0, 0, 1, 0, 3, 0, 0, 8, 0, 0, 9, 0]) (by decide +kernel)
set_option maxRecDepth 1000000 in
theorem mk_53 : ab_MK cm_ms mr_53 := wz_MK wz_C6 wz_W6k rfl (lw_in_4 (p := 224) rfl) (ks := [0, 0, 1, 0, 0, 0, 0, 0, 2, 0, 0, 0, 0, 0, 3, 0, 0, 4, 0, 5, 0, 0, 0, 0, 5, 0, 0, 1, 0, 0, 0]) (by decide +kernel)
set_option maxRecDepth 1000000 in
theorem mk_54 : ab_MK cm_ms mr_54 := wz_MK wz_C6 wz_W6k rfl (lw_in_4 (p := 228) rfl) (ks := [0, 6, 0, 7, 0, 0, 0, 0, 2, 0, 0, 0, 0, 0, 0, 0, 0, 6, 0, 0, 8, 0, 0, 0, 0, 0, 0, 0, 0, 0, 6, 9, 0, 0, 0, 10, 0, 0, 0, 0, 0, 0, 0, 0, 0]) (by decide +kernel)
set_option maxRecDepth 1000000 in
theorem mk_55 : ab_MK cm_ms mr_55 := wz_MK wz_C6 wz_W6k rfl (lw_in_5 (p := 2) rfl) (ks := [0, 0, 0, 0, 0, 0, 5, 0, 0, 0, 4, 0, 0, 0, 0, 0, 0, 0, 0]) (by decide +kernel)
set_option maxRecDepth 1000000 in
theorem mk_56 : ab_MK cm_ms mr_56 := wz_MK wz_C6 wz_W6k rfl (lw_in_5 (p := 10) rfl) (ks := [0, 5, 0, 0, 0, 0, 4, 0, 0, 0, 0, 0, 0, 0, 5, 0, 0, 0, 4, 0, 0, 0, 0, 0, 0, 0, 0]) (by decide +kernel)
set_option maxRecDepth 1000000 in
theorem mk_57 : ab_MK cm_ms mr_57 := wz_MK wz_C6 wz_W6k rfl (lw_in_5 (p := 22) rfl) (ks := [0, 0, 0, 0, 0, 0, 5, 0, 0, 0, 4, 0, 0, 0, 0, 0, 0, 0, 0, 0, 0, 0, 0, 5, 0, 0, 11, 0]) (by decide +kernel)
set_option maxRecDepth 1000000 in
theorem mk_58 : ab_MK cm_ms mr_58 := wz_MK wz_C6 wz_W6k rfl (lw_in_5 (p := 18) rfl) (ks := [0, 0, 0, 5, 0, 0, 0, 0, 0, 0, 5, 0, 0, 0, 2, 0, 0, 0, 12, 0, 0, 0, 0, 0, 0, 0, 0, 0, 0, 0, 0]) (by decide +kernel)
set_option maxRecDepth 1000000 in
theorem mk_59 : ab_MK cm_ms mr_59 := wz_MK wz_C2 wz_W2k rfl (lw_in_5 (p := 60) rfl) (ks := [0, 0, 0, 1, 0, 0, 0, 0, 0, 0, 0, 0, 2, 0, 0, 0, 0, 0, 0, 0, 0, 3, 0, 4, 0, 0, 0, 0, 5, 0, 0, 0, 6, 0, 7, 0, 0, 6, 0, 0, 2, 0, 0, 7, 0, 0, 0, 0, 0, 0, 0, 0, 0, 2, 7, 8, 0]) (by decide +kernel)
set_option maxRecDepth 1000000 in
theorem mk_60 : ab_MK cm_ms mr_60 := wz_MK wz_C2 wz_W2k rfl (lw_in_5 (p := 78) rfl) (ks := [0, 0, 0, 0, 9, 0, 0, 0, 6, 0, 0, 0, 10, 8, 0]) (by decide +kernel)
set_option maxRecDepth 1000000 in
theorem mk_61 : ab_MK cm_ms mr_61 := wz_MK wz_C2 wz_W2k rfl (lw_in_5 (p := 66) rfl) (ks := [0, 0, 0, 0, 0, 0, 0, 0, 0, 0, 0, 0, 0, 0, 0, 0]) (by decide +kernel)
set_option maxRecDepth 1000000 in
theorem mk_62 : ab_MK cm_ms mr_62 := wz_MK wz_C2 wz_W2k rfl (lw_in_5 (p := 70) rfl) (ks := [0, 0, 0, 0, 0, 0, 0, 0, 0, 0, 0, 0, 0, 0, 0, 0, 0, 0, 0, 0, 0, 0, 0, 0, 0, 0, 0, 0, 0, 0, 0, 0, 0, 11, 0, 0, 0, 0, 0, 0, 0, 0, 0, 0, 12, 0]) (by decide +kernel)
set_option maxRecDepth 1000000 in
theorem mk_63 : ab_MK cm_ms mr_63 := wz_MK wz_C2 wz_W2k rfl (lw_in_5 (p := 93) rfl) (ks := [0, 0, 13, 0, 0, 0, 0, 2, 0, 0, 0, 0, 14, 0, 0, 0, 15, 0, 16, 0, 14, 0, 0, 0, 6, 0, 0, 17, 0, 0, 0, 0, 0, 0]) (by decide +kernel)
set_option maxRecDepth 1000000 in
theorem mk_64 : ab_MK cm_ms mr_64 := wz_MK wz_C5 wz_W5k rfl (lw_in_2 (p := 152) rfl) (ks := [0, 0, 1, 0, 0, 0, 0, 2, 3, 0, 0, 4, 0, 0, 5, 0, 6, 7, 0, 0, 8, 0, 0, 9, 0, 0, 10, 0, 11, 0, 12, 0, 0, 0, 0, 0, 0, 13, 0, 0, 14, 0, 0, 0, 11, 0, 12, 0, 0, 0, 14, 0, 0, 0, 15, 0, 6, 16, 0, 0, 0, 15, 0, 13, 0]) (by decide +kernel)
set_option maxRecDepth 1000000 in
theorem mk_65 : ab_MK cm_ms mr_65 := wz_MK wz_C5 wz_W5k rfl (lw_in_3 (p := 122) rfl) (ks := [0, 17, 0]) (by decide +kernel)
set_option maxRecDepth 1000000 in
theorem mk_66 : ab_MK cm_ms mr_66 := wz_MK wz_C5 wz_W5k rfl (lw_in_3 (p := 17) rfl) (ks := [0, 13, 0, 0, 0, 9, 0]) (by decide +kernel)
set_option maxRecDepth 1000000 in
theorem mk_67 : ab_MK cm_ms mr_67 := wz_MK wz_C5 wz_W5k rfl (lw_in_2 (p := 186) rfl) (ks := [0, 18, 0, 0, 0, 0, 0, 0, 15, 0, 0, 0, 0, 19, 0, 0, 0, 15, 0, 0, 0, 0, 19, 0, 0, 0, 15, 0, 0, 0, 20, 0, 21, 0, 0, 0, 15, 0, 11, 0, 13, 0, 0, 0, 0, 0, 0, 22, 0, 0, 23, 0, 0, 24, 0, 0, 25, 0, 0, 26, 0, 0, 27, 0, 0, 28, 0, 0, 29, 0, 0]) (by decide +kernel)
set_option maxRecDepth 1000000 in
theorem mk_68 : ab_MK cm_ms mr_68 := wz_MK wz_C5 wz_W5k rfl (lw_in_3 (p := 38) rfl) (ks := [0, 0, 0, 0, 0, 0, 0, 0, 0, 0, 0, 0, 0, 0, 0, 0]) (by decide +kernel)
set_option maxRecDepth 1000000 in
theorem mk_69 : ab_MK cm_ms mr_69 := wz_MK wz_C5 wz_W5k rfl (lw_in_3 (p := 21) rfl) (ks := [0, 0, 0, 6, 16, 0, 0, 6, 30, 0, 0, 6, 31, 0, 6, 16, 32, 0, 0, 6, 33, 0, 6, 30, 32, 0, 0, 6, 34, 0, 0, 6, 35, 0, 0, 0]) (by decide +kernel)
set_option maxRecDepth 1000000 in
theorem mk_70 : ab_MK cm_ms mr_70 := wz_MK wz_C5 wz_W5k rfl (lw_in_3 (p := 42) rfl) (ks := [0, 0, 36, 0, 6, 0, 0, 0, 37, 38, 0, 0, 36, 0, 6, 0, 0, 0, 37, 39, 0, 0, 36, 0, 6, 0, 0, 0, 37, 40, 0, 0, 8, 0]) (by decide +kernel)
set_option maxRecDepth 1000000 in
theorem mk_71 : ab_MK cm_ms mr_71 := wz_MK wz_C5 wz_W5k rfl (lw_in_3 (p := 57) rfl) (ks := [0, 0, 0, 6, 16, 41, 0, 42, 0, 0, 11, 0, 0, 36, 0, 0, 0, 37, 0, 0, 0, 36, 0, 0, 0, 37, 0, 0, 13, 0, 0, 6, 0, 0, 0, 43, 0]) (by decide +kernel)
set_option maxRecDepth 1000000 in
theorem mk_72 : ab_MK cm_ms mr_72 := wz_MK wz_C5 wz_W5k rfl (lw_in_3 (p := 82) rfl) (ks := [0, 0, 0, 6, 30, 41, 0, 0, 36, 0, 0, 0, 37, 0, 0, 0, 36, 0, 0, 0, 37, 0, 0, 0, 36, 0, 0, 0, 37, 0, 0, 13, 0, 0, 6, 0, 0, 0, 44, 0]) (by decide +kernel)
set_option maxRecDepth 1000000 in
theorem mk_73 : ab_MK cm_ms mr_73 := wz_MK wz_C5 wz_W5k rfl (lw_in_3 (p := 93) rfl) (ks := [0, 0, 45, 0, 0, 11, 0, 0, 45, 0, 0, 0, 0, 0, 0, 0, 0, 0, 6, 31, 0, 0, 0, 0, 0, 0, 0, 0, 0, 15, 0, 0, 6, 31, 0, 0, 0, 0, 0, 0, 0, 0, 0, 11, 0]) (by decide +kernel)
set_option maxRecDepth 1000000 in
theorem mk_74 : ab_MK cm_ms mr_74 := wz_MK wz_C5 wz_W5k rfl (lw_in_3 (p := 101) rfl) (ks := [0, 0, 45, 0, 0, 11, 0, 0, 45, 0, 0, 0, 0, 0, 0, 0, 0, 0, 6, 33, 0, 0, 0, 0, 0, 0, 0, 0, 0, 15, 0, 0, 0, 0, 0, 0, 15, 0, 0, 6, 33, 0, 0, 0, 0, 0, 0, 0, 0, 0, 11, 0]) (by decide +kernel)
set_option maxRecDepth 1000000 in
theorem mk_75 : ab_MK cm_ms mr_75 := wz_MK wz_C5 wz_W5k rfl (lw_in_3 (p := 105) rfl) (ks := [0, 0, 45, 0, 0, 11, 0, 0, 45, 0, 0, 0, 0, 0, 0, 0, 0, 0, 0, 0, 0, 6, 46, 0, 0, 0, 0, 0, 0, 0, 0, 0, 15, 0, 0, 6, 46, 0, 0, 0, 0, 0, 0, 0, 0, 0, 6, 46, 0, 0, 0, 0, 0, 0, 0, 0, 0, 11, 0]) (by decide +kernel)
set_option maxRecDepth 1000000 in
theorem mk_76 : ab_MK cm_ms mr_76 := wz_MK wz_C5 wz_W5k rfl (lw_in_3 (p := 109) rfl) (ks := [0, 0, 0, 6, 35, 41, 0, 0, 36, 0, 0, 0, 37, 0, 0, 13, 0, 0, 6, 0, 47, 0]) (by decide +kernel)
set_option maxRecDepth 1000000 in
theorem mk_77 : ab_MK cm_ms mr_77 := wz_MK wz_C5 wz_W5k rfl (lw_in_3 (p := 118) rfl) (ks := [0, 42, 0, 0, 0, 0, 0, 0, 6, 48, 0, 0, 0, 0, 0, 0, 0, 15, 0, 0, 11, 0, 0, 0, 37, 0, 0, 13, 0, 0, 0, 0, 0, 6, 49, 0, 0, 0, 0, 6, 0, 48, 0, 0, 0, 0, 50, 0]) (by decide +kernel)
set_option maxRecDepth 1000000 in
theorem mk_78 : ab_MK cm_ms mr_78 := wz_MK wz_C5 wz_W5k rfl (lw_in_3 (p := 47) rfl) (ks := [0, 0, 51, 0, 0, 0, 15, 0, 11, 0]) (by decide +kernel)
set_option maxRecDepth 1000000 in
theorem mk_79 : ab_MK cm_ms mr_79 := wz_MK wz_C5 wz_W5k rfl (lw_in_3 (p := 51) rfl) (ks := [0, 14, 0, 0, 0, 0, 15, 0, 0, 52, 0, 0, 0, 52, 0, 0, 0, 0, 15, 0, 52, 0, 0, 11, 0, 0]) (by decide +kernel)
set_option maxRecDepth 1000000 in
theorem mk_80 : ab_MK cm_ms mr_80 := wz_MK wz_C5 wz_W5k rfl (lw_in_3 (p := 61) rfl) (ks := [0, 14, 0, 0, 0, 18, 0, 0, 0, 0, 15, 0, 0, 53, 0, 0, 0, 0, 15, 0, 13, 0, 0, 54, 0, 0, 0, 55, 0, 54, 0, 56, 0, 0, 57, 0, 54, 0, 0, 0, 58, 0, 54, 0, 0, 0, 0, 54, 0, 0, 10, 0, 11, 0]) (by decide +kernel)
set_option maxRecDepth 1000000 in
theorem mk_81 : ab_MK cm_ms mr_81 := wz_MK wz_C5 wz_W5k rfl (lw_in_3 (p := 97) rfl) (ks := [0, 53, 0, 0, 14, 0, 0, 0, 18, 0, 0, 0, 0, 15, 0, 0, 0, 0, 0, 57, 0, 0, 0, 0, 0, 0, 15, 0, 13, 0, 0, 0, 0, 0, 0, 0, 58, 0, 0, 0]) (by decide +kernel)
set_option maxRecDepth 1000000 in
theorem mk_82 : ab_MK cm_ms mr_82 := wz_MK wz_C5 wz_W5k rfl (lw_in_3 (p := 65) rfl) (ks := [0, 0, 0, 0, 54, 0, 0, 14, 0, 0, 0, 55, 0, 0, 0, 56, 0, 0, 0, 0, 0, 0, 0, 0]) (by decide +kernel)
set_option maxRecDepth 1000000 in
theorem mk_83 : ab_MK cm_ms mr_83 := wz_MK wz_C5 wz_W5k rfl (lw_in_3 (p := 69) rfl) (ks := [0, 0, 51, 0, 0, 0, 0, 0, 51, 0, 0, 0, 0, 0, 51, 0, 0, 0, 0, 0, 15, 0, 0]) (by decide +kernel)
set_option maxRecDepth 1000000 in
theorem mk_84 : ab_MK cm_ms mr_84 := wz_MK wz_C5 wz_W5k rfl (lw_in_2 (p := 190) rfl) (ks := [0, 0, 0, 0, 0, 0, 0, 59, 51, 0, 0, 0, 0, 0, 0, 0]) (by decide +kernel)
set_option maxRecDepth 1000000 in
theorem mk_85 : ab_MK cm_ms mr_85 := wz_MK wz_C5 wz_W5k rfl (lw_in_2 (p := 193) rfl) (ks := [0, 0, 0, 0, 0, 0, 0, 0, 0, 0, 0, 0, 0, 0, 0, 0, 0, 0]) (by decide +kernel)
set_option maxRecDepth 1000000 in
theorem mk_86 : ab_MK cm_ms mr_86 := wz_MK wz_C5 wz_W5k rfl (lw_in_2 (p := 205) rfl) (ks := [0, 0, 0, 0, 0, 0, 60, 0, 0, 0, 0, 61, 62, 0, 0, 0, 0, 14, 0, 0, 0, 56, 0, 0, 0, 0, 0, 0, 0]) (by decide +kernel)
set_option maxRecDepth 1000000 in
theorem mk_87 : ab_MK cm_ms mr_87 := wz_MK wz_C5 wz_W5k rfl (lw_in_2 (p := 173) rfl) (ks := [0, 63, 0, 0, 0, 0, 64, 0, 0, 0, 0]) (by decide +kernel)
set_option maxRecDepth 1000000 in
theorem mk_88 : ab_MK cm_ms mr_88 := wz_MK wz_C5 wz_W5k rfl (lw_in_2 (p := 163) rfl) (ks := [0, 13, 0, 0, 0, 65, 0, 66, 0, 0, 67, 0, 65, 0, 0, 0, 0, 0, 65, 0, 0, 4, 0, 0, 0, 65, 68, 0, 0, 69, 0, 0, 70, 0, 65, 0, 66, 0, 0, 0, 71, 0, 0, 67, 0, 65, 0, 72, 0, 0, 73, 0, 0, 67, 0, 65, 0, 74, 0, 0, 75, 0, 0, 0, 67, 0, 65, 0, 0, 0, 0, 0, 0, 71, 0, 0, 65, 0, 0, 4, 0]) (by decide +kernel)
set_option maxRecDepth 1000000 in
theorem mk_89 : ab_MK cm_ms mr_89 := wz_MK wz_C5 wz_W5k rfl (lw_in_2 (p := 170) rfl) (ks := [0, 65, 0, 66, 0, 0, 67, 0, 65, 0, 72, 0, 0, 0, 56, 0, 67, 0, 65, 0, 62, 70, 0, 0, 65, 0, 0, 4, 0, 0, 0, 65, 0, 17, 0, 0, 0, 0, 0, 0, 71, 0]) (by decide +kernel)
set_option maxRecDepth 1000000 in
theorem mk_90 : ab_MK cm_ms mr_90 := wz_MK wz_C5 wz_W5k rfl (lw_in_2 (p := 182) rfl) (ks := [0, 65, 0, 66, 0, 0, 67, 0, 65, 0, 74, 0, 0, 0, 52, 0, 0, 0, 67, 0, 65, 0, 0, 0, 0, 69, 0, 0, 65, 0, 0, 4, 0, 0, 0, 65, 0, 17, 0, 0, 0, 0, 0, 0, 71, 0]) (by decide +kernel)
set_option maxRecDepth 1000000 in
theorem mk_91 : ab_MK cm_ms mr_91 := wz_MK wz_C5 wz_W5k rfl (lw_in_2 (p := 166) rfl) (ks := [0, 0, 0, 0, 0, 0, 0, 0, 0, 0]) (by decide +kernel)
set_option maxRecDepth 1000000 in
theorem mk_92 : ab_MK cm_ms mr_92 := wz_MK wz_C5 wz_W5k rfl (lw_in_2 (p := 178) rfl) (ks := [0, 0, 0, 0, 0, 0, 0, 0, 0, 0]) (by decide +kernel)
set_option maxRecDepth 1000000 in
theorem mk_93 : ab_MK cm_ms mr_93 := wz_MK wz_C0 wz_W0k rfl (lw_in_2 (p := 136) rfl) (ks := [0, 1, 0, 0, 0, 0, 0, 0, 0, 0, 2, 0, 0, 2, 0, 0, 2, 0, 0, 2, 0, 0, 2, 0, 1, 0]) (by decide +kernel)
set_option maxRecDepth 1000000 in
theorem mk_94 : ab_MK cm_ms mr_94 := wz_MK wz_C0 wz_W0k rfl (lw_in_2 (p := 140) rfl) (ks := [0, 0, 0, 0, 0, 1, 0, 0, 0, 3, 0, 1, 0, 0, 0, 0, 0, 0, 0, 1, 0, 0, 4, 0, 0, 0]) (by decide +kernel)
set_option maxRecDepth 1000000 in
theorem mk_95 : ab_MK cm_ms mr_95 := wz_MK wz_C0 wz_W0k rfl (lw_in_2 (p := 144) rfl) (ks := [0, 0, 0, 0, 1, 0, 0, 0, 5, 0, 0, 0, 4, 0, 0, 6, 0, 3, 0, 0, 7, 8, 9, 0, 10, 0, 0, 0, 6, 11, 12, 0, 0, 5, 0, 0, 7, 0, 0, 0, 13, 14, 0, 0, 15, 0, 16, 0, 13, 17, 0, 18, 19, 0, 0, 13, 20, 21, 0]) (by decide +kernel)
set_option maxRecDepth 1000000 in
theorem mk_96 : ab_MK cm_ms mr_96 := wz_MK wz_C0 wz_W0k rfl (lw_in_3 (p := 141) rfl) (ks := [0, 10, 0]) (by decide +kernel)
set_option maxRecDepth 1000000 in
theorem mk_97 : ab_MK cm_ms mr_97 := wz_MK wz_C0 wz_W0k rfl (lw_in_3 (p := 145) rfl) (ks := [0, 22, 0, 0, 0, 23, 0, 0, 0]) (by decide +kernel)
set_option maxRecDepth 1000000 in
theorem mk_98 : ab_MK cm_ms mr_98 := wz_MK wz_C0 wz_W0k rfl (lw_in_3 (p := 149) rfl) (ks := [0, 0, 24, 0, 0, 0, 0, 0, 0, 0, 0, 5, 0, 0, 0, 0, 0, 13, 25, 0, 0, 21, 0, 0, 0, 16, 26, 0, 0, 21, 0, 0, 0, 13, 27, 0, 0, 21, 0, 0, 0, 16, 0, 13, 0, 28, 0, 0, 0, 0, 21, 0, 0, 0, 13, 29, 0, 0, 21, 0, 0, 0, 13, 30, 0, 0, 21, 0, 0, 0, 16, 0, 13, 0, 31, 21, 0]) (by decide +kernel)
set_option maxRecDepth 1000000 in
theorem mk_99 : ab_MK cm_ms mr_99 := wz_MK wz_C0 wz_W0k rfl (lw_in_3 (p := 169) rfl) (ks := [0, 0, 32, 0, 0, 0, 0, 0, 0, 0, 0, 5, 0, 0, 0, 0, 0, 13, 33, 0, 0, 21, 0, 0, 0, 13, 34, 0, 0, 21, 0, 0, 0, 13, 35, 0, 0, 21, 0, 0, 0, 13, 36, 0, 0, 21, 0, 0, 0, 16, 0, 37, 0, 0, 0, 0, 21, 0, 0, 0, 16, 0, 13, 0, 38, 0, 0, 0, 0, 21, 0, 0, 0, 16, 0, 13, 0, 39, 21, 0, 0, 0, 16, 0, 13, 0, 40, 21, 0]) (by decide +kernel)
set_option maxRecDepth 1000000 in
theorem mk_100 : ab_MK cm_ms mr_100 := wz_MK wz_C0 wz_W0k rfl (lw_in_3 (p := 199) rfl) (ks := [0, 41, 0, 0, 0, 0, 0, 0, 0, 0, 5, 0, 0, 0, 16, 42, 0, 0, 21, 0]) (by decide +kernel)
set_option maxRecDepth 1000000 in
theorem mk_101 : ab_MK cm_ms mr_101 := wz_MK wz_C0 wz_W0k rfl (lw_in_3 (p := 207) rfl) (ks := [0, 41, 0, 0, 0, 5, 0, 0, 0, 16, 0, 13, 43, 21, 0]) (by decide +kernel)
set_option maxRecDepth 1000000 in
theorem mk_102 : ab_MK cm_ms mr_102 := wz_MK wz_C0 wz_W0k rfl (lw_in_3 (p := 216) rfl) (ks := [0, 41, 0, 0, 0, 5, 0, 0, 0, 0, 0, 0, 0, 13, 20, 0, 0, 16, 26, 0, 0, 0, 16, 26, 0, 0, 0, 0, 0, 0, 0, 0, 0, 21, 0]) (by decide +kernel)
set_option maxRecDepth 1000000 in
theorem mk_103 : ab_MK cm_ms mr_103 := wz_MK wz_C0 wz_W0k rfl (lw_in_3 (p := 220) rfl) (ks := [0, 41, 0, 0, 0, 5, 0, 0, 0, 0, 0, 0, 0, 13, 44, 0, 0, 16, 0, 13, 0, 38, 0, 0, 16, 0, 13, 0, 45, 0, 0, 0, 0, 0, 0, 0, 0, 0, 0, 0, 21, 0]) (by decide +kernel)
set_option maxRecDepth 1000000 in
theorem mk_104 : ab_MK cm_ms mr_104 := wz_MK wz_C0 wz_W0k rfl (lw_in_3 (p := 229) rfl) (ks := [0, 41, 0, 0, 0, 5, 0, 0, 0, 13, 0, 16, 0, 13, 46, 47, 21, 0]) (by decide +kernel)
set_option maxRecDepth 1000000 in
theorem mk_105 : ab_MK cm_ms mr_105 := wz_MK wz_C0 wz_W0k rfl (lw_in_3 (p := 239) rfl) (ks := [0, 0, 32, 0, 0, 0, 5, 0, 0, 0, 13, 0, 48, 21, 0]) (by decide +kernel)
set_option maxRecDepth 1000000 in
theorem mk_106 : ab_MK cm_ms mr_106 := wz_MK wz_C0 wz_W0k rfl (lw_in_4 (p := 7) rfl) (ks := [0, 0, 32, 0, 0, 0, 5, 0, 0, 0, 13, 0, 49, 21, 0]) (by decide +kernel)
set_option maxRecDepth 1000000 in
theorem mk_107 : ab_MK cm_ms mr_107 := wz_MK wz_C0 wz_W0k rfl (lw_in_4 (p := 15) rfl) (ks := [0, 0, 24, 0, 0, 0, 5, 0, 0, 0, 0, 0, 0, 0, 0, 5, 0, 0, 0, 50, 0, 0, 51, 26, 0, 0, 21, 0]) (by decide +kernel)
set_option maxRecDepth 1000000 in
theorem mk_108 : ab_MK cm_ms mr_108 := wz_MK wz_C0 wz_W0k rfl (lw_in_4 (p := 32) rfl) (ks := [0, 0, 32, 0, 0, 0, 5, 0, 0, 0, 0, 0, 0, 0, 0, 5, 0, 0, 0, 50, 0, 0, 51, 0, 13, 0, 39, 21, 0]) (by decide +kernel)
set_option maxRecDepth 1000000 in
theorem mk_109 : ab_MK cm_ms mr_109 := wz_MK wz_C0 wz_W0k rfl (lw_in_4 (p := 36) rfl) (ks := [0, 0, 32, 0, 0, 0, 5, 0, 0, 0, 0, 52, 21, 0]) (by decide +kernel)
set_option maxRecDepth 1000000 in
theorem mk_110 : ab_MK cm_ms mr_110 := wz_MK wz_C0 wz_W0k rfl (lw_in_4 (p := 44) rfl) (ks := [0, 41, 0, 0, 0, 5, 0, 0, 51, 0, 16, 53, 0, 0, 0, 0, 0, 0, 51, 0, 13, 43, 0, 0, 0, 21, 0, 0, 51, 0, 13, 54, 0, 0, 0, 0, 21, 0]) (by decide +kernel)
set_option maxRecDepth 1000000 in
theorem mk_111 : ab_MK cm_ms mr_111 := wz_MK wz_C0 wz_W0k rfl (lw_in_4 (p := 48) rfl) (ks := [0, 41, 0, 0, 0, 5, 0, 0, 0, 0, 0, 0, 0, 0, 0, 13, 44, 0, 0, 16, 0, 13, 0, 38, 0, 0, 0, 52, 0, 0, 0, 0, 0, 0, 0, 0, 0, 0, 0, 0, 0, 0, 0, 0, 0, 21, 0]) (by decide +kernel)
set_option maxRecDepth 1000000 in
theorem mk_112 : ab_MK cm_ms mr_112 := wz_MK wz_C0 wz_W0k rfl (lw_in_4 (p := 19) rfl) (ks := [0, 51, 0, 16, 53, 0, 0, 0, 0, 0, 0, 51, 0, 13, 54, 0, 0, 0]) (by decide +kernel)
set_option maxRecDepth 1000000 in
theorem mk_113 : ab_MK cm_ms mr_113 := wz_MK wz_C0 wz_W0k rfl (lw_in_4 (p := 40) rfl) (ks := [0, 51, 0, 16, 53, 0, 0, 0, 0, 0, 0, 51, 0, 13, 0, 45, 0, 0, 0, 0, 51, 0, 13, 54, 0, 0, 0, 0]) (by decide +kernel)
set_option maxRecDepth 1000000 in
theorem mk_114 : ab_MK cm_ms mr_114 := wz_MK wz_C0 wz_W0k rfl (lw_in_4 (p := 52) rfl) (ks := [0, 0, 55, 0, 0, 0, 0, 13, 0, 0, 56, 0, 0, 0, 5, 0, 0, 57, 0, 13, 0, 16, 0, 0, 58, 0, 0, 0, 0, 0, 0, 5, 0, 0, 0, 21, 0]) (by decide +kernel)
set_option maxRecDepth 1000000 in
theorem mk_115 : ab_MK cm_ms mr_115 := wz_MK wz_C0 wz_W0k rfl (lw_in_4 (p := 88) rfl) (ks := [0, 0, 55, 0, 0, 0, 0, 57, 0, 13, 0, 16, 0, 59, 0, 0, 57, 60, 21, 0]) (by decide +kernel)
set_option maxRecDepth 1000000 in
theorem mk_116 : ab_MK cm_ms mr_116 := wz_MK wz_C0 wz_W0k rfl (lw_in_4 (p := 101) rfl) (ks := [0, 0, 55, 0, 0, 0, 0, 57, 0, 13, 0, 16, 0, 59, 0, 0, 57, 61, 21, 0]) (by decide +kernel)
set_option maxRecDepth 1000000 in
theorem mk_117 : ab_MK cm_ms mr_117 := wz_MK wz_C0 wz_W0k rfl (lw_in_4 (p := 105) rfl) (ks := [0, 0, 55, 0, 0, 0, 0, 57, 0, 13, 0, 16, 0, 59, 0, 0, 57, 62, 21, 0]) (by decide +kernel)
set_option maxRecDepth 1000000 in
theorem mk_118 : ab_MK cm_ms mr_118 := wz_MK wz_C0 wz_W0k rfl (lw_in_4 (p := 109) rfl) (ks := [0, 0, 32, 0, 0, 0, 5, 0, 0, 0, 57, 0, 13, 0, 16, 0, 63, 21, 0]) (by decide +kernel)
set_option maxRecDepth 1000000 in
theorem mk_119 : ab_MK cm_ms mr_119 := wz_MK wz_C0 wz_W0k rfl (lw_in_4 (p := 56) rfl) (ks := [0, 0, 0, 0, 0, 0, 0, 0, 0, 0, 64, 0]) (by decide +kernel)
set_option maxRecDepth 1000000 in
theorem mk_120 : ab_MK cm_ms mr_120 := wz_MK wz_C0 wz_W0k rfl (lw_in_4 (p := 122) rfl) (ks := [0, 0, 24, 0, 0, 0, 5, 0, 0, 0, 65, 0, 0, 0, 5, 0, 0, 0, 16, 0, 13, 0, 0, 66, 21, 0]) (by decide +kernel)
set_option maxRecDepth 1000000 in
theorem mk_121 : ab_MK cm_ms mr_121 := wz_MK wz_C0 wz_W0k rfl (lw_in_4 (p := 135) rfl) (ks := [0, 0, 0, 65, 64, 0, 0, 0, 0, 0, 0, 0, 0, 0, 0, 0, 13, 20, 0, 0, 16, 0, 13, 0, 0, 66, 0, 0, 0, 0, 0, 0, 0, 0, 0, 0, 0, 0, 21, 0]) (by decide +kernel)
set_option maxRecDepth 1000000 in
theorem mk_122 : ab_MK cm_ms mr_122 := wz_MK wz_C0 wz_W0k rfl (lw_in_4 (p := 139) rfl) (ks := [0, 0, 0, 65, 64, 0, 0, 0, 0, 0, 0, 0, 0, 0, 13, 20, 0, 0, 16, 0, 13, 0, 28, 0, 0, 16, 0, 13, 0, 0, 66, 0, 0, 0, 0, 0, 0, 0, 0, 0, 0, 0, 21, 0]) (by decide +kernel)
set_option maxRecDepth 1000000 in
theorem mk_123 : ab_MK cm_ms mr_123 := wz_MK wz_C0 wz_W0k rfl (lw_in_4 (p := 143) rfl) (ks := [0, 0, 0, 65, 64, 0, 0, 0, 0, 16, 0, 13, 46, 0, 0, 0, 0, 0, 0, 0, 0, 0, 0, 13, 20, 0, 0, 0, 0, 0, 0, 0, 0, 0, 13, 0, 47, 0, 0, 0, 0, 0, 0, 0, 0, 0, 67, 0, 0, 0, 67, 0, 0, 0, 0, 0, 0, 0, 21, 0]) (by decide +kernel)
set_option maxRecDepth 1000000 in
theorem mk_124 : ab_MK cm_ms mr_124 := wz_MK wz_C0 wz_W0k rfl (lw_in_4 (p := 148) rfl) (ks := [0, 41, 0, 0, 0, 5, 0, 0, 0, 13, 68, 21, 0]) (by decide +kernel)
set_option maxRecDepth 1000000 in
theorem mk_125 : ab_MK cm_ms mr_125 := wz_MK wz_C0 wz_W0k rfl (lw_in_4 (p := 160) rfl) (ks := [0, 41, 0, 0, 0, 5, 0, 0, 0, 13, 69, 0, 13, 0, 13, 68, 70, 0, 21, 0]) (by decide +kernel)
set_option maxRecDepth 1000000 in
theorem mk_126 : ab_MK cm_ms mr_126 := wz_MK wz_C0 wz_W0k rfl (lw_in_4 (p := 166) rfl) (ks := [0, 41, 0, 0, 0, 5, 0, 0, 0, 13, 71, 21, 0]) (by decide +kernel)
set_option maxRecDepth 1000000 in
theorem mk_127 : ab_MK cm_ms mr_127 := wz_MK wz_C0 wz_W0k rfl (lw_in_4 (p := 126) rfl) (ks := [0, 0, 0, 0, 0, 0, 0, 0, 0]) (by decide +kernel)
set_option maxRecDepth 1000000 in
theorem mk_128 : ab_MK cm_ms mr_128 := wz_MK wz_C0 wz_W0k rfl (lw_in_4 (p := 178) rfl) (ks := [0, 0, 72, 0, 0, 0, 72, 0, 0, 0, 5, 0, 0, 0, 13, 0, 0, 73, 21, 0]) (by decide +kernel)
set_option maxRecDepth 1000000 in
theorem mk_129 : ab_MK cm_ms mr_129 := wz_MK wz_C0 wz_W0k rfl (lw_in_4 (p := 194) rfl) (ks := [0, 41, 0, 0, 0, 5, 0, 0, 74, 0, 13, 75, 0, 0, 74, 76, 21, 0]) (by decide +kernel)
set_option maxRecDepth 1000000 in
theorem mk_130 : ab_MK cm_ms mr_130 := wz_MK wz_C0 wz_W0k rfl (lw_in_4 (p := 212) rfl) (ks := [0, 0, 72, 0, 0, 0, 5, 0, 0, 74, 0, 13, 75, 0, 0, 74, 77, 0, 0, 21, 0]) (by decide +kernel)
set_option maxRecDepth 1000000 in
theorem mk_131 : ab_MK cm_ms mr_131 := wz_MK wz_C0 wz_W0k rfl (lw_in_4 (p := 216) rfl) (ks := [0, 78, 0, 0, 0, 0, 0, 79, 80, 21, 0]) (by decide +kernel)
set_option maxRecDepth 1000000 in
theorem mk_132 : ab_MK cm_ms mr_132 := wz_MK wz_C0 wz_W0k rfl (lw_in_4 (p := 234) rfl) (ks := [0, 78, 0, 0, 0, 0, 0, 79, 80, 0, 0, 0, 5, 0, 0, 0, 79, 81, 0, 0, 21, 0]) (by decide +kernel)
set_option maxRecDepth 1000000 in
theorem mk_133 : ab_MK cm_ms mr_133 := wz_MK wz_C0 wz_W0k rfl (lw_in_4 (p := 238) rfl) (ks := [0, 78, 0, 0, 0, 0, 0, 79, 82, 21, 0]) (by decide +kernel)
set_option maxRecDepth 1000000 in
theorem mk_134 : ab_MK cm_ms mr_134 := wz_MK wz_C0 wz_W0k rfl (lw_in_5 (p := 6) rfl) (ks := [0, 78, 0, 0, 0, 0, 0, 79, 83, 21, 0]) (by decide +kernel)
set_option maxRecDepth 1000000 in
theorem mk_135 : ab_MK cm_ms mr_135 := wz_MK wz_C0 wz_W0k rfl (lw_in_5 (p := 14) rfl) (ks := [0, 78, 0, 0, 0, 0, 0, 79, 0, 13, 84, 21, 0]) (by decide +kernel)
set_option maxRecDepth 1000000 in
theorem mk_136 : ab_MK cm_ms mr_136 := wz_MK wz_C0 wz_W0k rfl (lw_in_5 (p := 29) rfl) (ks := [0, 78, 0, 0, 0, 0, 79, 0, 13, 84, 0, 0, 0, 0, 0, 0, 0, 0, 79, 0, 85, 21, 0]) (by decide +kernel)
set_option maxRecDepth 1000000 in
theorem mk_137 : ab_MK cm_ms mr_137 := wz_MK wz_C0 wz_W0k rfl (lw_in_4 (p := 220) rfl) (ks := [0, 41, 0, 0, 0, 5, 0, 0, 0, 0, 79, 0, 13, 86, 0, 0]) (by decide +kernel)
set_option maxRecDepth 1000000 in
theorem mk_138 : ab_MK cm_ms mr_138 := wz_MK wz_C0 wz_W0k rfl (lw_in_5 (p := 34) rfl) (ks := [0, 0, 87, 0, 0, 0, 0, 0, 0, 0, 0, 0, 88, 0, 0, 0, 0, 88, 21, 0]) (by decide +kernel)
set_option maxRecDepth 1000000 in
theorem mk_139 : ab_MK cm_ms mr_139 := wz_MK wz_C0 wz_W0k rfl (lw_in_5 (p := 45) rfl) (ks := [0, 0, 87, 0, 0, 0, 0, 0, 0, 0, 0, 0, 0, 0, 0, 89, 0, 0, 0, 0, 0, 0, 21, 0]) (by decide +kernel)
set_option maxRecDepth 1000000 in
theorem mk_140 : ab_MK cm_ms mr_140 := wz_MK wz_C0 wz_W0k rfl (lw_in_5 (p := 52) rfl) (ks := [0, 0, 87, 0, 0, 0, 0, 0, 0, 0, 0, 0, 0, 89, 0, 0, 0, 0, 0, 0, 0, 0, 0, 0, 0, 21, 0, 0, 0, 0, 0, 21, 0]) (by decide +kernel)
set_option maxRecDepth 1000000 in
theorem mk_141 : ab_MK cm_ms mr_141 := wz_MK wz_C0 wz_W0k rfl (lw_in_5 (p := 38) rfl) (ks := [0, 0, 0, 0, 0, 0, 0, 0, 0, 64, 0]) (by decide +kernel)
set_option maxRecDepth 1000000 in
theorem mk_142 : ab_MK cm_ms mr_142 := wz_MK wz_C0 wz_W0k rfl (lw_in_5 (p := 41) rfl) (ks := [0, 0, 0, 0, 0, 0, 0, 0, 0, 0, 0, 0, 0, 0, 0]) (by decide +kernel)
set_option maxRecDepth 1000000 in
theorem mk_143 : ab_MK cm_ms mr_143 := wz_MK wz_C0 wz_W0k rfl (lw_in_5 (p := 48) rfl) (ks := [0, 0, 0, 0, 0, 0, 0, 0, 0, 0, 0, 0, 0, 0, 0, 0, 0, 0, 0, 88, 0, 0, 0, 0, 0, 0, 0, 88, 0, 0, 0, 0, 88, 0, 0, 0, 0, 0, 0, 0, 88, 0, 0, 0, 0, 0]) (by decide +kernel)
set_option maxRecDepth 1000000 in
theorem mk_144 : ab_MK cm_ms mr_144 := wz_MK wz_C0 wz_W0k rfl (lw_in_5 (p := 56) rfl) (ks := [0, 0, 32, 0, 0, 0, 5, 0, 0, 0, 0, 50, 0, 90, 0, 13, 0, 51, 0, 91, 0, 0, 21, 0, 0, 0, 0, 90, 92, 0, 0, 90, 93, 0]) (by decide +kernel)
set_option maxRecDepth 1000000 in
theorem mk_145 : ab_MK cm_ms mr_145 := wz_MK wz_C0 wz_W0k rfl (lw_in_5 (p := 74) rfl) (ks := [0, 0, 32, 0, 0, 0, 5, 0, 0, 0, 0, 50, 0, 90, 0, 13, 0, 51, 0, 94, 0, 0, 21, 0, 0, 0, 0, 90, 92, 0, 0, 90, 93, 0]) (by decide +kernel)
set_option maxRecDepth 1000000 in
theorem mk_146 : ab_MK cm_ms mr_146 := wz_MK wz_C0 wz_W0k rfl (lw_in_5 (p := 84) rfl) (ks := [0, 0, 24, 0, 0, 0, 5, 0, 0, 0, 0, 95, 0, 0, 0, 5, 0, 0, 51, 0, 16, 53, 0, 90, 0, 96, 0, 0, 0, 0, 0, 0, 90, 0, 13, 0, 51, 97, 0, 0, 0, 0, 51, 26, 0, 0, 21, 0]) (by decide +kernel)
set_option maxRecDepth 1000000 in
theorem mk_147 : ab_MK cm_ms mr_147 := wz_MK wz_C0 wz_W0k rfl (lw_in_5 (p := 99) rfl) (ks := [0, 0, 32, 0, 0, 0, 5, 0, 0, 0, 0, 95, 0, 0, 0, 5, 0, 0, 51, 0, 16, 53, 0, 90, 0, 96, 0, 0, 0, 0, 0, 0, 0, 0, 90, 0, 13, 0, 51, 97, 0, 51, 0, 13, 0, 45, 0, 0, 0, 0, 0, 0, 21, 0]) (by decide +kernel)
set_option maxRecDepth 1000000 in
theorem mk_148 : ab_MK cm_ms mr_148 := wz_MK wz_C0 wz_W0k rfl (lw_in_5 (p := 88) rfl) (ks := [0, 0, 0, 98, 0, 0, 0, 0, 0, 0, 0, 0, 0, 0]) (by decide +kernel)
set_option maxRecDepth 1000000 in
theorem mk_149 : ab_MK cm_ms mr_149 := wz_MK wz_C0 wz_W0k rfl (lw_in_5 (p := 103) rfl) (ks := [0, 0, 32, 0, 0, 0, 5, 0, 0, 16, 0, 13, 0, 38, 0, 0, 0, 5, 0, 0, 18, 0, 16, 99, 0, 0, 16, 0, 13, 0, 100, 0, 0, 0, 0, 21, 0]) (by decide +kernel)
set_option maxRecDepth 1000000 in
theorem mk_150 : ab_MK cm_ms mr_150 := wz_MK wz_C0 wz_W0k rfl (lw_in_5 (p := 114) rfl) (ks := [0, 41, 0, 0, 0, 5, 0, 0, 16, 101, 0, 0, 0, 0, 5, 0, 0, 18, 0, 16, 99, 0, 16, 0, 13, 54, 0, 0, 16, 0, 13, 43, 21, 0]) (by decide +kernel)
set_option maxRecDepth 1000000 in
theorem mk_151 : ab_MK cm_ms mr_151 := wz_MK wz_C0 wz_W0k rfl (lw_in_5 (p := 118) rfl) (ks := [0, 0, 24, 0, 0, 0, 5, 0, 0, 16, 26, 0, 0, 0, 0, 0, 5, 0, 0, 18, 0, 16, 99, 0, 16, 26, 0, 0, 0, 0, 16, 0, 13, 0, 0, 102, 0, 0, 21, 0]) (by decide +kernel)
set_option maxRecDepth 1000000 in
theorem mk_152 : ab_MK cm_ms mr_152 := wz_MK wz_C0 wz_W0k rfl (lw_in_5 (p := 123) rfl) (ks := [0, 18, 0, 16, 103, 0, 0, 0, 5, 0, 0, 0, 0, 0, 21, 0, 0, 0]) (by decide +kernel)
set_option maxRecDepth 1000000 in
theorem mk_153 : ab_MK cm_ms mr_153 := wz_MK wz_C0 wz_W0k rfl (lw_in_5 (p := 131) rfl) (ks := [0, 41, 0, 0, 0, 5, 0, 0, 18, 0, 16, 104, 0, 0, 0, 0, 0, 0, 5, 0, 0, 0, 21, 0]) (by decide +kernel)
set_option maxRecDepth 1000000 in
theorem mk_154 : ab_MK cm_ms mr_154 := wz_MK wz_C0 wz_W0k rfl (lw_in_5 (p := 139) rfl) (ks := [0, 18, 0, 0, 16, 105, 0, 0, 0, 5, 0, 0, 0, 0, 0, 21, 0, 0, 0]) (by decide +kernel)
set_option maxRecDepth 1000000 in
theorem mk_155 : ab_MK cm_ms mr_155 := wz_MK wz_C0 wz_W0k rfl (lw_in_5 (p := 147) rfl) (ks := [0, 0, 0, 13, 106, 0, 0, 13, 107, 0, 0, 13, 108, 0, 0, 13, 20, 0, 0, 13, 44, 0, 0, 13, 29, 0, 13, 20, 109, 0, 0, 13, 36, 0, 13, 44, 109, 0, 0, 13, 69, 0, 0, 13, 110, 0, 0, 13, 111, 67, 0, 0, 16, 101, 0, 0, 18, 112, 0, 0, 18, 113, 0, 0, 1, 0, 0, 0]) (by decide +kernel)
set_option maxRecDepth 1000000 in
theorem mk_156 : ab_MK cm_ms mr_156 := wz_MK wz_C0 wz_W0k rfl (lw_in_5 (p := 152) rfl) (ks := [0, 22, 0]) (by decide +kernel)
set_option maxRecDepth 1000000 in
theorem mk_157 : ab_MK cm_ms mr_157 := wz_MK wz_C0 wz_W0k rfl (lw_in_2 (p := 148) rfl) (ks := [0, 0, 114, 0, 0]) (by decide +kernel)
set_option maxRecDepth 1000000 in
theorem mk_158 : ab_MK cm_ms mr_158 := wz_MK wz_C0 wz_W0k rfl (lw_in_4 (p := 60) rfl) (ks := [0, 41, 0, 0, 0, 5, 0, 0, 0, 0, 0, 0, 5, 0, 0, 0, 0, 41, 0, 0, 0, 0, 0]) (by decide +kernel)
set_option maxRecDepth 1000000 in
theorem mk_159 : ab_MK cm_ms mr_159 := wz_MK wz_C0 wz_W0k rfl (lw_in_3 (p := 137) rfl) (ks := [0, 0, 114, 0, 0]) (by decide +kernel)
set_option maxRecDepth 1000000 in
theorem mk_160 : ab_MK cm_ms mr_160 := wz_MK wz_C0 wz_W0k rfl (lw_in_3 (p := 203) rfl) (ks := [0, 13, 20, 0, 0, 0, 0, 0]) (by decide +kernel)
set_option maxRecDepth 1000000 in
theorem mk_161 : ab_MK cm_ms mr_161 := wz_MK wz_C0 wz_W0k rfl (lw_in_3 (p := 153) rfl) (ks := [0, 0, 0, 0, 13, 20, 0, 0, 0, 0, 0]) (by decide +kernel)
set_option maxRecDepth 1000000 in
theorem mk_162 : ab_MK cm_ms mr_162 := wz_MK wz_C0 wz_W0k rfl (lw_in_3 (p := 173) rfl) (ks := [0, 0, 0, 0, 13, 44, 0, 0, 0, 0, 0]) (by decide +kernel)
set_option maxRecDepth 1000000 in
theorem mk_163 : ab_MK cm_ms mr_163 := wz_MK wz_C0 wz_W0k rfl (lw_in_4 (p := 182) rfl) (ks := [0, 0, 0, 0, 13, 110, 0, 0, 0, 0, 0]) (by decide +kernel)
set_option maxRecDepth 1000000 in
theorem mk_164 : ab_MK cm_ms mr_164 := wz_MK wz_C9 wz_W9k rfl (lw_in_6 (p := 105) rfl) (ks := [0, 0, 1, 0, 0, 2, 0]) (by decide +kernel)
set_option maxRecDepth 1000000 in
theorem mk_165 : ab_MK cm_ms mr_165 := wz_MK wz_C9 wz_W9k rfl (lw_in_6 (p := 112) rfl) (ks := [0, 0, 2, 0, 0]) (by decide +kernel)
set_option maxRecDepth 1000000 in
theorem mk_166 : ab_MK cm_ms mr_166 := wz_MK wz_C9 wz_W9k rfl (lw_in_8 (p := 140) rfl) (ks := [0, 0, 2, 0, 0]) (by decide +kernel)
set_option maxRecDepth 1000000 in
theorem mk_167 : ab_MK cm_ms mr_167 := wz_MK wz_C9 wz_W9k rfl (lw_in_6 (p := 108) rfl) (ks := [0, 0, 0, 0, 0, 0, 0, 0, 0, 0]) (by decide +kernel)
set_option maxRecDepth 1000000 in
theorem mk_168 : ab_MK cm_ms mr_168 := wz_MK wz_C9 wz_W9k rfl (lw_in_6 (p := 230) rfl) (ks := [0, 0, 0, 0, 0, 0, 0, 0, 0, 0, 0]) (by decide +kernel)
set_option maxRecDepth 1000000 in
theorem mk_169 : ab_MK cm_ms mr_169 := wz_MK wz_C9 wz_W9k rfl (lw_in_7 (p := 216) rfl) (ks := [0, 0, 0, 0, 0, 0, 0, 0, 0, 0, 0, 0, 0, 0, 0, 0, 0, 0, 0]) (by decide +kernel)
set_option maxRecDepth 1000000 in
theorem mk_170 : ab_MK cm_ms mr_170 := wz_MK wz_C9 wz_W9k rfl (lw_in_7 (p := 10) rfl) (ks := [0, 0, 0, 0, 0, 0, 0, 0, 0, 0, 0, 0, 0, 0, 0, 0, 0, 0]) (by decide +kernel)
set_option maxRecDepth 1000000 in
theorem mk_171 : ab_MK cm_ms mr_171 := wz_MK wz_C9 wz_W9k rfl (lw_in_8 (p := 98) rfl) (ks := [0, 0, 0, 0, 0, 0, 0, 0, 0, 0, 0, 0, 0, 0, 0, 0, 0, 0, 0, 0, 0, 0, 0, 0, 0]) (by decide +kernel)
set_option maxRecDepth 1000000 in
theorem mk_172 : ab_MK cm_ms mr_172 := wz_MK wz_C9 wz_W9k rfl (lw_in_6 (p := 97) rfl) (ks := [0, 0, 1, 0, 3, 0, 0, 0, 0, 0, 0, 0, 0, 0, 0, 0, 0, 0, 0, 0, 0, 0, 0, 0, 0, 0, 0, 0, 0, 0, 0, 0, 0, 0, 0, 0, 0, 0, 0, 4, 0, 3, 0, 0, 0, 0, 0, 0, 0, 0, 0, 0, 0, 0, 0, 0, 3, 0, 0, 5, 0, 0, 0, 3, 0]) (by decide +kernel)
set_option maxRecDepth 1000000 in
theorem mk_173 : ab_MK cm_ms mr_173 := wz_MK wz_C9 wz_W9k rfl (lw_in_6 (p := 120) rfl) (ks := [0, 0, 6, 0, 0, 4, 0, 0, 0, 0, 0]) (by decide +kernel)
set_option maxRecDepth 1000000 in
theorem mk_174 : ab_MK cm_ms mr_174 := wz_MK wz_C9 wz_W9k rfl (lw_in_6 (p := 123) rfl) (ks := [0, 0, 0, 0, 0, 0, 0, 0, 0, 0]) (by decide +kernel)
set_option maxRecDepth 1000000 in
theorem mk_175 : ab_MK cm_ms mr_175 := wz_MK wz_C9 wz_W9k rfl (lw_in_6 (p := 126) rfl) (ks := [0, 0, 0, 0, 0, 0, 0, 0, 0, 0]) (by decide +kernel)
set_option maxRecDepth 1000000 in
theorem mk_176 : ab_MK cm_ms mr_176 := wz_MK wz_C9 wz_W9k rfl (lw_in_6 (p := 116) rfl) (ks := [0, 7, 0, 0, 0, 8, 0, 0, 0, 0, 0, 0, 9, 0, 0, 8, 0, 0, 0, 10, 0, 0, 11, 0, 0, 0, 0, 0, 12, 0, 0, 13, 0, 0, 14, 0, 0, 0, 8, 14, 0, 0, 15, 0, 0, 0, 16, 0, 15, 0, 0, 8, 0, 0, 0, 15, 0, 0, 10, 0, 0, 0, 0, 13, 0, 0, 15, 0, 0, 0, 0, 0, 12, 0, 0, 17, 0, 0, 0, 0, 0, 8, 17, 0, 0, 0, 0, 0, 0, 0, 18, 0, 0, 0, 8, 0, 0, 0, 11, 0, 0, 0, 0, 0, 13, 0, 0, 0, 0, 0, 0, 0, 12, 0, 0, 0, 0, 0, 13, 0, 0, 0, 0, 0, 0, 0, 12, 0]) (by decide +kernel)
set_option maxRecDepth 1000000 in
theorem mk_177 : ab_MK cm_ms mr_177 := wz_MK wz_C9 wz_W9k rfl (lw_in_6 (p := 145) rfl) (ks := [0, 19, 0, 0, 0, 0, 20, 0, 0, 21, 0, 0, 22, 0]) (by decide +kernel)
set_option maxRecDepth 1000000 in
theorem mk_178 : ab_MK cm_ms mr_178 := wz_MK wz_C9 wz_W9k rfl (lw_in_6 (p := 135) rfl) (ks := [0, 19, 0, 0, 23, 0, 0, 0, 15, 0, 24, 0, 0, 0, 0, 0, 0, 0, 0, 0, 15, 0, 0, 0, 0, 16, 0, 0, 0, 0, 25, 0, 0, 0, 0, 0, 0, 0, 0, 0]) (by decide +kernel)
set_option maxRecDepth 1000000 in
theorem mk_179 : ab_MK cm_ms mr_179 := wz_MK wz_C9 wz_W9k rfl (lw_in_6 (p := 158) rfl) (ks := [0, 0, 26, 0, 0, 0, 0, 27, 0, 0]) (by decide +kernel)
set_option maxRecDepth 1000000 in
theorem mk_180 : ab_MK cm_ms mr_180 := wz_MK wz_C9 wz_W9k rfl (lw_in_6 (p := 154) rfl) (ks := [0, 19, 0, 0, 0, 28, 0, 0, 0, 0, 29, 30, 0]) (by decide +kernel)
set_option maxRecDepth 1000000 in
theorem mk_181 : ab_MK cm_ms mr_181 := wz_MK wz_C9 wz_W9k rfl (lw_in_6 (p := 185) rfl) (ks := [0, 23, 0, 0, 0, 0, 26, 0, 0, 0, 26, 0, 0, 0, 26, 0, 0, 0, 26, 0, 0, 0, 26, 0, 0, 0, 26, 0, 0, 0, 26, 0, 0, 0, 26, 0, 0, 0, 0, 29, 30, 0]) (by decide +kernel)
set_option maxRecDepth 1000000 in
theorem mk_182 : ab_MK cm_ms mr_182 := wz_MK wz_C9 wz_W9k rfl (lw_in_6 (p := 195) rfl) (ks := [0, 0, 0, 0, 0, 0, 31, 0, 0, 0, 0, 0, 0, 31, 0, 0, 0, 0, 0, 15, 0, 0, 0, 0, 0, 0, 0, 0, 0, 15, 0, 0, 0, 0, 31, 0, 0, 0, 0, 0, 0, 0, 0, 0, 16, 0, 0, 0, 0, 0, 0, 0, 0, 0, 0, 0, 0, 0, 0, 0, 0, 0]) (by decide +kernel)
set_option maxRecDepth 1000000 in
theorem mk_183 : ab_MK cm_ms mr_183 := wz_MK wz_C9 wz_W9k rfl (lw_in_6 (p := 181) rfl) (ks := [0, 19, 0, 0, 0, 32, 0, 19, 0, 0, 33, 0, 0, 0, 0, 29, 30, 0, 19, 0, 0, 0, 0, 0, 0, 15, 0, 0, 31, 0, 0, 0, 0, 0, 0, 0, 0, 16, 0, 0, 0, 0, 0, 0, 31, 0, 0, 0, 0, 15, 0, 0, 27, 0]) (by decide +kernel)
set_option maxRecDepth 1000000 in
theorem mk_184 : ab_MK cm_ms mr_184 := wz_MK wz_C9 wz_W9k rfl (lw_in_6 (p := 223) rfl) (ks := [0, 19, 0, 0, 0, 0, 32, 0, 19, 0, 0, 0, 0, 33, 0, 0, 0, 0, 34, 0, 0, 0, 0, 29, 30, 0, 19, 0, 0, 0, 0, 0, 0, 0]) (by decide +kernel)
set_option maxRecDepth 1000000 in
theorem mk_185 : ab_MK cm_ms mr_185 := wz_MK wz_C9 wz_W9k rfl (lw_in_6 (p := 219) rfl) (ks := [0, 0, 0, 35, 0]) (by decide +kernel)
set_option maxRecDepth 1000000 in
theorem mk_186 : ab_MK cm_ms mr_186 := wz_MK wz_C9 wz_W9k rfl (lw_in_6 (p := 227) rfl) (ks := [0, 0, 0, 35, 0]) (by decide +kernel)
set_option maxRecDepth 1000000 in
theorem mk_187 : ab_MK cm_ms mr_187 := wz_MK wz_C9 wz_W9k rfl (lw_in_6 (p := 173) rfl) (ks := [0, 19, 0, 0, 27, 0]) (by decide +kernel)
set_option maxRecDepth 1000000 in
theorem mk_188 : ab_MK cm_ms mr_188 := wz_MK wz_C9 wz_W9k rfl (lw_in_6 (p := 162) rfl) (ks := [0, 19, 0, 0, 0, 0, 23, 0, 0, 0, 0, 0, 29, 30, 0, 0, 18, 0, 0, 34, 0, 0, 0, 0, 29, 30, 0, 19, 0, 0, 0, 0, 18, 0, 0, 27, 0, 0]) (by decide +kernel)
set_option maxRecDepth 1000000 in
theorem mk_189 : ab_MK cm_ms mr_189 := wz_MK wz_C9 wz_W9k rfl (lw_in_6 (p := 150) rfl) (ks := [0, 0, 36, 0, 0, 0, 37, 0]) (by decide +kernel)
set_option maxRecDepth 1000000 in
theorem mk_190 : ab_MK cm_ms mr_190 := wz_MK wz_C9 wz_W9k rfl (lw_in_6 (p := 199) rfl) (ks := [0, 0, 26, 0, 0, 0, 0, 0, 26, 0, 0, 0, 0, 0, 26, 0, 0, 0, 0, 0, 0, 0, 0, 0, 0, 29, 30, 0, 19, 0, 0, 0, 0, 0]) (by decide +kernel)
set_option maxRecDepth 1000000 in
theorem mk_191 : ab_MK cm_ms mr_191 := wz_MK wz_C9 wz_W9k rfl (lw_in_6 (p := 101) rfl) (ks := [0, 38, 0, 0, 0, 3, 34, 0, 0, 0, 39, 0, 0, 0, 5, 0, 0, 21, 0, 0, 20, 0, 0, 0, 0, 0, 0, 31, 0, 0, 0, 0, 0, 0, 0, 40, 0, 0, 13, 0, 27, 0, 41, 0, 19, 0, 0, 23, 0, 0, 0, 27, 0, 41, 0, 0, 19, 0, 0, 23, 0, 0, 0, 0, 29, 30, 0, 19, 0, 0, 31, 0, 0, 0, 0, 31, 0, 0, 0, 0, 0, 0, 29, 30, 0, 19, 0, 0, 0, 39, 0, 0, 31, 0, 0, 42, 0, 0, 43, 0, 0, 44, 45, 0, 0, 46, 0, 0, 47, 0, 0, 48, 0, 42, 0, 0, 0]) (by decide +kernel)
set_option maxRecDepth 1000000 in
theorem mk_192 : ab_MK cm_ms mr_192 := wz_MK wz_C9 wz_W9k rfl (lw_in_7 (p := 14) rfl) (ks := [0, 0, 0, 0, 0, 0, 0, 0, 0, 0, 0, 0, 0, 0, 0, 42, 0, 0, 0, 0, 0, 0, 42, 0, 0, 0, 0, 0, 0, 0, 0, 0, 0, 0, 0]) (by decide +kernel)
set_option maxRecDepth 1000000 in
theorem mk_193 : ab_MK cm_ms mr_193 := wz_MK wz_C9 wz_W9k rfl (lw_in_6 (p := 169) rfl) (ks := [0, 0, 26, 0, 0, 0, 0, 0, 0, 0, 0, 29, 30, 0, 31, 0, 0, 0, 0, 0, 0, 29, 30, 0, 49, 0, 0]) (by decide +kernel)
set_option maxRecDepth 1000000 in
theorem mk_194 : ab_MK cm_ms mr_194 := wz_MK wz_C9 wz_W9k rfl (lw_in_6 (p := 130) rfl) (ks := [0, 0, 26, 0, 0, 50, 0, 0, 0, 0, 31, 0, 0, 0, 0, 0, 0, 0, 51, 0, 0, 52, 0, 0, 0, 0, 31, 0, 0, 0, 0, 0, 0, 0, 51, 0, 0, 53, 0, 0, 0, 0, 31, 0, 0, 0, 0, 0, 0, 0, 51, 0, 0, 54, 0, 0, 0, 0, 31, 0, 0, 0, 0, 0, 0, 0, 51, 0, 0, 55, 0, 0, 0, 0, 31, 0, 0, 0, 0, 0, 0, 0, 51, 0, 0, 56, 0, 0, 0, 0, 31, 0, 0, 0, 0, 0, 0, 0, 51, 0, 0, 57, 0, 0, 0, 0, 51, 0, 0, 58, 0, 0, 0, 0, 29, 30, 0]) (by decide +kernel)
set_option maxRecDepth 1000000 in
theorem mk_195 : ab_MK cm_ms mr_195 := wz_MK wz_C9 wz_W9k rfl (lw_in_6 (p := 141) rfl) (ks := [0, 31, 0, 0, 0, 0, 0, 0, 29, 30, 0, 19, 0, 0, 0, 27, 0, 31, 0, 0, 0, 0, 0, 59, 0, 0, 31, 0, 0, 0, 0, 0, 59, 0, 0, 31, 0, 0, 0, 0, 0, 59, 0, 0, 19, 0, 0, 31, 0, 0, 0, 0]) (by decide +kernel)
set_option maxRecDepth 1000000 in
theorem mk_196 : ab_MK cm_ms mr_196 := wz_MK wz_C9 wz_W9k rfl (lw_in_6 (p := 177) rfl) (ks := [0, 19, 0, 0, 0, 0, 0, 31, 0, 0, 0, 0, 0, 0, 0, 31, 0, 0, 60, 0, 31, 0, 0, 61, 0, 0, 49, 0, 31, 0, 0, 0, 0, 0, 0, 0, 59, 0, 0, 31, 0, 0, 0, 0, 0, 0, 0, 59, 0, 0, 19, 0, 0, 31, 0, 0, 0, 0, 0, 0, 0]) (by decide +kernel)
set_option maxRecDepth 1000000 in
theorem mk_197 : ab_MK cm_ms mr_197 := wz_MK wz_C9 wz_W9k rfl (lw_in_6 (p := 208) rfl) (ks := [0, 19, 0, 0, 0, 0, 0, 31, 0, 0, 0, 0, 0, 0, 0, 0, 31, 0, 0, 0, 60, 0, 31, 0, 0, 0, 0, 0, 59, 0, 0, 31, 0, 0, 0, 0, 0, 0, 0, 59, 0, 0, 31, 0, 0, 0, 0, 0, 0, 0, 59, 0, 0, 19, 0, 0, 31, 0, 0, 0, 0, 0, 0, 0]) (by decide +kernel)
set_option maxRecDepth 1000000 in
theorem mk_198 : ab_MK cm_ms mr_198 := wz_MK wz_C9 wz_W9k rfl (lw_in_6 (p := 215) rfl) (ks := [0, 62, 0, 0, 49, 0, 63, 0, 0, 19, 0, 0, 31, 0, 0, 0, 0, 0, 64, 0, 0, 0, 0, 29, 30, 0, 49, 0, 19, 0, 0, 0, 31, 0, 0, 0, 0, 0, 0, 0, 0, 0, 0, 0, 31, 0, 0, 0, 0, 0, 0, 0]) (by decide +kernel)
set_option maxRecDepth 1000000 in
theorem mk_199 : ab_MK cm_ms mr_199 := wz_MK wz_C9 wz_W9k rfl (lw_in_6 (p := 234) rfl) (ks := [0, 63, 0, 0, 49, 0, 63, 0, 0, 19, 0, 0, 31, 0, 0, 0, 0, 0, 64, 0, 0, 0, 0, 29, 30, 0, 19, 0, 0, 0, 0, 0, 0, 0, 29, 30, 0, 49, 0, 19, 0, 0, 0, 31, 0, 0, 0, 0, 0, 0, 0, 0, 0, 0, 0, 31, 0, 0, 0, 0, 0, 0, 0]) (by decide +kernel)
set_option maxRecDepth 1000000 in
theorem mk_200 : ab_MK cm_ms mr_200 := wz_MK wz_C9 wz_W9k rfl (lw_in_6 (p := 238) rfl) (ks := [0, 62, 0, 0, 49, 0, 62, 0, 0, 19, 0, 0, 0, 0, 0, 31, 0, 0, 0, 0, 0, 64, 0, 0, 0, 0, 29, 30, 0, 49, 0, 19, 0, 0, 0, 31, 0, 0, 0, 0, 0, 0, 0, 0, 0, 0, 0, 31, 0, 0, 0, 0, 0, 0, 0, 0, 0, 0, 0, 31, 0, 0, 0, 0, 0, 0, 0]) (by decide +kernel)
set_option maxRecDepth 1000000 in
theorem mk_201 : ab_MK cm_ms mr_201 := wz_MK wz_C9 wz_W9k rfl (lw_in_7 (p := 2) rfl) (ks := [0, 19, 0, 0, 0, 0, 0, 31, 0, 0, 0, 60, 0, 31, 0, 0, 31, 0, 0, 0, 0, 0, 0, 0, 59, 0, 0, 19, 0, 0, 31, 0, 0, 0, 0, 0, 0, 0]) (by decide +kernel)
set_option maxRecDepth 1000000 in
theorem mk_202 : ab_MK cm_ms mr_202 := wz_MK wz_C9 wz_W9k rfl (lw_in_7 (p := 7) rfl) (ks := [0, 61, 0, 0, 19, 0, 0, 31, 0, 0, 0, 0, 0, 0, 0, 0, 29, 30, 0, 49, 0, 0, 0, 37, 0, 0, 19, 0, 0, 0, 31, 0, 0, 0, 0, 0, 0, 0, 0, 31, 0, 0, 0, 0, 0, 0, 0]) (by decide +kernel)
set_option maxRecDepth 1000000 in
theorem mk_203 : ab_MK cm_ms mr_203 := wz_MK wz_C9 wz_W9k rfl (lw_in_7 (p := 18) rfl) (ks := [0, 0, 1, 0, 65, 0]) (by decide +kernel)
set_option maxRecDepth 1000000 in
theorem mk_204 : ab_MK cm_ms mr_204 := wz_MK wz_C9 wz_W9k rfl (lw_in_7 (p := 22) rfl) (ks := [0, 0, 1, 0, 66, 0, 0, 0, 67, 0, 0, 0]) (by decide +kernel)
set_option maxRecDepth 1000000 in
theorem mk_205 : ab_MK cm_ms mr_205 := wz_MK wz_C9 wz_W9k rfl (lw_in_7 (p := 30) rfl) (ks := [0, 68, 0, 0, 0, 0, 42, 0, 0, 0, 0, 34, 0, 0, 0, 0, 0]) (by decide +kernel)
set_option maxRecDepth 1000000 in
theorem mk_206 : ab_MK cm_ms mr_206 := wz_MK wz_C9 wz_W9k rfl (lw_in_7 (p := 50) rfl) (ks := [0, 68, 0, 0, 0, 0, 42, 0, 0, 0, 0, 34, 0, 0, 0, 0, 0]) (by decide +kernel)
set_option maxRecDepth 1000000 in
theorem mk_207 : ab_MK cm_ms mr_207 := wz_MK wz_C9 wz_W9k rfl (lw_in_8 (p := 4) rfl) (ks := [0, 68, 0, 0, 0, 0, 42, 0, 0, 0, 0, 34, 0, 0, 0, 0, 0]) (by decide +kernel)
set_option maxRecDepth 1000000 in
theorem mk_208 : ab_MK cm_ms mr_208 := wz_MK wz_C9 wz_W9k rfl (lw_in_7 (p := 102) rfl) (ks := [0, 0, 42, 0, 0, 0, 0, 0, 0]) (by decide +kernel)
set_option maxRecDepth 1000000 in
theorem mk_209 : ab_MK cm_ms mr_209 := wz_MK wz_C9 wz_W9k rfl (lw_in_7 (p := 34) rfl) (ks := [0, 0, 0, 0, 42, 0, 0, 0, 0, 0, 0, 0]) (by decide +kernel)
set_option maxRecDepth 1000000 in
theorem mk_210 : ab_MK cm_ms mr_210 := wz_MK wz_C9 wz_W9k rfl (lw_in_7 (p := 78) rfl) (ks := [0, 0, 0, 0, 0, 0, 42, 0, 0, 0, 0, 0, 0, 0, 69, 0, 0, 0, 0, 0, 0, 0, 0, 0, 0, 0, 0]) (by decide +kernel)
set_option maxRecDepth 1000000 in
theorem mk_211 : ab_MK cm_ms mr_211 := wz_MK wz_C9 wz_W9k rfl (lw_in_7 (p := 42) rfl) (ks := [0, 0, 0, 69, 0, 0, 42, 0, 0, 0, 0, 0, 64, 0, 0, 0, 0, 0, 42, 0, 0, 0, 0, 0, 0, 0, 0, 0, 0, 0]) (by decide +kernel)
set_option maxRecDepth 1000000 in
theorem mk_212 : ab_MK cm_ms mr_212 := wz_MK wz_C9 wz_W9k rfl (lw_in_7 (p := 62) rfl) (ks := [0, 0, 0, 0, 0, 0, 42, 0, 0, 0, 0, 0, 0, 0, 0, 70, 0, 0, 0, 0, 0, 0, 0, 0, 0, 0, 0, 0]) (by decide +kernel)
set_option maxRecDepth 1000000 in
theorem mk_213 : ab_MK cm_ms mr_213 := wz_MK wz_C9 wz_W9k rfl (lw_in_7 (p := 66) rfl) (ks := [0, 0, 0, 0, 0, 0, 42, 0, 0, 0, 0, 0, 0, 64, 0, 0, 42, 0, 0, 0, 0, 0, 0, 0, 0, 0, 0, 0, 0, 0, 0, 0, 0]) (by decide +kernel)
set_option maxRecDepth 1000000 in
theorem mk_214 : ab_MK cm_ms mr_214 := wz_MK wz_C9 wz_W9k rfl (lw_in_7 (p := 58) rfl) (ks := [0, 0, 0, 0, 71, 72, 0]) (by decide +kernel)
set_option maxRecDepth 1000000 in
theorem mk_215 : ab_MK cm_ms mr_215 := wz_MK wz_C9 wz_W9k rfl (lw_in_7 (p := 90) rfl) (ks := [0, 0, 0, 73, 0, 42, 0, 0, 0, 0, 0, 0, 0, 0, 0, 0, 0, 0, 0]) (by decide +kernel)
set_option maxRecDepth 1000000 in
theorem mk_216 : ab_MK cm_ms mr_216 := wz_MK wz_C9 wz_W9k rfl (lw_in_7 (p := 54) rfl) (ks := [0, 0, 0, 0, 64, 0, 0, 42, 0, 0, 0, 0, 0, 0, 0, 0, 0, 0, 0, 0, 0, 0, 0]) (by decide +kernel)
set_option maxRecDepth 1000000 in
theorem mk_217 : ab_MK cm_ms mr_217 := wz_MK wz_C9 wz_W9k rfl (lw_in_7 (p := 170) rfl) (ks := [0, 0, 0, 71, 0, 0, 0, 0, 0, 42, 0, 0, 0, 0, 0, 64, 0, 0, 0, 0, 0, 0, 0, 42, 0, 0, 0, 0, 0, 0, 0, 0, 0, 0, 0, 42, 0, 0, 0, 0, 0, 0, 0, 0, 0, 0, 42, 0, 0, 0, 0, 0, 0, 0, 0, 0, 0, 0]) (by decide +kernel)
set_option maxRecDepth 1000000 in
theorem mk_218 : ab_MK cm_ms mr_218 := wz_MK wz_C9 wz_W9k rfl (lw_in_7 (p := 166) rfl) (ks := [0, 0, 0, 74, 0, 0, 0, 0, 75, 0, 0, 0, 0, 0, 0, 0, 0, 0, 0, 0, 0, 0]) (by decide +kernel)
set_option maxRecDepth 1000000 in
theorem mk_219 : ab_MK cm_ms mr_219 := wz_MK wz_C9 wz_W9k rfl (lw_in_7 (p := 130) rfl) (ks := [0, 0, 0, 0, 42, 0, 0, 0, 0, 0, 0, 0, 0, 0, 42, 0, 0, 0, 0, 0, 0, 0, 0, 0, 0, 0, 42, 0, 0, 0, 0, 0, 0, 0, 0, 0, 0, 0, 0, 0, 0]) (by decide +kernel)
set_option maxRecDepth 1000000 in
theorem mk_220 : ab_MK cm_ms mr_220 := wz_MK wz_C9 wz_W9k rfl (lw_in_7 (p := 126) rfl) (ks := [0, 44, 0, 0, 76, 0, 0, 43, 0, 0, 0, 0, 0, 0, 0, 76, 77, 0, 0, 0]) (by decide +kernel)
set_option maxRecDepth 1000000 in
theorem mk_221 : ab_MK cm_ms mr_221 := wz_MK wz_C9 wz_W9k rfl (lw_in_7 (p := 26) rfl) (ks := [0, 38, 0, 0, 78, 0, 0, 0, 0, 34, 0, 0, 0, 39, 0, 0, 0, 0, 42, 0, 0, 0, 0, 0, 0, 0, 0, 44, 0, 0, 0, 0, 42, 0, 0, 0, 0, 0, 0, 0, 0, 0, 0, 0, 44, 0, 69, 0, 0, 0, 0, 0, 0, 42, 0, 0, 0, 0, 0, 0, 42, 0, 0, 0, 0, 0, 0, 0, 79, 0]) (by decide +kernel)
set_option maxRecDepth 1000000 in
theorem mk_222 : ab_MK cm_ms mr_222 := wz_MK wz_C9 wz_W9k rfl (lw_in_7 (p := 38) rfl) (ks := [0, 0, 0, 0, 0, 0, 42, 0, 0, 0, 0, 0, 0, 44, 0, 0, 70, 0, 0, 0, 0, 0, 0, 0, 0, 0, 0, 0, 0]) (by decide +kernel)
set_option maxRecDepth 1000000 in
theorem mk_223 : ab_MK cm_ms mr_223 := wz_MK wz_C9 wz_W9k rfl (lw_in_7 (p := 46) rfl) (ks := [0, 38, 0, 0, 80, 0, 0, 0, 0, 34, 0, 0, 0, 39, 0, 0, 0, 0, 42, 0, 0, 0, 0, 0, 0, 0, 0, 0, 0, 42, 0, 0, 0, 0, 0, 0, 44, 0, 0, 0, 0, 0, 0, 0, 0, 0, 44, 0, 81, 0, 0, 0, 0, 0, 0, 0, 44, 0, 73, 0, 0, 0, 44, 0, 71, 0]) (by decide +kernel)
set_option maxRecDepth 1000000 in
theorem mk_224 : ab_MK cm_ms mr_224 := wz_MK wz_C9 wz_W9k rfl (lw_in_7 (p := 70) rfl) (ks := [0, 38, 0, 68, 0, 0, 0, 0, 34, 0, 0, 44, 0, 0, 0, 0, 0, 0, 0, 39, 0]) (by decide +kernel)
set_option maxRecDepth 1000000 in
theorem mk_225 : ab_MK cm_ms mr_225 := wz_MK wz_C9 wz_W9k rfl (lw_in_7 (p := 74) rfl) (ks := [0, 38, 0, 68, 0, 0, 0, 44, 82, 0, 0, 0, 39, 0]) (by decide +kernel)
set_option maxRecDepth 1000000 in
theorem mk_226 : ab_MK cm_ms mr_226 := wz_MK wz_C9 wz_W9k rfl (lw_in_7 (p := 82) rfl) (ks := [0, 38, 0, 68, 0, 0, 0, 39, 0, 0, 0, 0, 0, 0, 0, 42, 0, 0, 0, 0, 44, 0, 0, 0, 44, 0, 0, 0, 0, 0, 0, 0, 0, 0]) (by decide +kernel)
set_option maxRecDepth 1000000 in
theorem mk_227 : ab_MK cm_ms mr_227 := wz_MK wz_C9 wz_W9k rfl (lw_in_7 (p := 86) rfl) (ks := [0, 38, 0, 68, 0, 0, 0, 39, 0, 0, 0, 0, 0, 0, 0, 42, 0, 0, 0, 0, 0, 0, 44, 0, 81, 0, 0, 0, 44, 0, 74, 0, 0, 0, 0, 0, 0, 0, 0, 0, 0, 0, 0]) (by decide +kernel)
set_option maxRecDepth 1000000 in
theorem mk_228 : ab_MK cm_ms mr_228 := wz_MK wz_C9 wz_W9k rfl (lw_in_7 (p := 98) rfl) (ks := [0, 83, 0, 0, 44, 82, 0, 0, 0, 0]) (by decide +kernel)
set_option maxRecDepth 1000000 in
theorem mk_229 : ab_MK cm_ms mr_229 := wz_MK wz_C9 wz_W9k rfl (lw_in_7 (p := 94) rfl) (ks := [0, 38, 0, 68, 0, 0, 0, 84, 72, 0, 0, 0, 39, 0]) (by decide +kernel)
set_option maxRecDepth 1000000 in
theorem mk_230 : ab_MK cm_ms mr_230 := wz_MK wz_C9 wz_W9k rfl (lw_in_7 (p := 106) rfl) (ks := [0, 38, 0, 0, 80, 0, 0, 0, 39, 0, 0, 0, 0, 0, 0, 0, 0, 0, 42, 0, 0, 0, 0, 0, 42, 0, 0, 0, 0, 0, 0, 0, 0, 0, 0, 0, 0, 0, 0, 0, 0, 0, 0, 0, 0, 0, 0]) (by decide +kernel)
set_option maxRecDepth 1000000 in
theorem mk_231 : ab_MK cm_ms mr_231 := wz_MK wz_C9 wz_W9k rfl (lw_in_7 (p := 114) rfl) (ks := [0, 0, 0, 0, 0, 0, 0, 0, 42, 0, 0, 0, 0, 0, 64, 0, 0, 0, 85, 0, 0, 0, 0, 85, 0, 0, 0, 0, 0, 0, 0, 0, 0]) (by decide +kernel)
set_option maxRecDepth 1000000 in
theorem mk_232 : ab_MK cm_ms mr_232 := wz_MK wz_C9 wz_W9k rfl (lw_in_7 (p := 110) rfl) (ks := [0, 38, 0, 0, 80, 0, 0, 0, 85, 0, 0, 0, 39, 0]) (by decide +kernel)
set_option maxRecDepth 1000000 in
theorem mk_233 : ab_MK cm_ms mr_233 := wz_MK wz_C9 wz_W9k rfl (lw_in_7 (p := 122) rfl) (ks := [0, 0, 0, 0, 0, 0, 0, 0, 0, 0]) (by decide +kernel)
set_option maxRecDepth 1000000 in
theorem mk_234 : ab_MK cm_ms mr_234 := wz_MK wz_C9 wz_W9k rfl (lw_in_7 (p := 118) rfl) (ks := [0, 38, 0, 0, 0, 78, 0, 0, 0, 34, 86, 0, 0, 0, 0, 0, 39, 0, 0, 0, 87, 0, 76, 0, 0, 0]) (by decide +kernel)
set_option maxRecDepth 1000000 in
theorem mk_235 : ab_MK cm_ms mr_235 := wz_MK wz_C9 wz_W9k rfl (lw_in_7 (p := 134) rfl) (ks := [0, 38, 0, 0, 0, 80, 0, 0, 0, 34, 86, 0, 0, 0, 0, 0, 39, 0, 0, 0, 87, 0, 0, 76, 0, 73, 0]) (by decide +kernel)
set_option maxRecDepth 1000000 in
theorem mk_236 : ab_MK cm_ms mr_236 := wz_MK wz_C9 wz_W9k rfl (lw_in_7 (p := 142) rfl) (ks := [0, 0, 87, 0, 0, 0, 0, 0, 0, 0, 76, 0, 74, 0, 0, 0, 0, 0, 76, 77, 0, 0, 0, 0]) (by decide +kernel)
set_option maxRecDepth 1000000 in
theorem mk_237 : ab_MK cm_ms mr_237 := wz_MK wz_C9 wz_W9k rfl (lw_in_7 (p := 138) rfl) (ks := [0, 38, 0, 0, 80, 0, 0, 0, 88, 0, 0, 0, 39, 0]) (by decide +kernel)
set_option maxRecDepth 1000000 in
theorem mk_238 : ab_MK cm_ms mr_238 := wz_MK wz_C9 wz_W9k rfl (lw_in_7 (p := 146) rfl) (ks := [0, 38, 0, 68, 0, 0, 0, 39, 0, 0, 0, 87, 0, 0, 0, 0, 0, 0, 0, 76, 82, 0, 0, 0, 0, 0, 76, 77, 0, 0, 0, 0]) (by decide +kernel)
set_option maxRecDepth 1000000 in
theorem mk_239 : ab_MK cm_ms mr_239 := wz_MK wz_C9 wz_W9k rfl (lw_in_7 (p := 150) rfl) (ks := [0, 38, 0, 68, 0, 0, 0, 39, 0, 0, 0, 0, 0, 0, 0, 42, 0, 0, 0, 0, 0, 44, 0, 81, 0, 0, 0, 88, 0, 0, 0, 0, 0, 0, 0, 0, 0, 0, 88, 0, 0, 0, 0, 0, 0, 0]) (by decide +kernel)
set_option maxRecDepth 1000000 in
theorem mk_240 : ab_MK cm_ms mr_240 := wz_MK wz_C9 wz_W9k rfl (lw_in_7 (p := 162) rfl) (ks := [0, 0, 87, 0, 0, 0, 0, 0, 0, 0, 0, 0, 0, 0, 0, 0, 0, 0, 0, 0, 0, 0, 0, 0, 0, 76, 77, 0, 0, 0, 0, 0, 0, 0, 0, 0, 0, 0, 0, 0, 0, 0, 0, 0, 76, 0, 81, 0, 0, 0, 0, 0, 0, 76, 0, 89, 0, 0, 42, 0, 0, 0, 0, 0, 0, 0, 0, 0, 0, 0, 0, 0, 0, 0, 0]) (by decide +kernel)
set_option maxRecDepth 1000000 in
theorem mk_241 : ab_MK cm_ms mr_241 := wz_MK wz_C9 wz_W9k rfl (lw_in_7 (p := 158) rfl) (ks := [0, 0, 0, 0, 0, 0, 0, 0, 0, 0, 0, 0, 0, 0, 0, 0, 0, 0, 0, 42, 0, 0, 0, 0, 0, 0, 0, 0, 0, 0, 0, 0, 0, 0, 0, 0, 0, 0, 0, 0, 0]) (by decide +kernel)
set_option maxRecDepth 1000000 in
theorem mk_242 : ab_MK cm_ms mr_242 := wz_MK wz_C9 wz_W9k rfl (lw_in_7 (p := 154) rfl) (ks := [0, 38, 0, 0, 68, 0, 68, 0, 0, 0, 0, 34, 0, 0, 0, 0, 90, 0, 0, 0, 0, 86, 0, 0, 0, 0, 0, 39, 0, 0, 0, 0, 91, 0, 0, 0, 0, 0, 39, 0, 0, 0]) (by decide +kernel)
set_option maxRecDepth 1000000 in
theorem mk_243 : ab_MK cm_ms mr_243 := wz_MK wz_C9 wz_W9k rfl (lw_in_7 (p := 181) rfl) (ks := [0, 0, 0, 0, 0, 0, 0, 0, 0, 0, 0, 0, 0, 0, 0]) (by decide +kernel)
set_option maxRecDepth 1000000 in
theorem mk_244 : ab_MK cm_ms mr_244 := wz_MK wz_C9 wz_W9k rfl (lw_in_7 (p := 178) rfl) (ks := [0, 0, 0, 0, 0, 0, 0, 0, 92, 0, 0, 0, 0, 90, 0, 0, 0, 0, 91, 0, 0, 0, 0, 0, 0, 0, 0, 0, 0, 0, 0, 0, 0, 0]) (by decide +kernel)
set_option maxRecDepth 1000000 in
theorem mk_245 : ab_MK cm_ms mr_245 := wz_MK wz_C9 wz_W9k rfl (lw_in_7 (p := 174) rfl) (ks := [0, 38, 0, 0, 68, 0, 0, 0, 34, 86, 0, 0, 0, 0, 0, 39, 0, 0, 0, 93, 0]) (by decide +kernel)
set_option maxRecDepth 1000000 in
theorem mk_246 : ab_MK cm_ms mr_246 := wz_MK wz_C9 wz_W9k rfl (lw_in_7 (p := 185) rfl) (ks := [0, 38, 0, 0, 68, 0, 0, 0, 34, 86, 0, 0, 0, 0, 0, 39, 0, 0, 0, 0, 93, 0, 91, 0]) (by decide +kernel)
set_option maxRecDepth 1000000 in
theorem mk_247 : ab_MK cm_ms mr_247 := wz_MK wz_C9 wz_W9k rfl (lw_in_7 (p := 189) rfl) (ks := [0, 38, 0, 0, 68, 0, 0, 0, 34, 86, 0, 0, 0, 0, 0, 39, 0, 0, 0, 0, 93, 0, 91, 0, 0, 76, 0, 0, 0]) (by decide +kernel)
set_option maxRecDepth 1000000 in
theorem mk_248 : ab_MK cm_ms mr_248 := wz_MK wz_C9 wz_W9k rfl (lw_in_7 (p := 193) rfl) (ks := [0, 38, 0, 0, 80, 0, 0, 0, 39, 0, 0, 44, 0, 0, 0, 64, 0, 0, 0, 0, 0, 0, 0, 0, 0, 0, 0, 0, 92, 0, 0, 0, 0, 90, 0, 0, 0, 0, 91, 0, 0, 76, 0, 0, 0, 64, 0, 0, 0, 0, 0, 0, 0, 0, 0]) (by decide +kernel)
set_option maxRecDepth 1000000 in
theorem mk_249 : ab_MK cm_ms mr_249 := wz_MK wz_C9 wz_W9k rfl (lw_in_7 (p := 201) rfl) (ks := [0, 0, 44, 0, 69, 0, 0, 0, 0, 84, 0, 0, 0, 0, 0, 0, 0, 0, 0, 0, 0, 0, 0, 83, 0, 0, 0, 0, 0, 0, 0, 0, 0, 0, 72, 0, 0, 0, 0, 0, 0, 0, 0, 72, 0, 0, 0, 0, 0, 0, 0, 0, 0, 0, 0]) (by decide +kernel)
set_option maxRecDepth 1000000 in
theorem mk_250 : ab_MK cm_ms mr_250 := wz_MK wz_C9 wz_W9k rfl (lw_in_7 (p := 197) rfl) (ks := [0, 38, 0, 0, 0, 78, 0, 0, 0, 34, 86, 0, 0, 0, 0, 0, 39, 0, 0, 0, 0, 94, 0]) (by decide +kernel)
set_option maxRecDepth 1000000 in
theorem mk_251 : ab_MK cm_ms mr_251 := wz_MK wz_C9 wz_W9k rfl (lw_in_7 (p := 205) rfl) (ks := [0, 38, 0, 0, 68, 0, 0, 0, 34, 86, 0, 0, 0, 0, 0, 39, 0, 0, 0, 0, 0, 0, 0, 0, 0, 42, 0, 0, 0, 0, 0, 0, 94, 0, 0, 0, 0, 0, 0, 0, 0, 94, 0, 0, 0, 0, 0]) (by decide +kernel)
set_option maxRecDepth 1000000 in
theorem mk_252 : ab_MK cm_ms mr_252 := wz_MK wz_C9 wz_W9k rfl (lw_in_7 (p := 209) rfl) (ks := [0, 38, 0, 0, 68, 0, 0, 0, 34, 86, 0, 0, 0, 0, 0, 39, 0, 0, 0, 0, 0, 0, 0, 42, 0, 0, 0, 0, 0, 0, 44, 0, 69, 0, 0, 0, 0, 94, 0, 0, 0, 0, 0, 0, 0, 0, 0, 0, 0, 0]) (by decide +kernel)
set_option maxRecDepth 1000000 in
theorem mk_253 : ab_MK cm_ms mr_253 := wz_MK wz_C9 wz_W9k rfl (lw_in_7 (p := 213) rfl) (ks := [0, 38, 0, 0, 68, 0, 0, 0, 34, 86, 0, 0, 0, 0, 0, 39, 0, 0, 0, 0, 0, 0, 0, 83, 0, 0, 0, 84, 0, 0, 0, 0, 0, 0, 72, 0, 0, 0, 0, 0, 95, 0, 95, 0, 0, 0, 0, 0, 0, 0]) (by decide +kernel)
set_option maxRecDepth 1000000 in
theorem mk_254 : ab_MK cm_ms mr_254 := wz_MK wz_C9 wz_W9k rfl (lw_in_7 (p := 228) rfl) (ks := [0, 0, 0, 0, 0, 0, 42, 0, 0, 0, 0, 0, 0, 64, 0, 0, 42, 0, 0, 0, 0, 0, 0, 95, 0, 0, 0, 0, 0, 0, 0, 0]) (by decide +kernel)
set_option maxRecDepth 1000000 in
theorem mk_255 : ab_MK cm_ms mr_255 := wz_MK wz_C9 wz_W9k rfl (lw_in_7 (p := 224) rfl) (ks := [0, 0, 0, 0, 0, 0, 83, 0, 0, 0, 0, 0, 0, 96, 0, 0, 0, 0, 0, 96, 0, 0, 0, 0, 0, 0, 0]) (by decide +kernel)
set_option maxRecDepth 1000000 in
theorem mk_256 : ab_MK cm_ms mr_256 := wz_MK wz_C9 wz_W9k rfl (lw_in_7 (p := 220) rfl) (ks := [0, 38, 0, 68, 0, 0, 97, 0, 0, 0, 39, 0]) (by decide +kernel)
set_option maxRecDepth 1000000 in
theorem mk_257 : ab_MK cm_ms mr_257 := wz_MK wz_C9 wz_W9k rfl (lw_in_7 (p := 232) rfl) (ks := [0, 38, 0, 68, 0, 0, 0, 39, 0, 0, 97, 0, 0, 42, 0, 0, 0, 0, 0, 0, 0, 96, 0, 0]) (by decide +kernel)
set_option maxRecDepth 1000000 in
theorem mk_258 : ab_MK cm_ms mr_258 := wz_MK wz_C9 wz_W9k rfl (lw_in_7 (p := 236) rfl) (ks := [0, 38, 0, 68, 0, 0, 0, 39, 0, 0, 83, 0, 0, 0, 0, 0, 83, 0, 0, 95, 0, 95, 0, 0, 0, 83, 0, 0, 0, 0, 0, 83, 0, 0, 0, 0, 96, 0, 0, 0, 0, 0, 0, 0]) (by decide +kernel)
set_option maxRecDepth 1000000 in
theorem mk_259 : ab_MK cm_ms mr_259 := wz_MK wz_C9 wz_W9k rfl (lw_in_8 (p := 8) rfl) (ks := [0, 42, 0, 0, 0, 0, 0, 42, 0, 0, 0, 0, 0, 0, 0, 0, 0, 0, 0, 0, 0, 0, 0, 0, 0, 0, 0, 0]) (by decide +kernel)
set_option maxRecDepth 1000000 in
theorem mk_260 : ab_MK cm_ms mr_260 := wz_MK wz_C9 wz_W9k rfl (lw_in_8 (p := 0) rfl) (ks := [0, 38, 0, 0, 98, 0, 0, 0, 98, 0, 0, 0, 0, 99, 0, 0, 0, 39, 0]) (by decide +kernel)
set_option maxRecDepth 1000000 in
theorem mk_261 : ab_MK cm_ms mr_261 := wz_MK wz_C9 wz_W9k rfl (lw_in_8 (p := 21) rfl) (ks := [0, 0, 42, 0, 0, 0, 0, 0, 0, 100, 0, 0, 0, 0, 0, 100, 0, 0, 99, 0, 0, 0, 0, 101, 0, 0, 0, 0, 102, 0, 100, 0, 0, 103, 0, 0, 43, 0, 0, 0, 0, 0, 42, 0, 0, 0, 0, 0, 64, 0, 0, 0, 100, 0, 0, 0, 0, 0, 0, 0, 0, 0, 0, 0, 0, 0, 0, 0, 100, 0, 0, 0, 0, 0, 99, 0, 104, 0, 0, 0]) (by decide +kernel)
set_option maxRecDepth 1000000 in
theorem mk_262 : ab_MK cm_ms mr_262 := wz_MK wz_C9 wz_W9k rfl (lw_in_8 (p := 16) rfl) (ks := [0, 105, 102, 0, 100, 0, 0, 0, 0, 0, 0, 0, 104, 0]) (by decide +kernel)
set_option maxRecDepth 1000000 in
theorem mk_263 : ab_MK cm_ms mr_263 := wz_MK wz_C9 wz_W9k rfl (lw_in_8 (p := 12) rfl) (ks := [0, 38, 0, 68, 0, 0, 0, 39, 0, 0, 42, 0, 0, 0, 0, 0, 0, 0, 106, 0, 101, 0]) (by decide +kernel)
set_option maxRecDepth 1000000 in
theorem mk_264 : ab_MK cm_ms mr_264 := wz_MK wz_C9 wz_W9k rfl (lw_in_8 (p := 25) rfl) (ks := [0, 38, 0, 0, 98, 0, 0, 0, 39, 0, 0, 106, 0, 103, 0, 0, 0]) (by decide +kernel)
set_option maxRecDepth 1000000 in
theorem mk_265 : ab_MK cm_ms mr_265 := wz_MK wz_C9 wz_W9k rfl (lw_in_8 (p := 37) rfl) (ks := [0, 0, 76, 45, 0, 0, 0, 0, 42, 0, 0, 0, 0, 0, 64, 0, 0, 0, 76, 0, 75, 0, 0, 0, 0, 0, 0, 0, 0, 0, 0, 0, 0, 42, 0, 0, 0, 0, 0, 0, 76, 0, 0, 0, 0, 0, 42, 0, 0, 0, 0, 0, 0, 0, 0, 0, 0, 0, 0, 0, 0, 0]) (by decide +kernel)
set_option maxRecDepth 1000000 in
theorem mk_266 : ab_MK cm_ms mr_266 := wz_MK wz_C9 wz_W9k rfl (lw_in_8 (p := 33) rfl) (ks := [0, 0, 0, 0, 107, 0, 0, 108, 0, 0, 0, 42, 0, 0, 0, 0, 0, 109, 0, 0, 0, 0, 0, 0, 110, 0, 0, 0, 0, 0, 0, 0, 0, 0, 0, 42, 0, 0, 0, 0, 0, 0, 111, 0, 0, 0, 112, 0, 0, 0, 0, 0, 0, 112, 0, 0, 107, 0, 0, 113, 0, 0, 108, 0, 0, 114, 0, 0, 109, 0, 0, 0, 0, 42, 0, 0, 0, 0, 110, 0, 0, 0, 0, 0, 0, 0, 0, 0, 0, 0, 0, 0, 0, 0, 112, 0, 0, 0, 109, 0, 0]) (by decide +kernel)
set_option maxRecDepth 1000000 in
theorem mk_267 : ab_MK cm_ms mr_267 := wz_MK wz_C9 wz_W9k rfl (lw_in_8 (p := 29) rfl) (ks := [0, 38, 0, 68, 0, 0, 0, 39, 0, 0, 0, 115, 0, 0, 112, 0]) (by decide +kernel)
set_option maxRecDepth 1000000 in
theorem mk_268 : ab_MK cm_ms mr_268 := wz_MK wz_C9 wz_W9k rfl (lw_in_8 (p := 41) rfl) (ks := [0, 38, 0, 68, 0, 0, 0, 0, 0, 39, 0, 0, 0, 115, 0, 0, 0, 0, 0, 39, 0, 0, 0]) (by decide +kernel)
set_option maxRecDepth 1000000 in
theorem mk_269 : ab_MK cm_ms mr_269 := wz_MK wz_C9 wz_W9k rfl (lw_in_8 (p := 45) rfl) (ks := [0, 38, 0, 68, 0, 0, 0, 39, 0, 0, 0, 115, 0, 0, 113, 0]) (by decide +kernel)
set_option maxRecDepth 1000000 in
theorem mk_270 : ab_MK cm_ms mr_270 := wz_MK wz_C9 wz_W9k rfl (lw_in_8 (p := 49) rfl) (ks := [0, 38, 0, 68, 0, 0, 0, 39, 0, 0, 0, 115, 0, 0, 114, 0]) (by decide +kernel)
set_option maxRecDepth 1000000 in
theorem mk_271 : ab_MK cm_ms mr_271 := wz_MK wz_C9 wz_W9k rfl (lw_in_8 (p := 61) rfl) (ks := [0, 110, 0, 0, 0, 112, 0, 110, 0, 0, 0, 0, 0, 110, 0, 0, 0, 0, 112, 0, 110, 0, 0, 0, 0]) (by decide +kernel)
set_option maxRecDepth 1000000 in
theorem mk_272 : ab_MK cm_ms mr_272 := wz_MK wz_C9 wz_W9k rfl (lw_in_8 (p := 57) rfl) (ks := [0, 0, 115, 0, 0, 0, 0, 0, 0, 0, 42, 0, 0, 0, 0, 112, 0, 0, 0, 0, 0, 116, 0, 0, 116, 0, 0, 0, 0, 0, 0, 0]) (by decide +kernel)
set_option maxRecDepth 1000000 in
theorem mk_273 : ab_MK cm_ms mr_273 := wz_MK wz_C9 wz_W9k rfl (lw_in_8 (p := 53) rfl) (ks := [0, 38, 0, 68, 0, 0, 117, 0, 0, 0, 39, 0]) (by decide +kernel)
set_option maxRecDepth 1000000 in
theorem mk_274 : ab_MK cm_ms mr_274 := wz_MK wz_C9 wz_W9k rfl (lw_in_8 (p := 65) rfl) (ks := [0, 38, 0, 68, 0, 0, 0, 39, 0, 0, 117, 0, 0, 0, 0, 0, 0, 0, 116, 0]) (by decide +kernel)
set_option maxRecDepth 1000000 in
theorem mk_275 : ab_MK cm_ms mr_275 := wz_MK wz_C9 wz_W9k rfl (lw_in_8 (p := 72) rfl) (ks := [0, 0, 0, 0, 0, 0, 0, 0, 0, 0, 0, 0, 0, 0, 0]) (by decide +kernel)
set_option maxRecDepth 1000000 in
theorem mk_276 : ab_MK cm_ms mr_276 := wz_MK wz_C9 wz_W9k rfl (lw_in_8 (p := 69) rfl) (ks := [0, 38, 0, 0, 68, 0, 0, 0, 34, 86, 0, 0, 0, 0, 0, 0, 0, 0, 118, 0, 0, 0, 0, 118, 0, 0, 0, 2, 0, 0]) (by decide +kernel)
set_option maxRecDepth 1000000 in
theorem mk_277 : ab_MK cm_ms mr_277 := wz_MK wz_C9 wz_W9k rfl (lw_in_8 (p := 83) rfl) (ks := [0, 0, 0, 0, 0, 0, 0, 118, 0, 0, 0, 118, 0, 0, 0, 0, 0, 0, 0, 0, 118, 0, 0, 0, 118, 0, 0, 0, 0, 0]) (by decide +kernel)
set_option maxRecDepth 1000000 in
theorem mk_278 : ab_MK cm_ms mr_278 := wz_MK wz_C9 wz_W9k rfl (lw_in_8 (p := 80) rfl) (ks := [0, 0, 0, 0, 119, 0, 0, 0, 0, 0, 0, 0, 0, 0, 0, 0, 0, 0, 0, 0, 0, 0, 0, 0, 0, 120, 0, 0, 0, 0, 0, 0, 0, 0, 0, 0, 0, 0, 0, 0, 119, 0, 0, 0, 0, 0]) (by decide +kernel)
set_option maxRecDepth 1000000 in
theorem mk_279 : ab_MK cm_ms mr_279 := wz_MK wz_C9 wz_W9k rfl (lw_in_8 (p := 76) rfl) (ks := [0, 38, 0, 0, 68, 0, 0, 0, 34, 86, 0, 0, 0, 0, 0, 39, 0, 0, 0, 121, 0]) (by decide +kernel)
set_option maxRecDepth 1000000 in
theorem mk_280 : ab_MK cm_ms mr_280 := wz_MK wz_C9 wz_W9k rfl (lw_in_8 (p := 87) rfl) (ks := [0, 38, 0, 0, 68, 0, 0, 0, 34, 86, 0, 0, 0, 0, 0, 39, 0, 0, 0, 121, 0, 0, 122, 0]) (by decide +kernel)
set_option maxRecDepth 1000000 in
theorem mk_281 : ab_MK cm_ms mr_281 := wz_MK wz_C9 wz_W9k rfl (lw_in_8 (p := 95) rfl) (ks := [0, 0, 123, 0, 0, 124, 0, 0, 125, 0, 0, 0, 0, 83, 0, 0, 0, 87, 0, 0, 0, 0, 0, 0, 42, 0, 0, 0, 0, 0, 0, 64, 0, 0, 42, 0, 0, 0, 0, 0, 0, 42, 0, 0, 0, 0, 0, 0, 0, 0, 64, 0, 0, 76, 0, 0, 0, 0, 0, 0, 0, 126, 0, 0, 123, 0, 0, 127, 0, 0, 76, 0, 74, 0, 0, 0, 0, 0, 124, 0, 0, 128, 0, 0, 0, 76, 0, 73, 0, 0, 0, 125, 0, 0, 0]) (by decide +kernel)
set_option maxRecDepth 1000000 in
theorem mk_282 : ab_MK cm_ms mr_282 := wz_MK wz_C9 wz_W9k rfl (lw_in_8 (p := 91) rfl) (ks := [0, 38, 0, 0, 80, 0, 0, 0, 39, 0, 0, 0, 0, 129, 0, 127, 0, 126, 0, 130, 0]) (by decide +kernel)
set_option maxRecDepth 1000000 in
theorem mk_283 : ab_MK cm_ms mr_283 := wz_MK wz_C9 wz_W9k rfl (lw_in_8 (p := 102) rfl) (ks := [0, 38, 0, 0, 80, 0, 0, 0, 39, 0, 0, 0, 0, 129, 0, 128, 0, 126, 0, 130, 0]) (by decide +kernel)
set_option maxRecDepth 1000000 in
theorem mk_284 : ab_MK cm_ms mr_284 := wz_MK wz_C9 wz_W9k rfl (lw_in_8 (p := 110) rfl) (ks := [0, 0, 0, 0, 0, 0, 131, 34, 0, 0, 0, 0, 34, 0, 0, 0, 0, 0, 87, 0, 0, 132, 0, 0, 0, 0, 0, 0, 0, 0, 0, 76, 77, 0, 0, 0, 0, 42, 0, 0, 0, 0, 0, 0, 0, 0, 133, 0, 0, 0, 0, 0, 0, 42, 0, 0, 0, 0, 76, 0, 0, 0, 0, 0, 0, 134, 0, 0, 0, 0, 0, 76, 0, 74, 0, 0, 0, 132, 0, 0, 0, 0]) (by decide +kernel)
set_option maxRecDepth 1000000 in
theorem mk_285 : ab_MK cm_ms mr_285 := wz_MK wz_C9 wz_W9k rfl (lw_in_8 (p := 106) rfl) (ks := [0, 38, 0, 0, 0, 78, 0, 0, 0, 135, 0, 0, 0, 0, 0, 39, 0, 0, 76, 0, 0, 0]) (by decide +kernel)
set_option maxRecDepth 1000000 in
theorem mk_286 : ab_MK cm_ms mr_286 := wz_MK wz_C9 wz_W9k rfl (lw_in_8 (p := 116) rfl) (ks := [0, 38, 0, 0, 0, 80, 0, 0, 0, 135, 0, 0, 0, 0, 0, 39, 0, 0, 134, 0]) (by decide +kernel)
set_option maxRecDepth 1000000 in
theorem mk_287 : ab_MK cm_ms mr_287 := wz_MK wz_C9 wz_W9k rfl (lw_in_8 (p := 124) rfl) (ks := [0, 136, 0, 0, 0, 0, 0, 0, 0, 0, 137, 0, 0, 137, 0, 0, 0, 0, 0, 0, 0, 0, 0, 136, 0, 0, 47, 0, 44, 0, 0, 137, 0, 0, 136, 0, 0, 43, 0, 0, 136, 0, 0, 47, 0]) (by decide +kernel)
set_option maxRecDepth 1000000 in
theorem mk_288 : ab_MK cm_ms mr_288 := wz_MK wz_C9 wz_W9k rfl (lw_in_8 (p := 120) rfl) (ks := [0, 38, 0, 0, 80, 0, 0, 0, 39, 0, 0, 0, 44, 0, 81, 0, 0, 0, 39, 0, 0, 138, 0, 0, 44, 0, 89, 0, 0, 0, 0, 0]) (by decide +kernel)
set_option maxRecDepth 1000000 in
theorem mk_289 : ab_MK cm_ms mr_289 := wz_MK wz_C9 wz_W9k rfl (lw_in_8 (p := 128) rfl) (ks := [0, 38, 0, 68, 0, 0, 0, 39, 0, 0, 44, 0, 0, 0, 0, 0, 0, 39, 0, 0, 138, 0, 0, 44, 77, 0, 0, 44, 82, 0]) (by decide +kernel)
set_option maxRecDepth 1000000 in
theorem mk_290 : ab_MK cm_ms mr_290 := wz_MK wz_C9 wz_W9k rfl (lw_in_8 (p := 132) rfl) (ks := [0, 38, 0, 0, 78, 0, 0, 0, 39, 0, 0, 44, 0, 0, 0, 0, 0, 39, 0, 0, 138, 0, 44, 0, 0, 0, 0, 44, 0, 0, 0, 0, 44, 0, 0, 42, 0, 0, 0, 0, 0, 0, 0, 0, 0, 0, 0, 0, 0, 0]) (by decide +kernel)
set_option maxRecDepth 1000000 in
theorem mk_291 : ab_MK cm_ms mr_291 := wz_MK wz_C9 wz_W9k rfl (lw_in_8 (p := 136) rfl) (ks := [0, 38, 0, 136, 0, 0, 0, 139, 0, 0, 0, 136, 0, 0, 47, 0, 137, 0, 0, 136, 0, 0, 44, 0, 0, 43, 0, 0]) (by decide +kernel)
set_option maxRecDepth 1000000 in
theorem mk_292 : ab_MK cm_ms mr_292 := wz_MK wz_C9 wz_W9k rfl (lw_in_8 (p := 144) rfl) (ks := [0, 38, 0, 68, 0, 0, 0, 39, 0, 0, 140, 0, 0, 0, 0, 39, 0, 0, 44, 0, 0, 141, 0, 0, 140, 0, 0, 43, 0, 0, 140, 0, 0, 48, 0, 140, 0, 0, 0]) (by decide +kernel)
set_option maxRecDepth 1000000 in
theorem mk_293 : ab_MK cm_ms mr_293 := wz_MK wz_C9 wz_W9k rfl (lw_in_8 (p := 148) rfl) (ks := [0, 38, 0, 0, 0, 140, 0, 0, 34, 0, 0, 0, 139, 0, 0, 141, 0, 0, 0, 0, 44, 0, 0, 43, 0, 0, 47, 0, 0]) (by decide +kernel)
set_option maxRecDepth 1000000 in
theorem mk_294 : ab_MK cm_ms mr_294 := wz_MK wz_C9 wz_W9k rfl (lw_in_8 (p := 152) rfl) (ks := [0, 0, 0, 0, 0, 68, 0, 0, 0, 42, 0, 0, 0, 0, 44, 0, 0, 0, 64, 0, 0, 0, 0, 0, 0, 0, 1, 0, 0, 0, 0, 0, 0, 0, 1, 0, 0]) (by decide +kernel)
set_option maxRecDepth 1000000 in
theorem mk_295 : ab_MK cm_ms mr_295 := wz_MK wz_C9 wz_W9k rfl (lw_in_8 (p := 156) rfl) (ks := [0, 0, 1, 0, 0, 0, 0, 3, 0, 0, 68, 0, 0, 0, 0, 34, 0, 0, 0, 0, 0, 0, 0, 0, 34, 0, 0, 42, 0, 0, 0, 0, 0, 0, 0, 44, 0, 0, 0, 0, 0, 0, 0, 136, 0, 0, 0, 0, 0, 140, 0, 0, 0]) (by decide +kernel)
set_option maxRecDepth 1000000 in
theorem mk_296 : ab_MK cm_ms mr_296 := wz_MK wz_C9 wz_W9k rfl (lw_in_8 (p := 160) rfl) (ks := [0, 0, 1, 0, 66, 0]) (by decide +kernel)
