/-! methods 0 to 23 -/
theorem zd_0 : z_db (zm_b zm_0) (zm_c zm_0) = true := by decide +kernel
theorem zx_0 : z_xb z_Ms z_kl zm_0 ((zm_c zm_0).zip [0, 1026, 0, 0, 1120, 2163, 0, 1029, 0, 0, 2164, 0, 1158, 0, 1160, 2165, 0, 1190, 0, 0, 2166, 0, 1203, 0, 0, 2167, 0, 1221, 0, 0, 2168, 0, 2012, 0, 0, 2169, 0, 0, 2046, 2170, 0, 0, 0, 0, 2170, 0, 0, 0, 2170, 0, 2046, 0, 2047, 0, 0, 0, 0, 0, 2045, 2171, 0, 0, 1179, 2172, 0, 2048, 0, 0, 2175, 0, 2048, 0, 0, 2176, 0]) = true := by decide +kernel
theorem zo_0 : zMok z_Ms zm_0 := z_mok (by decide +kernel) (z_win 1 25 (w := .code (zm_y zm_0) (zm_b zm_0) (zm_L zm_0) (zm_r zm_0)) (by decide +kernel) rfl) (q := 1001) (by decide +kernel) (by decide +kernel) (by decide +kernel) (z_eok z_kl_ok rfl zd_0 zx_0)
theorem zd_1 : z_db (zm_b zm_1) (zm_c zm_1) = true := by decide +kernel
theorem zx_1 : z_xb z_Ms z_kl zm_1 ((zm_c zm_1).zip [0, 0, 0, 2175, 2110, 0, 0, 2175, 2106, 0, 0, 2175, 2116, 0, 0, 2165, 3212, 4127, 0, 0, 2165, 3212, 5217, 0, 0, 2165, 5221, 0, 0, 2165, 5225, 0, 0, 2169, 2025, 0, 0, 2169, 2027, 0, 0, 2173, 0, 0, 2175, 2119, 0, 0, 2174, 0, 0, 0]) = true := by decide +kernel
theorem zo_1 : zMok z_Ms zm_1 := z_mok (by decide +kernel) (z_win 5 216 (w := .code (zm_y zm_1) (zm_b zm_1) (zm_L zm_1) (zm_r zm_1)) (by decide +kernel) rfl) (q := 1001) (by decide +kernel) (by decide +kernel) (by decide +kernel) (z_eok z_kl_ok rfl zd_1 zx_1)
theorem zd_2 : z_db (zm_b zm_2) (zm_c zm_2) = true := by decide +kernel
theorem zx_2 : z_xb z_Ms z_kl zm_2 ((zm_c zm_2).zip [0, 0, 0, 0, 0, 0, 0, 0, 2169, 0, 2175, 0, 0, 5190, 0]) = true := by decide +kernel
theorem zo_2 : zMok z_Ms zm_2 := z_mok (by decide +kernel) (z_win 5 189 (w := .code (zm_y zm_2) (zm_b zm_2) (zm_L zm_2) (zm_r zm_2)) (by decide +kernel) rfl) (q := 1001) (by decide +kernel) (by decide +kernel) (by decide +kernel) (z_eok z_kl_ok rfl zd_2 zx_2)
theorem zd_3 : z_db (zm_b zm_3) (zm_c zm_3) = true := by decide +kernel
theorem zx_3 : z_xb z_Ms z_kl zm_3 ((zm_c zm_3).zip [0, 0, 0, 0, 2170, 0, 0, 0, 0, 2171, 0, 0, 0, 2171, 0, 0, 0, 0, 0, 0, 2165, 0, 2170, 0, 0, 5209, 0, 2165, 3212, 4127, 0]) = true := by decide +kernel
theorem zo_3 : zMok z_Ms zm_3 := z_mok (by decide +kernel) (z_win 5 208 (w := .code (zm_y zm_3) (zm_b zm_3) (zm_L zm_3) (zm_r zm_3)) (by decide +kernel) rfl) (q := 1001) (by decide +kernel) (by decide +kernel) (by decide +kernel) (z_eok z_kl_ok rfl zd_3 zx_3)
theorem zd_4 : z_db (zm_b zm_4) (zm_c zm_4) = true := by decide +kernel
theorem zx_4 : z_xb z_Ms z_kl zm_4 ((zm_c zm_4).zip [0, 2175, 0, 3199, 0, 0, 5012, 0, 0, 0, 0, 2168, 0, 2175, 0, 0, 5015, 0]) = true := by decide +kernel
theorem zo_4 : zMok z_Ms zm_4 := z_mok (by decide +kernel) (z_win 5 11 (w := .code (zm_y zm_4) (zm_b zm_4) (zm_L zm_4) (zm_r zm_4)) (by decide +kernel) rfl) (q := 1001) (by decide +kernel) (by decide +kernel) (by decide +kernel) (z_eok z_kl_ok rfl zd_4 zx_4)
theorem zd_5 : z_db (zm_b zm_5) (zm_c zm_5) = true := by decide +kernel
theorem zx_5 : z_xb z_Ms z_kl zm_5 ((zm_c zm_5).zip [0, 4038, 0, 0, 5012, 0, 0, 0, 0, 0, 0, 0, 0, 0, 0, 0, 2175, 2110, 0, 0, 2175, 0, 3203, 0, 0, 0, 2168, 0, 2175, 0, 0, 5025, 0, 0, 0, 0, 0, 0, 0, 0, 0, 0, 0, 0, 0, 0, 0]) = true := by decide +kernel
theorem zo_5 : zMok z_Ms zm_5 := z_mok (by decide +kernel) (z_win 5 32 (w := .code (zm_y zm_5) (zm_b zm_5) (zm_L zm_5) (zm_r zm_5)) (by decide +kernel) rfl) (q := 1001) (by decide +kernel) (by decide +kernel) (by decide +kernel) (z_eok z_kl_ok rfl zd_5 zx_5)
theorem zd_6 : z_db (zm_b zm_6) (zm_c zm_6) = true := by decide +kernel
theorem zx_6 : z_xb z_Ms z_kl zm_6 ((zm_c zm_6).zip [0, 0, 2174, 0, 5012, 0, 3185, 0, 0, 2168, 0, 2175, 0, 5046, 3185, 0, 0, 0, 0, 0, 2175, 2110, 0, 0, 0, 0, 0, 2175, 2110, 0, 0, 2175, 0, 3203, 0, 0, 2175, 0, 3203, 0, 0, 0, 2168, 0, 0, 5069, 0, 2168, 0, 0, 5069, 0, 0, 0, 0, 0, 0, 0, 0, 0, 0, 5061, 0, 0, 0, 0, 0, 0]) = true := by decide +kernel
theorem zo_6 : zMok z_Ms zm_6 := z_mok (by decide +kernel) (z_win 5 68 (w := .code (zm_y zm_6) (zm_b zm_6) (zm_L zm_6) (zm_r zm_6)) (by decide +kernel) rfl) (q := 1001) (by decide +kernel) (by decide +kernel) (by decide +kernel) (z_eok z_kl_ok rfl zd_6 zx_6)
theorem zd_7 : z_db (zm_b zm_7) (zm_c zm_7) = true := by decide +kernel
theorem zx_7 : z_xb z_Ms z_kl zm_7 ((zm_c zm_7).zip [0, 2175, 0, 3181, 0, 3185, 0, 0, 0, 0, 2175, 0, 3186, 0, 0, 0, 0, 0, 2175, 0, 3191, 0, 3185, 0]) = true := by decide +kernel
theorem zo_7 : zMok z_Ms zm_7 := z_mok (by decide +kernel) (z_win 3 180 (w := .code (zm_y zm_7) (zm_b zm_7) (zm_L zm_7) (zm_r zm_7)) (by decide +kernel) rfl) (q := 1001) (by decide +kernel) (by decide +kernel) (by decide +kernel) (z_eok z_kl_ok rfl zd_7 zx_7)
theorem zd_8 : z_db (zm_b zm_8) (zm_c zm_8) = true := by decide +kernel
theorem zx_8 : z_xb z_Ms z_kl zm_8 ((zm_c zm_8).zip [0, 0, 0, 0, 2175, 0, 3181, 0, 0, 0, 0, 2175, 0, 0, 3208, 0]) = true := by decide +kernel
theorem zo_8 : zMok z_Ms zm_8 := z_mok (by decide +kernel) (z_win 3 227 (w := .code (zm_y zm_8) (zm_b zm_8) (zm_L zm_8) (zm_r zm_8)) (by decide +kernel) rfl) (q := 1001) (by decide +kernel) (by decide +kernel) (by decide +kernel) (z_eok z_kl_ok rfl zd_8 zx_8)
theorem zd_9 : z_db (zm_b zm_9) (zm_c zm_9) = true := by decide +kernel
theorem zx_9 : z_xb z_Ms z_kl zm_9 ((zm_c zm_9).zip [0, 4038, 0, 0, 2175, 0, 3181, 0, 0, 0, 0, 0, 0, 0, 0, 2165, 3212, 0, 0, 0, 4046, 0, 0, 0, 0, 4065, 0, 0, 0, 0, 0, 0, 2175, 0, 4054, 0, 0, 2165, 4091, 0, 0, 4119, 0, 0]) = true := by decide +kernel
theorem zo_9 : zMok z_Ms zm_9 := z_mok (by decide +kernel) (z_win 4 118 (w := .code (zm_y zm_9) (zm_b zm_9) (zm_L zm_9) (zm_r zm_9)) (by decide +kernel) rfl) (q := 1001) (by decide +kernel) (by decide +kernel) (by decide +kernel) (z_eok z_kl_ok rfl zd_9 zx_9)
theorem zd_10 : z_db (zm_b zm_10) (zm_c zm_10) = true := by decide +kernel
theorem zx_10 : z_xb z_Ms z_kl zm_10 ((zm_c zm_10).zip [0, 2166, 0, 2175, 0, 2165, 3212, 3236, 0, 2165, 4091, 0, 0, 0, 0, 0, 0, 0, 0, 0, 0, 0, 2166, 0, 2175, 0, 4078, 4107, 0, 0, 0, 0, 0, 0]) = true := by decide +kernel
theorem zo_10 : zMok z_Ms zm_10 := z_mok (by decide +kernel) (z_win 4 90 (w := .code (zm_y zm_10) (zm_b zm_10) (zm_L zm_10) (zm_r zm_10)) (by decide +kernel) rfl) (q := 1001) (by decide +kernel) (by decide +kernel) (by decide +kernel) (z_eok z_kl_ok rfl zd_10 zx_10)
theorem zd_11 : z_db (zm_b zm_11) (zm_c zm_11) = true := by decide +kernel
theorem zx_11 : z_xb z_Ms z_kl zm_11 ((zm_c zm_11).zip [0, 4038, 0, 0, 0, 0, 2166, 0, 2175, 0, 2165, 3212, 3236, 0, 2166, 0, 2175, 0, 4078, 0]) = true := by decide +kernel
theorem zo_11 : zMok z_Ms zm_11 := z_mok (by decide +kernel) (z_win 4 77 (w := .code (zm_y zm_11) (zm_b zm_11) (zm_L zm_11) (zm_r zm_11)) (by decide +kernel) rfl) (q := 1001) (by decide +kernel) (by decide +kernel) (by decide +kernel) (z_eok z_kl_ok rfl zd_11 zx_11)
theorem zd_12 : z_db (zm_b zm_12) (zm_c zm_12) = true := by decide +kernel
theorem zx_12 : z_xb z_Ms z_kl zm_12 ((zm_c zm_12).zip [0, 0, 0, 0, 2173, 0, 0, 0, 0, 0, 2173, 0, 0]) = true := by decide +kernel
theorem zo_12 : zMok z_Ms zm_12 := z_mok (by decide +kernel) (z_win 2 217 (w := .code (zm_y zm_12) (zm_b zm_12) (zm_L zm_12) (zm_r zm_12)) (by decide +kernel) rfl) (q := 1001) (by decide +kernel) (by decide +kernel) (by decide +kernel) (z_eok z_kl_ok rfl zd_12 zx_12)
theorem zd_13 : z_db (zm_b zm_13) (zm_c zm_13) = true := by decide +kernel
theorem zx_13 : z_xb z_Ms z_kl zm_13 ((zm_c zm_13).zip [0, 0, 0, 0, 0, 0, 2175, 2106, 0, 3185, 0, 0, 0, 0, 0, 0, 0, 0, 0, 2175, 2106, 0, 0, 0, 0, 0, 2175, 2106, 0, 0, 0, 0, 0, 2175, 0, 0, 0, 0, 5097, 0, 0, 0, 0, 0, 0, 0, 0, 0, 0, 0, 0, 0, 2175, 0, 0, 5103, 0, 2175, 0, 0, 5103, 5104, 0, 0, 0, 0, 0, 0, 0]) = true := by decide +kernel
theorem zo_13 : zMok z_Ms zm_13 := z_mok (by decide +kernel) (z_win 5 96 (w := .code (zm_y zm_13) (zm_b zm_13) (zm_L zm_13) (zm_r zm_13)) (by decide +kernel) rfl) (q := 1001) (by decide +kernel) (by decide +kernel) (by decide +kernel) (z_eok z_kl_ok rfl zd_13 zx_13)
theorem zd_14 : z_db (zm_b zm_14) (zm_c zm_14) = true := by decide +kernel
theorem zx_14 : z_xb z_Ms z_kl zm_14 ((zm_c zm_14).zip [0, 0, 0, 2164, 1132, 0, 0, 0, 0, 0, 2164, 1134, 0, 0, 0]) = true := by decide +kernel
theorem zo_14 : zMok z_Ms zm_14 := z_mok (by decide +kernel) (z_win 3 176 (w := .code (zm_y zm_14) (zm_b zm_14) (zm_L zm_14) (zm_r zm_14)) (by decide +kernel) rfl) (q := 1001) (by decide +kernel) (by decide +kernel) (by decide +kernel) (z_eok z_kl_ok rfl zd_14 zx_14)
theorem zd_15 : z_db (zm_b zm_15) (zm_c zm_15) = true := by decide +kernel
theorem zx_15 : z_xb z_Ms z_kl zm_15 ((zm_c zm_15).zip [0, 2175, 0, 3199, 0, 0, 5012, 0, 0, 0, 0, 0, 0, 0, 0, 0, 2175, 2110, 0, 0, 2175, 0, 0, 4238, 0, 0, 2168, 0, 2175, 0, 0, 0, 5002, 0, 0, 0, 0, 0, 0, 0, 0, 0, 0, 0]) = true := by decide +kernel
theorem zo_15 : zMok z_Ms zm_15 := z_mok (by decide +kernel) (z_win 5 138 (w := .code (zm_y zm_15) (zm_b zm_15) (zm_L zm_15) (zm_r zm_15)) (by decide +kernel) rfl) (q := 1001) (by decide +kernel) (by decide +kernel) (by decide +kernel) (z_eok z_kl_ok rfl zd_15 zx_15)
theorem zd_16 : z_db (zm_b zm_16) (zm_c zm_16) = true := by decide +kernel
theorem zx_16 : z_xb z_Ms z_kl zm_16 ((zm_c zm_16).zip [0, 2173, 0, 0, 0, 0, 0, 0, 2210, 0, 0, 2210, 0, 0, 2210, 0, 0, 2210, 0, 0, 2210, 0, 2173, 0]) = true := by decide +kernel
theorem zo_16 : zMok z_Ms zm_16 := z_mok (by decide +kernel) (z_win 2 209 (w := .code (zm_y zm_16) (zm_b zm_16) (zm_L zm_16) (zm_r zm_16)) (by decide +kernel) rfl) (q := 1001) (by decide +kernel) (by decide +kernel) (by decide +kernel) (z_eok z_kl_ok rfl zd_16 zx_16)
theorem zd_17 : z_db (zm_b zm_17) (zm_c zm_17) = true := by decide +kernel
theorem zx_17 : z_xb z_Ms z_kl zm_17 ((zm_c zm_17).zip [0, 2169, 0, 2175, 0, 5176, 0]) = true := by decide +kernel
theorem zo_17 : zMok z_Ms zm_17 := z_mok (by decide +kernel) (z_win 5 175 (w := .code (zm_y zm_17) (zm_b zm_17) (zm_L zm_17) (zm_r zm_17)) (by decide +kernel) rfl) (q := 1001) (by decide +kernel) (by decide +kernel) (by decide +kernel) (z_eok z_kl_ok rfl zd_17 zx_17)
theorem zd_18 : z_db (zm_b zm_18) (zm_c zm_18) = true := by decide +kernel
theorem zx_18 : z_xb z_Ms z_kl zm_18 ((zm_c zm_18).zip [0, 2175, 0, 3199, 0, 0, 2165, 3212, 0, 3220, 0, 0, 0, 0, 2175, 0, 3203, 0, 0, 2165, 3212, 0, 4046, 0, 0, 2165, 4091, 0, 0, 4107, 0, 0, 0, 0, 0, 0, 0, 0]) = true := by decide +kernel
theorem zo_18 : zMok z_Ms zm_18 := z_mok (by decide +kernel) (z_win 4 114 (w := .code (zm_y zm_18) (zm_b zm_18) (zm_L zm_18) (zm_r zm_18)) (by decide +kernel) rfl) (q := 1001) (by decide +kernel) (by decide +kernel) (by decide +kernel) (z_eok z_kl_ok rfl zd_18 zx_18)
theorem zd_19 : z_db (zm_b zm_19) (zm_c zm_19) = true := by decide +kernel
theorem zx_19 : z_xb z_Ms z_kl zm_19 ((zm_c zm_19).zip [0, 4038, 0, 0, 2169, 0, 0, 0, 5147, 0, 0, 0]) = true := by decide +kernel
theorem zo_19 : zMok z_Ms zm_19 := z_mok (by decide +kernel) (z_win 5 154 (w := .code (zm_y zm_19) (zm_b zm_19) (zm_L zm_19) (zm_r zm_19)) (by decide +kernel) rfl) (q := 1001) (by decide +kernel) (by decide +kernel) (by decide +kernel) (z_eok z_kl_ok rfl zd_19 zx_19)
theorem zd_20 : z_db (zm_b zm_20) (zm_c zm_20) = true := by decide +kernel
theorem zx_20 : z_xb z_Ms z_kl zm_20 ((zm_c zm_20).zip [0, 2175, 0, 3232, 0, 0, 0, 0, 0, 0, 2175, 2090, 0, 0, 0, 0, 2175, 2094, 0, 0, 0, 0, 2175, 2098, 0, 0, 0, 0, 2166, 0, 2175, 0, 2165, 3212, 3236, 0, 2166, 0, 4030, 0, 0, 0]) = true := by decide +kernel
theorem zo_20 : zMok z_Ms zm_20 := z_mok (by decide +kernel) (z_win 3 231 (w := .code (zm_y zm_20) (zm_b zm_20) (zm_L zm_20) (zm_r zm_20)) (by decide +kernel) rfl) (q := 1001) (by decide +kernel) (by decide +kernel) (by decide +kernel) (z_eok z_kl_ok rfl zd_20 zx_20)
theorem zd_21 : z_db (zm_b zm_21) (zm_c zm_21) = true := by decide +kernel
theorem zx_21 : z_xb z_Ms z_kl zm_21 ((zm_c zm_21).zip [0, 4038, 0, 0, 0, 0, 0, 0, 0, 0, 0, 2167, 0, 2175, 0, 2165, 3212, 0, 0, 5126, 0]) = true := by decide +kernel
theorem zo_21 : zMok z_Ms zm_21 := z_mok (by decide +kernel) (z_win 5 125 (w := .code (zm_y zm_21) (zm_b zm_21) (zm_L zm_21) (zm_r zm_21)) (by decide +kernel) rfl) (q := 1001) (by decide +kernel) (by decide +kernel) (by decide +kernel) (z_eok z_kl_ok rfl zd_21 zx_21)
theorem zd_22 : z_db (zm_b zm_22) (zm_c zm_22) = true := by decide +kernel
theorem zx_22 : z_xb z_Ms z_kl zm_22 ((zm_c zm_22).zip [0, 2175, 0, 3181, 0, 0, 2175, 0, 3181, 0, 0, 0, 0, 0, 0, 0, 0, 0, 2175, 0, 0, 0, 5109, 0, 0, 0, 0, 0]) = true := by decide +kernel
theorem zo_22 : zMok z_Ms zm_22 := z_mok (by decide +kernel) (z_win 5 108 (w := .code (zm_y zm_22) (zm_b zm_22) (zm_L zm_22) (zm_r zm_22)) (by decide +kernel) rfl) (q := 1001) (by decide +kernel) (by decide +kernel) (by decide +kernel) (z_eok z_kl_ok rfl zd_22 zx_22)
theorem zd_23 : z_db (zm_b zm_23) (zm_c zm_23) = true := by decide +kernel
theorem zx_23 : z_xb z_Ms z_kl zm_23 ((zm_c zm_23).zip [0, 0, 0, 0, 2170, 0, 0, 0, 0, 2171, 0, 0, 0, 0, 0, 2170, 0, 0, 0, 2165, 3212, 5204, 0, 2171, 0, 0, 0, 0, 2170, 0, 0, 4127, 0]) = true := by decide +kernel
theorem zo_23 : zMok z_Ms zm_23 := z_mok (by decide +kernel) (z_win 5 203 (w := .code (zm_y zm_23) (zm_b zm_23) (zm_L zm_23) (zm_r zm_23)) (by decide +kernel) rfl) (q := 1001) (by decide +kernel) (by decide +kernel) (by decide +kernel) (z_eok z_kl_ok rfl zd_23 zx_23)
