/-! methods 0 to 23 -/
theorem zd_0 : z_db (zm_b zm_0) (zm_c zm_0) = true := by decide +kernel
theorem zx_0 : z_xb z_Ms z_kl zm_0 ((zm_c zm_0).zip [0, 0, 0, 0, 2102, 0, 0, 0]) = true := by decide +kernel
theorem zo_0 : zMok z_Ms zm_0 := z_mok (by decide +kernel) (z_win 3 184 (w := .code (zm_y zm_0) (zm_b zm_0) (zm_L zm_0) (zm_r zm_0)) (by decide +kernel) rfl) (q := 1014) (by decide +kernel) (by decide +kernel) (by decide +kernel) (z_eok z_kl_ok rfl zd_0 zx_0)
theorem zd_1 : z_db (zm_b zm_1) (zm_c zm_1) = true := by decide +kernel
theorem zx_1 : z_xb z_Ms z_kl zm_1 ((zm_c zm_1).zip [0, 0, 0, 0, 0, 0, 0, 0, 0]) = true := by decide +kernel
theorem zo_1 : zMok z_Ms zm_1 := z_mok (by decide +kernel) (z_win 4 40 (w := .code (zm_y zm_1) (zm_b zm_1) (zm_L zm_1) (zm_r zm_1)) (by decide +kernel) rfl) (q := 1001) (by decide +kernel) (by decide +kernel) (by decide +kernel) (z_eok z_kl_ok rfl zd_1 zx_1)
theorem zd_2 : z_db (zm_b zm_2) (zm_c zm_2) = true := by decide +kernel
theorem zx_2 : z_xb z_Ms z_kl zm_2 ((zm_c zm_2).zip [0, 0, 0, 0, 1175, 0, 0, 0, 0, 0, 0]) = true := by decide +kernel
theorem zo_2 : zMok z_Ms zm_2 := z_mok (by decide +kernel) (z_win 4 49 (w := .code (zm_y zm_2) (zm_b zm_2) (zm_L zm_2) (zm_r zm_2)) (by decide +kernel) rfl) (q := 1009) (by decide +kernel) (by decide +kernel) (by decide +kernel) (z_eok z_kl_ok rfl zd_2 zx_2)
theorem zd_3 : z_db (zm_b zm_3) (zm_c zm_3) = true := by decide +kernel
theorem zx_3 : z_xb z_Ms z_kl zm_3 ((zm_c zm_3).zip [0, 0, 4058, 0, 0, 0, 0, 0, 0]) = true := by decide +kernel
theorem zo_3 : zMok z_Ms zm_3 := z_mok (by decide +kernel) (z_win 4 57 (w := .code (zm_y zm_3) (zm_b zm_3) (zm_L zm_3) (zm_r zm_3)) (by decide +kernel) rfl) (q := 1009) (by decide +kernel) (by decide +kernel) (by decide +kernel) (z_eok z_kl_ok rfl zd_3 zx_3)
theorem zd_4 : z_db (zm_b zm_4) (zm_c zm_4) = true := by decide +kernel
theorem zx_4 : z_xb z_Ms z_kl zm_4 ((zm_c zm_4).zip [0, 0, 4137, 0, 0, 4138, 0, 0]) = true := by decide +kernel
theorem zo_4 : zMok z_Ms zm_4 := z_mok (by decide +kernel) (z_win 4 136 (w := .code (zm_y zm_4) (zm_b zm_4) (zm_L zm_4) (zm_r zm_4)) (by decide +kernel) rfl) (q := 1014) (by decide +kernel) (by decide +kernel) (by decide +kernel) (z_eok z_kl_ok rfl zd_4 zx_4)
theorem zd_5 : z_db (zm_b zm_5) (zm_c zm_5) = true := by decide +kernel
theorem zx_5 : z_xb z_Ms z_kl zm_5 ((zm_c zm_5).zip [0, 0, 3190, 0, 0, 0]) = true := by decide +kernel
theorem zo_5 : zMok z_Ms zm_5 := z_mok (by decide +kernel) (z_win 3 189 (w := .code (zm_y zm_5) (zm_b zm_5) (zm_L zm_5) (zm_r zm_5)) (by decide +kernel) rfl) (q := 1014) (by decide +kernel) (by decide +kernel) (by decide +kernel) (z_eok z_kl_ok rfl zd_5 zx_5)
theorem zd_6 : z_db (zm_b zm_6) (zm_c zm_6) = true := by decide +kernel
theorem zx_6 : z_xb z_Ms z_kl zm_6 ((zm_c zm_6).zip [0, 0, 3190, 0, 0, 0]) = true := by decide +kernel
theorem zo_6 : zMok z_Ms zm_6 := z_mok (by decide +kernel) (z_win 3 194 (w := .code (zm_y zm_6) (zm_b zm_6) (zm_L zm_6) (zm_r zm_6)) (by decide +kernel) rfl) (q := 1014) (by decide +kernel) (by decide +kernel) (by decide +kernel) (z_eok z_kl_ok rfl zd_6 zx_6)
theorem zd_7 : z_db (zm_b zm_7) (zm_c zm_7) = true := by decide +kernel
theorem zx_7 : z_xb z_Ms z_kl zm_7 ((zm_c zm_7).zip [0, 6053, 0, 0, 0, 0, 0, 0, 0]) = true := by decide +kernel
theorem zo_7 : zMok z_Ms zm_7 := z_mok (by decide +kernel) (z_win 7 216 (w := .code (zm_y zm_7) (zm_b zm_7) (zm_L zm_7) (zm_r zm_7)) (by decide +kernel) rfl) (q := 1016) (by decide +kernel) (by decide +kernel) (by decide +kernel) (z_eok z_kl_ok rfl zd_7 zx_7)
theorem zd_8 : z_db (zm_b zm_8) (zm_c zm_8) = true := by decide +kernel
theorem zx_8 : z_xb z_Ms z_kl zm_8 ((zm_c zm_8).zip [0, 6053, 0, 0, 0, 0, 0, 0, 0, 0]) = true := by decide +kernel
theorem zo_8 : zMok z_Ms zm_8 := z_mok (by decide +kernel) (z_win 8 54 (w := .code (zm_y zm_8) (zm_b zm_8) (zm_L zm_8) (zm_r zm_8)) (by decide +kernel) rfl) (q := 1016) (by decide +kernel) (by decide +kernel) (by decide +kernel) (z_eok z_kl_ok rfl zd_8 zx_8)
theorem zd_9 : z_db (zm_b zm_9) (zm_c zm_9) = true := by decide +kernel
theorem zx_9 : z_xb z_Ms z_kl zm_9 ((zm_c zm_9).zip [0, 0, 0, 0, 1175, 0, 0, 0, 0, 0, 0]) = true := by decide +kernel
theorem zo_9 : zMok z_Ms zm_9 := z_mok (by decide +kernel) (z_win 4 44 (w := .code (zm_y zm_9) (zm_b zm_9) (zm_L zm_9) (zm_r zm_9)) (by decide +kernel) rfl) (q := 1009) (by decide +kernel) (by decide +kernel) (by decide +kernel) (z_eok z_kl_ok rfl zd_9 zx_9)
theorem zd_10 : z_db (zm_b zm_10) (zm_c zm_10) = true := by decide +kernel
theorem zx_10 : z_xb z_Ms z_kl zm_10 ((zm_c zm_10).zip [0, 0, 0, 4132, 0, 0, 0, 0, 4132, 0, 0, 1175, 0, 0, 0, 0, 0, 0, 4133, 0, 0, 0, 1175, 0, 0, 0, 0, 0, 0, 4133, 0, 0, 0, 1175, 0, 0, 0, 0, 1175, 0, 0, 0, 0, 0, 0, 0, 0, 0, 1175, 0, 0, 0, 0, 0, 0, 1175, 0, 0, 0, 0, 0, 0, 0, 0, 0, 0, 1175, 0, 0, 0, 0, 0, 0, 0, 1175, 0, 0, 1175, 0, 0, 0, 0, 0, 0, 0, 0, 0, 0, 0, 0, 1175, 0, 0, 0, 0, 0, 2122, 0, 0, 0, 0, 0, 0, 0, 0, 1175, 0, 0, 0, 0, 2126, 0, 0, 0, 1175, 0, 0, 0, 0, 2126, 0, 0, 0, 0]) = true := by decide +kernel
theorem zo_10 : zMok z_Ms zm_10 := z_mok (by decide +kernel) (z_win 4 131 (w := .code (zm_y zm_10) (zm_b zm_10) (zm_L zm_10) (zm_r zm_10)) (by decide +kernel) rfl) (q := 1009) (by decide +kernel) (by decide +kernel) (by decide +kernel) (z_eok z_kl_ok rfl zd_10 zx_10)
theorem zd_11 : z_db (zm_b zm_11) (zm_c zm_11) = true := by decide +kernel
theorem zx_11 : z_xb z_Ms z_kl zm_11 ((zm_c zm_11).zip [0, 0, 7213, 0, 0, 0, 7213, 0, 0, 0, 0, 8051, 0, 0, 0, 8051, 0, 0, 0, 0, 0, 0, 6053, 0, 0, 0, 0, 0, 0, 0, 0, 6053, 0, 0, 0, 0, 0, 0, 6022, 0, 6045, 0, 0, 0, 0, 0, 0, 6053, 0, 0, 0, 0, 0, 0, 0]) = true := by decide +kernel
theorem zo_11 : zMok z_Ms zm_11 := z_mok (by decide +kernel) (z_win 8 50 (w := .code (zm_y zm_11) (zm_b zm_11) (zm_L zm_11) (zm_r zm_11)) (by decide +kernel) rfl) (q := 1016) (by decide +kernel) (by decide +kernel) (by decide +kernel) (z_eok z_kl_ok rfl zd_11 zx_11)
theorem zd_12 : z_db (zm_b zm_12) (zm_c zm_12) = true := by decide +kernel
theorem zx_12 : z_xb z_Ms z_kl zm_12 ((zm_c zm_12).zip [0, 0, 0, 0, 0, 0, 6053, 0, 0, 6059, 0, 0, 0, 0, 0, 0]) = true := by decide +kernel
theorem zo_12 : zMok z_Ms zm_12 := z_mok (by decide +kernel) (z_win 8 85 (w := .code (zm_y zm_12) (zm_b zm_12) (zm_L zm_12) (zm_r zm_12)) (by decide +kernel) rfl) (q := 1016) (by decide +kernel) (by decide +kernel) (by decide +kernel) (z_eok z_kl_ok rfl zd_12 zx_12)
theorem zd_13 : z_db (zm_b zm_13) (zm_c zm_13) = true := by decide +kernel
theorem zx_13 : z_xb z_Ms z_kl zm_13 ((zm_c zm_13).zip [0, 6053, 0, 0, 0, 6053, 0, 0, 0, 0, 0, 0, 0, 0, 0, 6053, 0, 0, 0, 0, 0, 6021, 0, 6045, 0, 0, 0, 0, 0, 0, 8047, 0, 0]) = true := by decide +kernel
theorem zo_13 : zMok z_Ms zm_13 := z_mok (by decide +kernel) (z_win 8 46 (w := .code (zm_y zm_13) (zm_b zm_13) (zm_L zm_13) (zm_r zm_13)) (by decide +kernel) rfl) (q := 1016) (by decide +kernel) (by decide +kernel) (by decide +kernel) (z_eok z_kl_ok rfl zd_13 zx_13)
theorem zd_14 : z_db (zm_b zm_14) (zm_c zm_14) = true := by decide +kernel
theorem zx_14 : z_xb z_Ms z_kl zm_14 ((zm_c zm_14).zip [0, 9034, 0, 0, 1046, 0, 0]) = true := by decide +kernel
theorem zo_14 : zMok z_Ms zm_14 := z_mok (by decide +kernel) (z_win 1 45 (w := .code (zm_y zm_14) (zm_b zm_14) (zm_L zm_14) (zm_r zm_14)) (by decide +kernel) rfl) (q := 1004) (by decide +kernel) (by decide +kernel) (by decide +kernel) (z_eok z_kl_ok rfl zd_14 zx_14)
theorem zd_15 : z_db (zm_b zm_15) (zm_c zm_15) = true := by decide +kernel
theorem zx_15 : z_xb z_Ms z_kl zm_15 ((zm_c zm_15).zip [1050, 0, 0, 9035, 0, 0]) = true := by decide +kernel
theorem zo_15 : zMok z_Ms zm_15 := z_mok (by decide +kernel) (z_win 1 49 (w := .code (zm_y zm_15) (zm_b zm_15) (zm_L zm_15) (zm_r zm_15)) (by decide +kernel) rfl) (q := 1004) (by decide +kernel) (by decide +kernel) (by decide +kernel) (z_eok z_kl_ok rfl zd_15 zx_15)
theorem zd_16 : z_db (zm_b zm_16) (zm_c zm_16) = true := by decide +kernel
theorem zx_16 : z_xb z_Ms z_kl zm_16 ((zm_c zm_16).zip [0, 1056, 0, 0, 9034, 0, 1060, 0]) = true := by decide +kernel
theorem zo_16 : zMok z_Ms zm_16 := z_mok (by decide +kernel) (z_win 1 55 (w := .code (zm_y zm_16) (zm_b zm_16) (zm_L zm_16) (zm_r zm_16)) (by decide +kernel) rfl) (q := 1004) (by decide +kernel) (by decide +kernel) (by decide +kernel) (z_eok z_kl_ok rfl zd_16 zx_16)
theorem zd_17 : z_db (zm_b zm_17) (zm_c zm_17) = true := by decide +kernel
theorem zx_17 : z_xb z_Ms z_kl zm_17 ((zm_c zm_17).zip [1050, 0, 0, 9035, 0, 0, 0, 0]) = true := by decide +kernel
theorem zo_17 : zMok z_Ms zm_17 := z_mok (by decide +kernel) (z_win 1 59 (w := .code (zm_y zm_17) (zm_b zm_17) (zm_L zm_17) (zm_r zm_17)) (by decide +kernel) rfl) (q := 1004) (by decide +kernel) (by decide +kernel) (by decide +kernel) (z_eok z_kl_ok rfl zd_17 zx_17)
theorem zd_18 : z_db (zm_b zm_18) (zm_c zm_18) = true := by decide +kernel
theorem zx_18 : z_xb z_Ms z_kl zm_18 ((zm_c zm_18).zip [0, 0, 0, 1063, 0, 0, 0, 0, 0, 0, 0]) = true := by decide +kernel
theorem zo_18 : zMok z_Ms zm_18 := z_mok (by decide +kernel) (z_win 1 62 (w := .code (zm_y zm_18) (zm_b zm_18) (zm_L zm_18) (zm_r zm_18)) (by decide +kernel) rfl) (q := 1005) (by decide +kernel) (by decide +kernel) (by decide +kernel) (z_eok z_kl_ok rfl zd_18 zx_18)
theorem zd_19 : z_db (zm_b zm_19) (zm_c zm_19) = true := by decide +kernel
theorem zx_19 : z_xb z_Ms z_kl zm_19 ((zm_c zm_19).zip [0, 0, 1066, 1068, 0, 0]) = true := by decide +kernel
theorem zo_19 : zMok z_Ms zm_19 := z_mok (by decide +kernel) (z_win 1 65 (w := .code (zm_y zm_19) (zm_b zm_19) (zm_L zm_19) (zm_r zm_19)) (by decide +kernel) rfl) (q := 1004) (by decide +kernel) (by decide +kernel) (by decide +kernel) (z_eok z_kl_ok rfl zd_19 zx_19)
theorem zd_20 : z_db (zm_b zm_20) (zm_c zm_20) = true := by decide +kernel
theorem zx_20 : z_xb z_Ms z_kl zm_20 ((zm_c zm_20).zip [0, 0, 0, 0, 0, 0, 0]) = true := by decide +kernel
theorem zo_20 : zMok z_Ms zm_20 := z_mok (by decide +kernel) (z_win 1 70 (w := .code (zm_y zm_20) (zm_b zm_20) (zm_L zm_20) (zm_r zm_20)) (by decide +kernel) rfl) (q := 1006) (by decide +kernel) (by decide +kernel) (by decide +kernel) (z_eok z_kl_ok rfl zd_20 zx_20)
theorem zd_21 : z_db (zm_b zm_21) (zm_c zm_21) = true := by decide +kernel
theorem zx_21 : z_xb z_Ms z_kl zm_21 ((zm_c zm_21).zip [0, 0, 0, 0, 0, 0, 0, 0, 0, 0]) = true := by decide +kernel
theorem zo_21 : zMok z_Ms zm_21 := z_mok (by decide +kernel) (z_win 6 5 (w := .code (zm_y zm_21) (zm_b zm_21) (zm_L zm_21) (zm_r zm_21)) (by decide +kernel) rfl) (q := 1016) (by decide +kernel) (by decide +kernel) (by decide +kernel) (z_eok z_kl_ok rfl zd_21 zx_21)
theorem zd_22 : z_db (zm_b zm_22) (zm_c zm_22) = true := by decide +kernel
theorem zx_22 : z_xb z_Ms z_kl zm_22 ((zm_c zm_22).zip [0, 0, 0, 0, 1175, 0, 0, 0, 1175, 0, 0, 0, 0, 0, 0, 0, 0, 0, 0, 0, 1175, 0, 0, 0, 0, 0, 0, 1175, 0, 0, 0, 0, 0, 0, 1175, 0, 0, 0, 0, 0, 0, 0, 0, 1175, 0, 0, 0, 0]) = true := by decide +kernel
theorem zo_22 : zMok z_Ms zm_22 := z_mok (by decide +kernel) (z_win 1 174 (w := .code (zm_y zm_22) (zm_b zm_22) (zm_L zm_22) (zm_r zm_22)) (by decide +kernel) rfl) (q := 1009) (by decide +kernel) (by decide +kernel) (by decide +kernel) (z_eok z_kl_ok rfl zd_22 zx_22)
theorem zd_23 : z_db (zm_b zm_23) (zm_c zm_23) = true := by decide +kernel
theorem zx_23 : z_xb z_Ms z_kl zm_23 ((zm_c zm_23).zip [0, 1170, 0, 0, 1179, 1175, 0, 0, 1171, 0]) = true := by decide +kernel
theorem zo_23 : zMok z_Ms zm_23 := z_mok (by decide +kernel) (z_win 1 169 (w := .code (zm_y zm_23) (zm_b zm_23) (zm_L zm_23) (zm_r zm_23)) (by decide +kernel) rfl) (q := 1009) (by decide +kernel) (by decide +kernel) (by decide +kernel) (z_eok z_kl_ok rfl zd_23 zx_23)
