/-! methods 24 to 47 -/
theorem zd_24 : z_db (zm_b zm_24) (zm_c zm_24) = true := by decide +kernel
theorem zx_24 : z_xb z_Ms z_kl zm_24 ((zm_c zm_24).zip [0, 0, 0, 0, 0, 0, 0, 0, 0, 0]) = true := by decide +kernel
theorem zo_24 : zMok z_Ms zm_24 := z_mok (by decide +kernel) (z_win 5 14 (w := .code (zm_y zm_24) (zm_b zm_24) (zm_L zm_24) (zm_r zm_24)) (by decide +kernel) rfl) (q := 1001) (by decide +kernel) (by decide +kernel) (by decide +kernel) (z_eok z_kl_ok rfl zd_24 zx_24)
theorem zd_25 : z_db (zm_b zm_25) (zm_c zm_25) = true := by decide +kernel
theorem zx_25 : z_xb z_Ms z_kl zm_25 ((zm_c zm_25).zip [0, 0, 0, 0, 0, 0, 0, 0, 0]) = true := by decide +kernel
theorem zo_25 : zMok z_Ms zm_25 := z_mok (by decide +kernel) (z_win 4 40 (w := .code (zm_y zm_25) (zm_b zm_25) (zm_L zm_25) (zm_r zm_25)) (by decide +kernel) rfl) (q := 1001) (by decide +kernel) (by decide +kernel) (by decide +kernel) (z_eok z_kl_ok rfl zd_25 zx_25)
theorem zd_26 : z_db (zm_b zm_26) (zm_c zm_26) = true := by decide +kernel
theorem zx_26 : z_xb z_Ms z_kl zm_26 ((zm_c zm_26).zip [0, 2169, 0, 5167, 0]) = true := by decide +kernel
theorem zo_26 : zMok z_Ms zm_26 := z_mok (by decide +kernel) (z_win 5 166 (w := .code (zm_y zm_26) (zm_b zm_26) (zm_L zm_26) (zm_r zm_26)) (by decide +kernel) rfl) (q := 1001) (by decide +kernel) (by decide +kernel) (by decide +kernel) (z_eok z_kl_ok rfl zd_26 zx_26)
theorem zd_27 : z_db (zm_b zm_27) (zm_c zm_27) = true := by decide +kernel
theorem zx_27 : z_xb z_Ms z_kl zm_27 ((zm_c zm_27).zip [0, 2172, 0, 0, 0, 0, 2172, 0, 0, 0, 0, 2172, 0, 0, 0, 0, 0, 2174, 0]) = true := by decide +kernel
theorem zo_27 : zMok z_Ms zm_27 := z_mok (by decide +kernel) (z_win 5 64 (w := .code (zm_y zm_27) (zm_b zm_27) (zm_L zm_27) (zm_r zm_27)) (by decide +kernel) rfl) (q := 1001) (by decide +kernel) (by decide +kernel) (by decide +kernel) (z_eok z_kl_ok rfl zd_27 zx_27)
theorem zd_28 : z_db (zm_b zm_28) (zm_c zm_28) = true := by decide +kernel
theorem zx_28 : z_xb z_Ms z_kl zm_28 ((zm_c zm_28).zip [0, 0, 0, 0, 2174, 0, 0, 0, 2172, 0, 0, 0, 2172, 0, 0, 0, 0, 0]) = true := by decide +kernel
theorem zo_28 : zMok z_Ms zm_28 := z_mok (by decide +kernel) (z_win 5 142 (w := .code (zm_y zm_28) (zm_b zm_28) (zm_L zm_28) (zm_r zm_28)) (by decide +kernel) rfl) (q := 1001) (by decide +kernel) (by decide +kernel) (by decide +kernel) (z_eok z_kl_ok rfl zd_28 zx_28)
theorem zd_29 : z_db (zm_b zm_29) (zm_c zm_29) = true := by decide +kernel
theorem zx_29 : z_xb z_Ms z_kl zm_29 ((zm_c zm_29).zip [0, 5090, 0, 0, 0, 0, 0, 0, 0, 0, 0, 0, 0, 0, 0, 0, 0, 0, 0, 0, 0, 0, 0, 0, 0, 0, 0, 0, 0, 0, 0, 0, 0, 0, 0, 0]) = true := by decide +kernel
theorem zo_29 : zMok z_Ms zm_29 := z_mok (by decide +kernel) (z_win 5 89 (w := .code (zm_y zm_29) (zm_b zm_29) (zm_L zm_29) (zm_r zm_29)) (by decide +kernel) rfl) (q := 1001) (by decide +kernel) (by decide +kernel) (by decide +kernel) (z_eok z_kl_ok rfl zd_29 zx_29)
theorem zd_30 : z_db (zm_b zm_30) (zm_c zm_30) = true := by decide +kernel
theorem zx_30 : z_xb z_Ms z_kl zm_30 ((zm_c zm_30).zip [0, 4038, 0, 0, 0, 0, 0, 0, 0, 0, 0, 2166, 0, 2175, 0, 2165, 3212, 3236, 0, 2166, 0, 2175, 0, 4078, 0, 0, 2166, 0, 2175, 0, 0, 4170, 0, 0, 0, 0, 0, 0, 0, 0, 0, 0, 0, 0, 0, 0, 0, 2166, 0, 4070, 0, 2166, 0, 4070, 0, 0]) = true := by decide +kernel
theorem zo_30 : zMok z_Ms zm_30 := z_mok (by decide +kernel) (z_win 4 169 (w := .code (zm_y zm_30) (zm_b zm_30) (zm_L zm_30) (zm_r zm_30)) (by decide +kernel) rfl) (q := 1001) (by decide +kernel) (by decide +kernel) (by decide +kernel) (z_eok z_kl_ok rfl zd_30 zx_30)
theorem zd_31 : z_db (zm_b zm_31) (zm_c zm_31) = true := by decide +kernel
theorem zx_31 : z_xb z_Ms z_kl zm_31 ((zm_c zm_31).zip [0, 2175, 0, 0, 4238, 0, 0, 0, 0, 0, 0, 3185, 0, 0, 2168, 0, 2175, 0, 0, 5074, 0, 2168, 1236, 0, 2168, 1234, 0, 5087, 0]) = true := by decide +kernel
theorem zo_31 : zMok z_Ms zm_31 := z_mok (by decide +kernel) (z_win 5 86 (w := .code (zm_y zm_31) (zm_b zm_31) (zm_L zm_31) (zm_r zm_31)) (by decide +kernel) rfl) (q := 1001) (by decide +kernel) (by decide +kernel) (by decide +kernel) (z_eok z_kl_ok rfl zd_31 zx_31)
theorem zd_32 : z_db (zm_b zm_32) (zm_c zm_32) = true := by decide +kernel
theorem zx_32 : z_xb z_Ms z_kl zm_32 ((zm_c zm_32).zip [0, 0, 0, 0, 0, 0, 0, 0, 0, 0, 0, 0, 0, 0, 0, 0, 0, 0, 0, 0, 0, 0, 0, 0, 2175, 2123, 0, 0, 0, 0, 0, 0, 0, 0, 0, 0, 0, 0, 5087, 0]) = true := by decide +kernel
theorem zo_32 : zMok z_Ms zm_32 := z_mok (by decide +kernel) (z_win 5 134 (w := .code (zm_y zm_32) (zm_b zm_32) (zm_L zm_32) (zm_r zm_32)) (by decide +kernel) rfl) (q := 1001) (by decide +kernel) (by decide +kernel) (by decide +kernel) (z_eok z_kl_ok rfl zd_32 zx_32)
theorem zd_33 : z_db (zm_b zm_33) (zm_c zm_33) = true := by decide +kernel
theorem zx_33 : z_xb z_Ms z_kl zm_33 ((zm_c zm_33).zip [0, 2175, 0, 0, 4238, 0, 0, 0, 0, 0, 0, 3185, 0, 0, 0, 0, 2168, 0, 2175, 0, 0, 0, 5002, 0, 0, 0, 0, 0, 2168, 0, 2175, 0, 0, 0, 5002, 0, 3185, 0]) = true := by decide +kernel
theorem zo_33 : zMok z_Ms zm_33 := z_mok (by decide +kernel) (z_win 4 237 (w := .code (zm_y zm_33) (zm_b zm_33) (zm_L zm_33) (zm_r zm_33)) (by decide +kernel) rfl) (q := 1001) (by decide +kernel) (by decide +kernel) (by decide +kernel) (z_eok z_kl_ok rfl zd_33 zx_33)
theorem zd_34 : z_db (zm_b zm_34) (zm_c zm_34) = true := by decide +kernel
theorem zx_34 : z_xb z_Ms z_kl zm_34 ((zm_c zm_34).zip [0, 2175, 0, 3199, 0, 0, 0, 0, 0, 0, 2175, 0, 3203, 0, 0, 2175, 0, 0, 3208, 0, 0, 2165, 3212, 0, 3216, 0, 0, 2165, 3212, 0, 3220, 0, 0, 0, 0, 0, 0, 0]) = true := by decide +kernel
theorem zo_34 : zMok z_Ms zm_34 := z_mok (by decide +kernel) (z_win 3 198 (w := .code (zm_y zm_34) (zm_b zm_34) (zm_L zm_34) (zm_r zm_34)) (by decide +kernel) rfl) (q := 1001) (by decide +kernel) (by decide +kernel) (by decide +kernel) (z_eok z_kl_ok rfl zd_34 zx_34)
theorem zd_35 : z_db (zm_b zm_35) (zm_c zm_35) = true := by decide +kernel
theorem zx_35 : z_xb z_Ms z_kl zm_35 ((zm_c zm_35).zip [0, 0, 2174, 0, 4038, 0, 0, 0, 0, 0, 0, 0, 0, 2165, 3212, 0, 0, 0, 4046, 0, 0, 3185, 0, 0, 2167, 0, 2175, 0, 2165, 3212, 0, 0, 4183, 0, 0, 0, 0, 0, 0, 0, 0, 2172, 0, 0, 0, 2172, 0, 0, 2167, 0, 4205, 0, 0, 0, 0, 0, 2174, 0, 0]) = true := by decide +kernel
theorem zo_35 : zMok z_Ms zm_35 := z_mok (by decide +kernel) (z_win 4 182 (w := .code (zm_y zm_35) (zm_b zm_35) (zm_L zm_35) (zm_r zm_35)) (by decide +kernel) rfl) (q := 1001) (by decide +kernel) (by decide +kernel) (by decide +kernel) (z_eok z_kl_ok rfl zd_35 zx_35)
theorem zd_36 : z_db (zm_b zm_36) (zm_c zm_36) = true := by decide +kernel
theorem zx_36 : z_xb z_Ms z_kl zm_36 ((zm_c zm_36).zip [0, 0, 0, 0, 0, 2173, 0, 2163, 0, 0, 0, 2163, 0, 2173, 0, 0, 0, 0, 0, 0, 0, 2173, 0, 0, 2173, 0, 0, 0]) = true := by decide +kernel
theorem zo_36 : zMok z_Ms zm_36 := z_mok (by decide +kernel) (z_win 2 213 (w := .code (zm_y zm_36) (zm_b zm_36) (zm_L zm_36) (zm_r zm_36)) (by decide +kernel) rfl) (q := 1001) (by decide +kernel) (by decide +kernel) (by decide +kernel) (z_eok z_kl_ok rfl zd_36 zx_36)
theorem zd_37 : z_db (zm_b zm_37) (zm_c zm_37) = true := by decide +kernel
theorem zx_37 : z_xb z_Ms z_kl zm_37 ((zm_c zm_37).zip [0, 2165, 4151, 0]) = true := by decide +kernel
theorem zo_37 : zMok z_Ms zm_37 := z_mok (by decide +kernel) (z_win 4 150 (w := .code (zm_y zm_37) (zm_b zm_37) (zm_L zm_37) (zm_r zm_37)) (by decide +kernel) rfl) (q := 1001) (by decide +kernel) (by decide +kernel) (by decide +kernel) (z_eok z_kl_ok rfl zd_37 zx_37)
theorem zd_38 : z_db (zm_b zm_38) (zm_c zm_38) = true := by decide +kernel
theorem zx_38 : z_xb z_Ms z_kl zm_38 ((zm_c zm_38).zip [0, 0, 2174, 0, 5012, 0, 0, 0, 0, 2168, 0, 2175, 0, 5046, 0, 0, 0, 0, 0, 0, 2175, 2110, 0, 0, 0, 0, 0, 2175, 2110, 0, 0, 2175, 0, 3203, 0, 0, 2175, 0, 3203, 0, 0, 0, 2168, 0, 2175, 0, 0, 5053, 0, 0, 0, 0, 0, 0, 5061, 0, 0, 0, 0, 0, 0, 0]) = true := by decide +kernel
theorem zo_38 : zMok z_Ms zm_38 := z_mok (by decide +kernel) (z_win 5 45 (w := .code (zm_y zm_38) (zm_b zm_38) (zm_L zm_38) (zm_r zm_38)) (by decide +kernel) rfl) (q := 1001) (by decide +kernel) (by decide +kernel) (by decide +kernel) (z_eok z_kl_ok rfl zd_38 zx_38)
theorem zd_39 : z_db (zm_b zm_39) (zm_c zm_39) = true := by decide +kernel
theorem zx_39 : z_xb z_Ms z_kl zm_39 ((zm_c zm_39).zip [0, 2164, 0, 2163, 0, 2173, 0, 2176, 2222, 0, 0, 0, 0, 2175, 0, 0, 0, 2176, 2175, 0, 0, 2176, 0, 0, 2173, 0, 0, 2174, 0, 2165, 0, 2175, 2128, 3164, 0, 2169, 3169, 0, 0, 0, 0, 2171, 0, 0, 0, 2171, 0, 0, 0, 0, 0, 0, 2175, 2110, 0]) = true := by decide +kernel
theorem zo_39 : zMok z_Ms zm_39 := z_mok (by decide +kernel) (z_win 2 221 (w := .code (zm_y zm_39) (zm_b zm_39) (zm_L zm_39) (zm_r zm_39)) (by decide +kernel) rfl) (q := 1001) (by decide +kernel) (by decide +kernel) (by decide +kernel) (z_eok z_kl_ok rfl zd_39 zx_39)
theorem zd_40 : z_db (zm_b zm_40) (zm_c zm_40) = true := by decide +kernel
theorem zx_40 : z_xb z_Ms z_kl zm_40 ((zm_c zm_40).zip [0, 2175, 0, 0, 4238, 0, 0, 0, 0, 0, 0, 0, 0, 0, 2168, 0, 2175, 0, 0, 5074, 0, 0, 0, 2168, 1232, 0, 0, 2168, 1234, 0]) = true := by decide +kernel
theorem zo_40 : zMok z_Ms zm_40 := z_mok (by decide +kernel) (z_win 5 73 (w := .code (zm_y zm_40) (zm_b zm_40) (zm_L zm_40) (zm_r zm_40)) (by decide +kernel) rfl) (q := 1001) (by decide +kernel) (by decide +kernel) (by decide +kernel) (z_eok z_kl_ok rfl zd_40 zx_40)
theorem zd_41 : z_db (zm_b zm_41) (zm_c zm_41) = true := by decide +kernel
theorem zx_41 : z_xb z_Ms z_kl zm_41 ((zm_c zm_41).zip [0, 4038, 0, 0, 2167, 0, 2175, 0, 2165, 3212, 0, 4175, 0, 0, 0]) = true := by decide +kernel
theorem zo_41 : zMok z_Ms zm_41 := z_mok (by decide +kernel) (z_win 4 174 (w := .code (zm_y zm_41) (zm_b zm_41) (zm_L zm_41) (zm_r zm_41)) (by decide +kernel) rfl) (q := 1001) (by decide +kernel) (by decide +kernel) (by decide +kernel) (z_eok z_kl_ok rfl zd_41 zx_41)
theorem zd_42 : z_db (zm_b zm_42) (zm_c zm_42) = true := by decide +kernel
theorem zx_42 : z_xb z_Ms z_kl zm_42 ((zm_c zm_42).zip [0, 2165, 3212, 4127, 0, 0, 0, 0, 0, 2165, 4091, 0, 2175, 0, 4128, 0, 0, 0, 0, 0]) = true := by decide +kernel
theorem zo_42 : zMok z_Ms zm_42 := z_mok (by decide +kernel) (z_win 4 126 (w := .code (zm_y zm_42) (zm_b zm_42) (zm_L zm_42) (zm_r zm_42)) (by decide +kernel) rfl) (q := 1001) (by decide +kernel) (by decide +kernel) (by decide +kernel) (z_eok z_kl_ok rfl zd_42 zx_42)
theorem zd_43 : z_db (zm_b zm_43) (zm_c zm_43) = true := by decide +kernel
theorem zx_43 : z_xb z_Ms z_kl zm_43 ((zm_c zm_43).zip [0, 0, 0, 0, 2175, 0, 3181, 0, 0, 2175, 0, 3181, 0, 0, 0, 0, 2169, 0, 0, 0, 5147, 0]) = true := by decide +kernel
theorem zo_43 : zMok z_Ms zm_43 := z_mok (by decide +kernel) (z_win 5 146 (w := .code (zm_y zm_43) (zm_b zm_43) (zm_L zm_43) (zm_r zm_43)) (by decide +kernel) rfl) (q := 1001) (by decide +kernel) (by decide +kernel) (by decide +kernel) (z_eok z_kl_ok rfl zd_43 zx_43)
theorem zd_44 : z_db (zm_b zm_44) (zm_c zm_44) = true := by decide +kernel
theorem zx_44 : z_xb z_Ms z_kl zm_44 ((zm_c zm_44).zip [0, 2175, 0, 3199, 0, 0, 0, 0, 0, 0, 0, 0, 0, 2166, 0, 2175, 0, 2165, 3212, 3236, 0, 2166, 0, 2175, 0, 4213, 0, 0, 0, 0, 0, 0, 0, 0, 0, 0, 4233, 0]) = true := by decide +kernel
theorem zo_44 : zMok z_Ms zm_44 := z_mok (by decide +kernel) (z_win 4 212 (w := .code (zm_y zm_44) (zm_b zm_44) (zm_L zm_44) (zm_r zm_44)) (by decide +kernel) rfl) (q := 1001) (by decide +kernel) (by decide +kernel) (by decide +kernel) (z_eok z_kl_ok rfl zd_44 zx_44)
theorem zd_45 : z_db (zm_b zm_45) (zm_c zm_45) = true := by decide +kernel
theorem zx_45 : z_xb z_Ms z_kl zm_45 ((zm_c zm_45).zip [0, 2175, 0, 3199, 0, 0, 5012, 0, 3185, 0, 0, 2168, 0, 2175, 0, 0, 5025, 0]) = true := by decide +kernel
theorem zo_45 : zMok z_Ms zm_45 := z_mok (by decide +kernel) (z_win 5 24 (w := .code (zm_y zm_45) (zm_b zm_45) (zm_L zm_45) (zm_r zm_45)) (by decide +kernel) rfl) (q := 1001) (by decide +kernel) (by decide +kernel) (by decide +kernel) (z_eok z_kl_ok rfl zd_45 zx_45)
theorem zd_46 : z_db (zm_b zm_46) (zm_c zm_46) = true := by decide +kernel
theorem zx_46 : z_xb z_Ms z_kl zm_46 ((zm_c zm_46).zip [0, 4038, 0, 3185, 0, 0, 2165, 3212, 0, 0, 0, 0, 0, 4041, 0, 0, 0, 4046, 0, 0, 0, 4050, 0, 0, 0, 2175, 0, 4054, 0, 0, 0, 4065, 0, 3185, 0]) = true := by decide +kernel
theorem zo_46 : zMok z_Ms zm_46 := z_mok (by decide +kernel) (z_win 4 37 (w := .code (zm_y zm_46) (zm_b zm_46) (zm_L zm_46) (zm_r zm_46)) (by decide +kernel) rfl) (q := 1001) (by decide +kernel) (by decide +kernel) (by decide +kernel) (z_eok z_kl_ok rfl zd_46 zx_46)
theorem zd_47 : z_db (zm_b zm_47) (zm_c zm_47) = true := by decide +kernel
theorem zx_47 : z_xb z_Ms z_kl zm_47 ((zm_c zm_47).zip [0, 0, 0, 0, 0, 0, 0, 0, 0, 0, 0, 0, 0, 2175, 2106, 0, 0, 0, 0, 0, 2175, 2106, 0, 0, 2175, 0, 0, 0, 5109, 0, 0, 0, 0, 0, 0, 0, 0]) = true := by decide +kernel
theorem zo_47 : zMok z_Ms zm_47 := z_mok (by decide +kernel) (z_win 5 121 (w := .code (zm_y zm_47) (zm_b zm_47) (zm_L zm_47) (zm_r zm_47)) (by decide +kernel) rfl) (q := 1001) (by decide +kernel) (by decide +kernel) (by decide +kernel) (z_eok z_kl_ok rfl zd_47 zx_47)
