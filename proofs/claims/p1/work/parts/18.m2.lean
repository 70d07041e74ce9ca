/-! methods 48 to 71 -/
theorem zd_48 : z_db (zm_b zm_48) (zm_c zm_48) = true := by decide +kernel
theorem zx_48 : z_xb z_Ms z_kl zm_48 ((zm_c zm_48).zip [0, 0, 7159, 0, 0, 0]) = true := by decide +kernel
theorem zo_48 : zMok z_Ms zm_48 := z_mok (by decide +kernel) (z_win 8 119 (w := .code (zm_y zm_48) (zm_b zm_48) (zm_L zm_48) (zm_r zm_48)) (by decide +kernel) rfl) (q := 1016) (by decide +kernel) (by decide +kernel) (by decide +kernel) (z_eok z_kl_ok rfl zd_48 zx_48)
theorem zd_49 : z_db (zm_b zm_49) (zm_c zm_49) = true := by decide +kernel
theorem zx_49 : z_xb z_Ms z_kl zm_49 ((zm_c zm_49).zip [0, 2053, 0, 0, 1179, 2079, 0, 0, 1179, 2081, 0, 0, 1179, 2083, 0, 0, 1179, 2085, 0, 0, 1179, 2086, 0, 0, 1179, 2087, 0, 0, 1179, 2091, 0, 0, 1179, 2095, 0, 2054, 0, 0, 2099, 0, 0, 2124, 0]) = true := by decide +kernel
theorem zo_49 : zMok z_Ms zm_49 := z_mok (by decide +kernel) (z_win 2 52 (w := .code (zm_y zm_49) (zm_b zm_49) (zm_L zm_49) (zm_r zm_49)) (by decide +kernel) rfl) (q := 1014) (by decide +kernel) (by decide +kernel) (by decide +kernel) (z_eok z_kl_ok rfl zd_49 zx_49)
theorem zd_50 : z_db (zm_b zm_50) (zm_c zm_50) = true := by decide +kernel
theorem zx_50 : z_xb z_Ms z_kl zm_50 ((zm_c zm_50).zip [0, 2059, 0, 0, 1179, 2060, 0, 0, 1179, 2061, 0]) = true := by decide +kernel
theorem zo_50 : zMok z_Ms zm_50 := z_mok (by decide +kernel) (z_win 2 58 (w := .code (zm_y zm_50) (zm_b zm_50) (zm_L zm_50) (zm_r zm_50)) (by decide +kernel) rfl) (q := 1015) (by decide +kernel) (by decide +kernel) (by decide +kernel) (z_eok z_kl_ok rfl zd_50 zx_50)
theorem zd_51 : z_db (zm_b zm_51) (zm_c zm_51) = true := by decide +kernel
theorem zx_51 : z_xb z_Ms z_kl zm_51 ((zm_c zm_51).zip [0, 6017, 0, 6046, 0, 0, 0, 6018, 0, 6046, 0, 0, 0, 6019, 0, 6046, 0, 0, 0, 6020, 0, 6046, 0, 0, 0, 6021, 0, 6046, 0, 0, 0, 6022, 0, 6046, 0, 0, 0, 6023, 0, 6046, 0, 0, 0, 6034, 0, 6046, 0, 0, 0, 6035, 0, 6046, 0, 0, 0, 6036, 0, 6046, 0, 0, 0, 0, 0, 6046, 0, 6047, 0]) = true := by decide +kernel
theorem zo_51 : zMok z_Ms zm_51 := z_mok (by decide +kernel) (z_win 5 238 (w := .code (zm_y zm_51) (zm_b zm_51) (zm_L zm_51) (zm_r zm_51)) (by decide +kernel) rfl) (q := 1016) (by decide +kernel) (by decide +kernel) (by decide +kernel) (z_eok z_kl_ok rfl zd_51 zx_51)
theorem zd_52 : z_db (zm_b zm_52) (zm_c zm_52) = true := by decide +kernel
theorem zx_52 : z_xb z_Ms z_kl zm_52 ((zm_c zm_52).zip [0, 0, 0, 0, 0, 0, 6053, 0, 0, 0, 0, 0, 0, 0, 6003, 0, 0, 0, 0, 0, 0, 0, 0, 6053, 0, 0, 6023, 0, 6045, 0, 0, 0, 0, 6057, 0, 0, 6058, 0, 0, 6072, 0, 0, 6061, 0, 0, 0, 0, 0, 0, 6075, 0, 0, 0, 0, 0, 0]) = true := by decide +kernel
theorem zo_52 : zMok z_Ms zm_52 := z_mok (by decide +kernel) (z_win 6 2 (w := .code (zm_y zm_52) (zm_b zm_52) (zm_L zm_52) (zm_r zm_52)) (by decide +kernel) rfl) (q := 1016) (by decide +kernel) (by decide +kernel) (by decide +kernel) (z_eok z_kl_ok rfl zd_52 zx_52)
theorem zd_53 : z_db (zm_b zm_53) (zm_c zm_53) = true := by decide +kernel
theorem zx_53 : z_xb z_Ms z_kl zm_53 ((zm_c zm_53).zip [0, 0, 0, 5194, 0, 0, 0, 0, 0]) = true := by decide +kernel
theorem zo_53 : zMok z_Ms zm_53 := z_mok (by decide +kernel) (z_win 5 193 (w := .code (zm_y zm_53) (zm_b zm_53) (zm_L zm_53) (zm_r zm_53)) (by decide +kernel) rfl) (q := 1013) (by decide +kernel) (by decide +kernel) (by decide +kernel) (z_eok z_kl_ok rfl zd_53 zx_53)
theorem zd_54 : z_db (zm_b zm_54) (zm_c zm_54) = true := by decide +kernel
theorem zx_54 : z_xb z_Ms z_kl zm_54 ((zm_c zm_54).zip [0, 0, 0, 0, 0, 0, 7163, 0, 0, 0]) = true := by decide +kernel
theorem zo_54 : zMok z_Ms zm_54 := z_mok (by decide +kernel) (z_win 9 0 (w := .code (zm_y zm_54) (zm_b zm_54) (zm_L zm_54) (zm_r zm_54)) (by decide +kernel) rfl) (q := 1016) (by decide +kernel) (by decide +kernel) (by decide +kernel) (z_eok z_kl_ok rfl zd_54 zx_54)
theorem zd_55 : z_db (zm_b zm_55) (zm_c zm_55) = true := by decide +kernel
theorem zx_55 : z_xb z_Ms z_kl zm_55 ((zm_c zm_55).zip [0, 0, 0, 0, 2108, 0, 0]) = true := by decide +kernel
theorem zo_55 : zMok z_Ms zm_55 := z_mok (by decide +kernel) (z_win 5 49 (w := .code (zm_y zm_55) (zm_b zm_55) (zm_L zm_55) (zm_r zm_55)) (by decide +kernel) rfl) (q := 1012) (by decide +kernel) (by decide +kernel) (by decide +kernel) (z_eok z_kl_ok rfl zd_55 zx_55)
theorem zd_56 : z_db (zm_b zm_56) (zm_c zm_56) = true := by decide +kernel
theorem zx_56 : z_xb z_Ms z_kl zm_56 ((zm_c zm_56).zip [0, 7210, 0, 0, 6053, 0, 0, 0, 0, 0, 0, 0]) = true := by decide +kernel
theorem zo_56 : zMok z_Ms zm_56 := z_mok (by decide +kernel) (z_win 8 38 (w := .code (zm_y zm_56) (zm_b zm_56) (zm_L zm_56) (zm_r zm_56)) (by decide +kernel) rfl) (q := 1016) (by decide +kernel) (by decide +kernel) (by decide +kernel) (z_eok z_kl_ok rfl zd_56 zx_56)
theorem zd_57 : z_db (zm_b zm_57) (zm_c zm_57) = true := by decide +kernel
theorem zx_57 : z_xb z_Ms z_kl zm_57 ((zm_c zm_57).zip [0, 4095, 0, 0, 1181, 0, 0, 0, 0, 1181, 0, 0, 1181, 0, 0, 0, 1181, 1182, 0, 4095, 0, 4100, 0, 4095, 0]) = true := by decide +kernel
theorem zo_57 : zMok z_Ms zm_57 := z_mok (by decide +kernel) (z_win 4 94 (w := .code (zm_y zm_57) (zm_b zm_57) (zm_L zm_57) (zm_r zm_57)) (by decide +kernel) rfl) (q := 1008) (by decide +kernel) (by decide +kernel) (by decide +kernel) (z_eok z_kl_ok rfl zd_57 zx_57)
theorem zd_58 : z_db (zm_b zm_58) (zm_c zm_58) = true := by decide +kernel
theorem zx_58 : z_xb z_Ms z_kl zm_58 ((zm_c zm_58).zip [0, 0, 0, 0, 1175, 0, 0, 0, 0, 0, 0, 0, 0]) = true := by decide +kernel
theorem zo_58 : zMok z_Ms zm_58 := z_mok (by decide +kernel) (z_win 4 110 (w := .code (zm_y zm_58) (zm_b zm_58) (zm_L zm_58) (zm_r zm_58)) (by decide +kernel) rfl) (q := 1009) (by decide +kernel) (by decide +kernel) (by decide +kernel) (z_eok z_kl_ok rfl zd_58 zx_58)
theorem zd_59 : z_db (zm_b zm_59) (zm_c zm_59) = true := by decide +kernel
theorem zx_59 : z_xb z_Ms z_kl zm_59 ((zm_c zm_59).zip [0, 6057, 0, 0, 0, 0, 0, 0, 0, 0, 6056, 0, 0, 6057, 0, 0, 0, 0, 6053, 0, 0, 0, 0, 0, 0, 0, 6057, 0, 0, 6057, 0, 0, 6058, 0]) = true := by decide +kernel
theorem zo_59 : zMok z_Ms zm_59 := z_mok (by decide +kernel) (z_win 8 22 (w := .code (zm_y zm_59) (zm_b zm_59) (zm_L zm_59) (zm_r zm_59)) (by decide +kernel) rfl) (q := 1016) (by decide +kernel) (by decide +kernel) (by decide +kernel) (z_eok z_kl_ok rfl zd_59 zx_59)
theorem zd_60 : z_db (zm_b zm_60) (zm_c zm_60) = true := by decide +kernel
theorem zx_60 : z_xb z_Ms z_kl zm_60 ((zm_c zm_60).zip [0, 6053, 0, 0, 0, 0, 0, 0, 0, 0]) = true := by decide +kernel
theorem zo_60 : zMok z_Ms zm_60 := z_mok (by decide +kernel) (z_win 8 26 (w := .code (zm_y zm_60) (zm_b zm_60) (zm_L zm_60) (zm_r zm_60)) (by decide +kernel) rfl) (q := 1016) (by decide +kernel) (by decide +kernel) (by decide +kernel) (z_eok z_kl_ok rfl zd_60 zx_60)
theorem zd_61 : z_db (zm_b zm_61) (zm_c zm_61) = true := by decide +kernel
theorem zx_61 : z_xb z_Ms z_kl zm_61 ((zm_c zm_61).zip [0, 2024, 0, 0, 2024, 0, 0, 0, 2018, 0, 2024, 0, 0, 0, 2019, 0, 2024, 0, 0, 0, 2020, 0, 2024, 0, 0, 0, 2021, 0, 2024, 0, 2026, 0, 0, 2022, 0, 2024, 0, 0, 0, 0, 2024, 0, 0, 2024, 0, 2024, 0, 0, 0]) = true := by decide +kernel
theorem zo_61 : zMok z_Ms zm_61 := z_mok (by decide +kernel) (z_win 5 150 (w := .code (zm_y zm_61) (zm_b zm_61) (zm_L zm_61) (zm_r zm_61)) (by decide +kernel) rfl) (q := 1013) (by decide +kernel) (by decide +kernel) (by decide +kernel) (z_eok z_kl_ok rfl zd_61 zx_61)
theorem zd_62 : z_db (zm_b zm_62) (zm_c zm_62) = true := by decide +kernel
theorem zx_62 : z_xb z_Ms z_kl zm_62 ((zm_c zm_62).zip [0, 1211, 0, 4163, 0, 0, 0, 0, 0, 0, 0, 0, 1211, 0, 0, 4164, 0, 0, 0, 0, 4165, 0, 1211, 0, 4165, 0, 5130, 0, 0, 0, 0, 0]) = true := by decide +kernel
theorem zo_62 : zMok z_Ms zm_62 := z_mok (by decide +kernel) (z_win 5 129 (w := .code (zm_y zm_62) (zm_b zm_62) (zm_L zm_62) (zm_r zm_62)) (by decide +kernel) rfl) (q := 1011) (by decide +kernel) (by decide +kernel) (by decide +kernel) (z_eok z_kl_ok rfl zd_62 zx_62)
theorem zd_63 : z_db (zm_b zm_63) (zm_c zm_63) = true := by decide +kernel
theorem zx_63 : z_xb z_Ms z_kl zm_63 ((zm_c zm_63).zip [0, 6010, 0, 0, 0, 0]) = true := by decide +kernel
theorem zo_63 : zMok z_Ms zm_63 := z_mok (by decide +kernel) (z_win 7 25 (w := .code (zm_y zm_63) (zm_b zm_63) (zm_L zm_63) (zm_r zm_63)) (by decide +kernel) rfl) (q := 1016) (by decide +kernel) (by decide +kernel) (by decide +kernel) (z_eok z_kl_ok rfl zd_63 zx_63)
theorem zd_64 : z_db (zm_b zm_64) (zm_c zm_64) = true := by decide +kernel
theorem zx_64 : z_xb z_Ms z_kl zm_64 ((zm_c zm_64).zip [0, 1211, 0, 4163, 0, 0, 0, 0, 0, 0, 1211, 0, 4165, 0, 0, 1211, 0, 0, 4164, 0, 0, 0, 0, 0]) = true := by decide +kernel
theorem zo_64 : zMok z_Ms zm_64 := z_mok (by decide +kernel) (z_win 4 178 (w := .code (zm_y zm_64) (zm_b zm_64) (zm_L zm_64) (zm_r zm_64)) (by decide +kernel) rfl) (q := 1011) (by decide +kernel) (by decide +kernel) (by decide +kernel) (z_eok z_kl_ok rfl zd_64 zx_64)
theorem zd_65 : z_db (zm_b zm_65) (zm_c zm_65) = true := by decide +kernel
theorem zx_65 : z_xb z_Ms z_kl zm_65 ((zm_c zm_65).zip [0, 0, 0, 0, 1175, 0, 0, 0, 0, 0, 0]) = true := by decide +kernel
theorem zo_65 : zMok z_Ms zm_65 := z_mok (by decide +kernel) (z_win 4 62 (w := .code (zm_y zm_65) (zm_b zm_65) (zm_L zm_65) (zm_r zm_65)) (by decide +kernel) rfl) (q := 1009) (by decide +kernel) (by decide +kernel) (by decide +kernel) (z_eok z_kl_ok rfl zd_65 zx_65)
theorem zd_66 : z_db (zm_b zm_66) (zm_c zm_66) = true := by decide +kernel
theorem zx_66 : z_xb z_Ms z_kl zm_66 ((zm_c zm_66).zip [0, 0, 0, 0, 1175, 0, 0, 0, 0, 0, 0]) = true := by decide +kernel
theorem zo_66 : zMok z_Ms zm_66 := z_mok (by decide +kernel) (z_win 4 53 (w := .code (zm_y zm_66) (zm_b zm_66) (zm_L zm_66) (zm_r zm_66)) (by decide +kernel) rfl) (q := 1009) (by decide +kernel) (by decide +kernel) (by decide +kernel) (z_eok z_kl_ok rfl zd_66 zx_66)
theorem zd_67 : z_db (zm_b zm_67) (zm_c zm_67) = true := by decide +kernel
theorem zx_67 : z_xb z_Ms z_kl zm_67 ((zm_c zm_67).zip [0, 1211, 0, 4163, 0, 0, 0, 0, 0, 0, 1211, 0, 0, 4164, 0, 0, 0, 0, 1211, 0, 4165, 0]) = true := by decide +kernel
theorem zo_67 : zMok z_Ms zm_67 := z_mok (by decide +kernel) (z_win 4 162 (w := .code (zm_y zm_67) (zm_b zm_67) (zm_L zm_67) (zm_r zm_67)) (by decide +kernel) rfl) (q := 1011) (by decide +kernel) (by decide +kernel) (by decide +kernel) (z_eok z_kl_ok rfl zd_67 zx_67)
theorem zd_68 : z_db (zm_b zm_68) (zm_c zm_68) = true := by decide +kernel
theorem zx_68 : z_xb z_Ms z_kl zm_68 ((zm_c zm_68).zip [0, 1026, 0, 0, 1120, 2163, 0, 1029, 0, 0, 2164, 0, 1158, 0, 1160, 2165, 0, 1190, 0, 0, 2166, 0, 1203, 0, 0, 2167, 0, 1221, 0, 0, 2168, 0, 2012, 0, 0, 2169, 0, 0, 2046, 2170, 0, 0, 0, 0, 2170, 0, 0, 0, 2170, 0, 2046, 0, 2047, 0, 0, 0, 0, 0, 2045, 2171, 0, 0, 1179, 2172, 0, 2048, 0, 0, 2175, 0, 2048, 0, 0, 2176, 0]) = true := by decide +kernel
theorem zo_68 : zMok z_Ms zm_68 := z_mok (by decide +kernel) (z_win 1 25 (w := .code (zm_y zm_68) (zm_b zm_68) (zm_L zm_68) (zm_r zm_68)) (by decide +kernel) rfl) (q := 1001) (by decide +kernel) (by decide +kernel) (by decide +kernel) (z_eok z_kl_ok rfl zd_68 zx_68)
theorem zd_69 : z_db (zm_b zm_69) (zm_c zm_69) = true := by decide +kernel
theorem zx_69 : z_xb z_Ms z_kl zm_69 ((zm_c zm_69).zip [0, 1034, 0, 1035, 0, 1037, 1122, 0, 0, 1121, 1123, 0, 0, 1121, 1124, 0, 0, 1121, 1125, 0, 0, 1133, 0]) = true := by decide +kernel
theorem zo_69 : zMok z_Ms zm_69 := z_mok (by decide +kernel) (z_win 1 33 (w := .code (zm_y zm_69) (zm_b zm_69) (zm_L zm_69) (zm_r zm_69)) (by decide +kernel) rfl) (q := 1002) (by decide +kernel) (by decide +kernel) (by decide +kernel) (z_eok z_kl_ok rfl zd_69 zx_69)
theorem zd_70 : z_db (zm_b zm_70) (zm_c zm_70) = true := by decide +kernel
theorem zx_70 : z_xb z_Ms z_kl zm_70 ((zm_c zm_70).zip [0, 1040, 0, 0, 1121, 1091, 0, 0, 0, 0, 0, 0, 0, 0, 1042, 0, 0, 0, 1052, 0, 0, 0, 0, 0, 1090, 0, 0, 0, 0, 0, 0, 0, 0, 0, 0, 0, 0, 1091, 0, 0, 0, 1091, 0, 0, 0, 0, 0, 0, 0, 0, 0]) = true := by decide +kernel
theorem zo_70 : zMok z_Ms zm_70 := z_mok (by decide +kernel) (z_win 1 39 (w := .code (zm_y zm_70) (zm_b zm_70) (zm_L zm_70) (zm_r zm_70)) (by decide +kernel) rfl) (q := 1003) (by decide +kernel) (by decide +kernel) (by decide +kernel) (z_eok z_kl_ok rfl zd_70 zx_70)
theorem zd_71 : z_db (zm_b zm_71) (zm_c zm_71) = true := by decide +kernel
theorem zx_71 : z_xb z_Ms z_kl zm_71 ((zm_c zm_71).zip [0, 1163, 0, 0, 1164, 1180, 0, 0, 0, 0, 1180, 0, 0, 0, 1180, 0, 1164, 0, 1167, 0, 0, 0, 0]) = true := by decide +kernel
theorem zo_71 : zMok z_Ms zm_71 := z_mok (by decide +kernel) (z_win 1 162 (w := .code (zm_y zm_71) (zm_b zm_71) (zm_L zm_71) (zm_r zm_71)) (by decide +kernel) rfl) (q := 1008) (by decide +kernel) (by decide +kernel) (by decide +kernel) (z_eok z_kl_ok rfl zd_71 zx_71)
