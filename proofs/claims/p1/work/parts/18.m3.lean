/-! methods 72 to 95 -/
theorem zd_72 : z_db (zm_b zm_72) (zm_c zm_72) = true := by decide +kernel
theorem zx_72 : z_xb z_Ms z_kl zm_72 ((zm_c zm_72).zip [0, 1195, 0, 0, 1179, 1196, 0, 0, 1179, 1197, 0]) = true := by decide +kernel
theorem zo_72 : zMok z_Ms zm_72 := z_mok (by decide +kernel) (z_win 1 194 (w := .code (zm_y zm_72) (zm_b zm_72) (zm_L zm_72) (zm_r zm_72)) (by decide +kernel) rfl) (q := 1010) (by decide +kernel) (by decide +kernel) (by decide +kernel) (z_eok z_kl_ok rfl zd_72 zx_72)
theorem zd_73 : z_db (zm_b zm_73) (zm_c zm_73) = true := by decide +kernel
theorem zx_73 : z_xb z_Ms z_kl zm_73 ((zm_c zm_73).zip [0, 1208, 0, 1209, 0, 1210, 1211, 0, 0, 1179, 1212, 0, 0, 1179, 1213, 0]) = true := by decide +kernel
theorem zo_73 : zMok z_Ms zm_73 := z_mok (by decide +kernel) (z_win 1 207 (w := .code (zm_y zm_73) (zm_b zm_73) (zm_L zm_73) (zm_r zm_73)) (by decide +kernel) rfl) (q := 1011) (by decide +kernel) (by decide +kernel) (by decide +kernel) (z_eok z_kl_ok rfl zd_73 zx_73)
theorem zd_74 : z_db (zm_b zm_74) (zm_c zm_74) = true := by decide +kernel
theorem zx_74 : z_xb z_Ms z_kl zm_74 ((zm_c zm_74).zip [0, 1226, 0, 0, 1179, 1227, 0, 0, 1179, 1228, 0, 0, 1179, 1229, 0, 0, 1233, 0]) = true := by decide +kernel
theorem zo_74 : zMok z_Ms zm_74 := z_mok (by decide +kernel) (z_win 1 225 (w := .code (zm_y zm_74) (zm_b zm_74) (zm_L zm_74) (zm_r zm_74)) (by decide +kernel) rfl) (q := 1012) (by decide +kernel) (by decide +kernel) (by decide +kernel) (z_eok z_kl_ok rfl zd_74 zx_74)
theorem zd_75 : z_db (zm_b zm_75) (zm_c zm_75) = true := by decide +kernel
theorem zx_75 : z_xb z_Ms z_kl zm_75 ((zm_c zm_75).zip [0, 2017, 0, 0, 1179, 2018, 0, 0, 1179, 2019, 0, 0, 2045, 2020, 0, 0, 1179, 2021, 0, 0, 1179, 2022, 0, 0, 1179, 2023, 0]) = true := by decide +kernel
theorem zo_75 : zMok z_Ms zm_75 := z_mok (by decide +kernel) (z_win 2 16 (w := .code (zm_y zm_75) (zm_b zm_75) (zm_L zm_75) (zm_r zm_75)) (by decide +kernel) rfl) (q := 1013) (by decide +kernel) (by decide +kernel) (by decide +kernel) (z_eok z_kl_ok rfl zd_75 zx_75)
theorem zd_76 : z_db (zm_b zm_76) (zm_c zm_76) = true := by decide +kernel
theorem zx_76 : z_xb z_Ms z_kl zm_76 ((zm_c zm_76).zip [0, 5234, 0, 0, 1120, 6006, 0, 0, 1120, 6007, 0, 0, 6011, 0, 0, 1179, 6017, 0, 0, 1179, 6018, 0, 0, 1179, 6019, 0, 0, 1179, 6020, 0, 0, 1179, 6021, 0, 0, 1179, 6022, 0, 0, 1179, 6023, 0, 0, 1179, 6024, 0, 0, 1179, 6025, 0, 0, 1179, 6026, 0, 0, 1179, 6027, 0, 0, 1179, 6028, 0, 0, 1179, 6029, 0, 0, 1179, 6030, 0, 0, 1179, 6031, 0, 0, 1179, 6032, 0, 0, 1179, 6033, 0, 0, 2045, 6034, 0, 0, 2045, 6035, 0, 0, 2045, 6036, 0, 0, 1121, 6037, 0, 0, 1121, 6038, 0, 0, 1121, 6039, 0, 0, 1179, 6040, 0, 0, 1179, 6041, 0, 0, 1179, 6042, 0, 0, 1179, 6043, 0, 0, 1179, 6044, 0, 0, 1179, 6053, 0, 0, 1179, 6054, 0, 0, 1179, 6055, 0, 0, 1179, 6056, 0, 0, 1179, 6059, 0, 0, 1179, 6060, 0, 0, 1179, 6063, 0, 0, 1179, 6066, 0, 0, 1179, 6067, 0, 0, 1179, 6068, 0, 0, 1179, 6069, 0, 0, 1179, 6070, 0, 0, 1179, 6071, 0, 0, 1179, 6074, 0, 0, 2045, 6075, 0, 5235, 0, 5239, 0]) = true := by decide +kernel
theorem zo_76 : zMok z_Ms zm_76 := z_mok (by decide +kernel) (z_win 5 233 (w := .code (zm_y zm_76) (zm_b zm_76) (zm_L zm_76) (zm_r zm_76)) (by decide +kernel) rfl) (q := 1016) (by decide +kernel) (by decide +kernel) (by decide +kernel) (z_eok z_kl_ok rfl zd_76 zx_76)
theorem zd_77 : z_db (zm_b zm_77) (zm_c zm_77) = true := by decide +kernel
theorem zx_77 : z_xb z_Ms z_kl zm_77 ((zm_c zm_77).zip [0, 0, 0, 2175, 2110, 0, 0, 2175, 2106, 0, 0, 2175, 2116, 0, 0, 2165, 3212, 4127, 0, 0, 2165, 3212, 5217, 0, 0, 2165, 5221, 0, 0, 2165, 5225, 0, 0, 2169, 2025, 0, 0, 2169, 2027, 0, 0, 2173, 0, 0, 2175, 2119, 0, 0, 2174, 0, 0, 0]) = true := by decide +kernel
theorem zo_77 : zMok z_Ms zm_77 := z_mok (by decide +kernel) (z_win 5 216 (w := .code (zm_y zm_77) (zm_b zm_77) (zm_L zm_77) (zm_r zm_77)) (by decide +kernel) rfl) (q := 1001) (by decide +kernel) (by decide +kernel) (by decide +kernel) (z_eok z_kl_ok rfl zd_77 zx_77)
theorem zd_78 : z_db (zm_b zm_78) (zm_c zm_78) = true := by decide +kernel
theorem zx_78 : z_xb z_Ms z_kl zm_78 ((zm_c zm_78).zip [0, 1182, 0, 1181, 0, 0]) = true := by decide +kernel
theorem zo_78 : zMok z_Ms zm_78 := z_mok (by decide +kernel) (z_win 5 228 (w := .code (zm_y zm_78) (zm_b zm_78) (zm_L zm_78) (zm_r zm_78)) (by decide +kernel) rfl) (q := 1008) (by decide +kernel) (by decide +kernel) (by decide +kernel) (z_eok z_kl_ok rfl zd_78 zx_78)
theorem zd_79 : z_db (zm_b zm_79) (zm_c zm_79) = true := by decide +kernel
theorem zx_79 : z_xb z_Ms z_kl zm_79 ((zm_c zm_79).zip [0, 1181, 0]) = true := by decide +kernel
theorem zo_79 : zMok z_Ms zm_79 := z_mok (by decide +kernel) (z_win 5 224 (w := .code (zm_y zm_79) (zm_b zm_79) (zm_L zm_79) (zm_r zm_79)) (by decide +kernel) rfl) (q := 1008) (by decide +kernel) (by decide +kernel) (by decide +kernel) (z_eok z_kl_ok rfl zd_79 zx_79)
theorem zd_80 : z_db (zm_b zm_80) (zm_c zm_80) = true := by decide +kernel
theorem zx_80 : z_xb z_Ms z_kl zm_80 ((zm_c zm_80).zip [0, 1175, 0, 0, 0]) = true := by decide +kernel
theorem zo_80 : zMok z_Ms zm_80 := z_mok (by decide +kernel) (z_win 5 220 (w := .code (zm_y zm_80) (zm_b zm_80) (zm_L zm_80) (zm_r zm_80)) (by decide +kernel) rfl) (q := 1009) (by decide +kernel) (by decide +kernel) (by decide +kernel) (z_eok z_kl_ok rfl zd_80 zx_80)
theorem zd_81 : z_db (zm_b zm_81) (zm_c zm_81) = true := by decide +kernel
theorem zx_81 : z_xb z_Ms z_kl zm_81 ((zm_c zm_81).zip [0, 0, 0, 7163, 0, 0, 7142, 0, 0, 6019, 0, 6045, 0, 0, 0, 6053, 0, 0, 0, 0, 6053, 0, 0, 0, 0, 6057, 0, 0, 6058, 0, 0, 6072, 0, 0, 6073, 0, 0, 6008, 0, 0, 6020, 0, 6045, 0, 0, 0, 6061, 0, 0, 0]) = true := by decide +kernel
theorem zo_81 : zMok z_Ms zm_81 := z_mok (by decide +kernel) (z_win 9 25 (w := .code (zm_y zm_81) (zm_b zm_81) (zm_L zm_81) (zm_r zm_81)) (by decide +kernel) rfl) (q := 1016) (by decide +kernel) (by decide +kernel) (by decide +kernel) (z_eok z_kl_ok rfl zd_81 zx_81)
theorem zd_82 : z_db (zm_b zm_82) (zm_c zm_82) = true := by decide +kernel
theorem zx_82 : z_xb z_Ms z_kl zm_82 ((zm_c zm_82).zip [0, 0, 0, 0, 0, 0, 0, 0, 2169, 0, 2175, 0, 0, 5190, 0]) = true := by decide +kernel
theorem zo_82 : zMok z_Ms zm_82 := z_mok (by decide +kernel) (z_win 5 189 (w := .code (zm_y zm_82) (zm_b zm_82) (zm_L zm_82) (zm_r zm_82)) (by decide +kernel) rfl) (q := 1001) (by decide +kernel) (by decide +kernel) (by decide +kernel) (z_eok z_kl_ok rfl zd_82 zx_82)
theorem zd_83 : z_db (zm_b zm_83) (zm_c zm_83) = true := by decide +kernel
theorem zx_83 : z_xb z_Ms z_kl zm_83 ((zm_c zm_83).zip [0, 0, 9009, 0, 0, 0, 0, 6003, 0, 0, 0, 0, 0]) = true := by decide +kernel
theorem zo_83 : zMok z_Ms zm_83 := z_mok (by decide +kernel) (z_win 9 8 (w := .code (zm_y zm_83) (zm_b zm_83) (zm_L zm_83) (zm_r zm_83)) (by decide +kernel) rfl) (q := 1016) (by decide +kernel) (by decide +kernel) (by decide +kernel) (z_eok z_kl_ok rfl zd_83 zx_83)
theorem zd_84 : z_db (zm_b zm_84) (zm_c zm_84) = true := by decide +kernel
theorem zx_84 : z_xb z_Ms z_kl zm_84 ((zm_c zm_84).zip [0, 0, 0, 0, 2170, 0, 0, 0, 0, 2171, 0, 0, 0, 2171, 0, 0, 0, 0, 0]) = true := by decide +kernel
theorem zo_84 : zMok z_Ms zm_84 := z_mok (by decide +kernel) (z_win 5 208 (w := .code (zm_y zm_84) (zm_b zm_84) (zm_L zm_84) (zm_r zm_84)) (by decide +kernel) rfl) (q := 1001) (by decide +kernel) (by decide +kernel) (by decide +kernel) (z_eok z_kl_ok rfl zd_84 zx_84)
theorem zd_85 : z_db (zm_b zm_85) (zm_c zm_85) = true := by decide +kernel
theorem zx_85 : z_xb z_Ms z_kl zm_85 ((zm_c zm_85).zip [0, 0, 0, 6003, 0, 0, 6075, 0, 0, 0, 0, 0]) = true := by decide +kernel
theorem zo_85 : zMok z_Ms zm_85 := z_mok (by decide +kernel) (z_win 9 21 (w := .code (zm_y zm_85) (zm_b zm_85) (zm_L zm_85) (zm_r zm_85)) (by decide +kernel) rfl) (q := 1016) (by decide +kernel) (by decide +kernel) (by decide +kernel) (z_eok z_kl_ok rfl zd_85 zx_85)
theorem zd_86 : z_db (zm_b zm_86) (zm_c zm_86) = true := by decide +kernel
theorem zx_86 : z_xb z_Ms z_kl zm_86 ((zm_c zm_86).zip [0, 2175, 0, 3199, 0, 0, 0]) = true := by decide +kernel
theorem zo_86 : zMok z_Ms zm_86 := z_mok (by decide +kernel) (z_win 5 11 (w := .code (zm_y zm_86) (zm_b zm_86) (zm_L zm_86) (zm_r zm_86)) (by decide +kernel) rfl) (q := 1001) (by decide +kernel) (by decide +kernel) (by decide +kernel) (z_eok z_kl_ok rfl zd_86 zx_86)
theorem zd_87 : z_db (zm_b zm_87) (zm_c zm_87) = true := by decide +kernel
theorem zx_87 : z_xb z_Ms z_kl zm_87 ((zm_c zm_87).zip [0, 0, 7159, 0, 0, 0]) = true := by decide +kernel
theorem zo_87 : zMok z_Ms zm_87 := z_mok (by decide +kernel) (z_win 8 135 (w := .code (zm_y zm_87) (zm_b zm_87) (zm_L zm_87) (zm_r zm_87)) (by decide +kernel) rfl) (q := 1016) (by decide +kernel) (by decide +kernel) (by decide +kernel) (z_eok z_kl_ok rfl zd_87 zx_87)
theorem zd_88 : z_db (zm_b zm_88) (zm_c zm_88) = true := by decide +kernel
theorem zx_88 : z_xb z_Ms z_kl zm_88 ((zm_c zm_88).zip [0, 4038, 0, 0, 5012, 0, 0, 0, 0, 0, 0, 0, 0, 0, 0, 0, 2175, 2110, 0, 0, 0]) = true := by decide +kernel
theorem zo_88 : zMok z_Ms zm_88 := z_mok (by decide +kernel) (z_win 5 32 (w := .code (zm_y zm_88) (zm_b zm_88) (zm_L zm_88) (zm_r zm_88)) (by decide +kernel) rfl) (q := 1001) (by decide +kernel) (by decide +kernel) (by decide +kernel) (z_eok z_kl_ok rfl zd_88 zx_88)
theorem zd_89 : z_db (zm_b zm_89) (zm_c zm_89) = true := by decide +kernel
theorem zx_89 : z_xb z_Ms z_kl zm_89 ((zm_c zm_89).zip [0, 7210, 0, 0, 0, 0, 6003, 0, 0, 0, 0, 0, 0, 0, 0, 0, 7163, 0, 0, 0]) = true := by decide +kernel
theorem zo_89 : zMok z_Ms zm_89 := z_mok (by decide +kernel) (z_win 8 147 (w := .code (zm_y zm_89) (zm_b zm_89) (zm_L zm_89) (zm_r zm_89)) (by decide +kernel) rfl) (q := 1016) (by decide +kernel) (by decide +kernel) (by decide +kernel) (z_eok z_kl_ok rfl zd_89 zx_89)
theorem zd_90 : z_db (zm_b zm_90) (zm_c zm_90) = true := by decide +kernel
theorem zx_90 : z_xb z_Ms z_kl zm_90 ((zm_c zm_90).zip [0, 0, 2174, 0, 5012, 0, 3185, 0, 0, 2168, 0, 2175, 0, 5046, 3185, 0, 0, 0, 0, 0, 2175, 2110, 0, 0, 0]) = true := by decide +kernel
theorem zo_90 : zMok z_Ms zm_90 := z_mok (by decide +kernel) (z_win 5 68 (w := .code (zm_y zm_90) (zm_b zm_90) (zm_L zm_90) (zm_r zm_90)) (by decide +kernel) rfl) (q := 1001) (by decide +kernel) (by decide +kernel) (by decide +kernel) (z_eok z_kl_ok rfl zd_90 zx_90)
theorem zd_91 : z_db (zm_b zm_91) (zm_c zm_91) = true := by decide +kernel
theorem zx_91 : z_xb z_Ms z_kl zm_91 ((zm_c zm_91).zip [0, 0, 6061, 0, 0, 0, 6003, 0, 7146, 0, 7146, 0, 0, 0, 0, 0, 7163, 0, 0, 0]) = true := by decide +kernel
theorem zo_91 : zMok z_Ms zm_91 := z_mok (by decide +kernel) (z_win 8 171 (w := .code (zm_y zm_91) (zm_b zm_91) (zm_L zm_91) (zm_r zm_91)) (by decide +kernel) rfl) (q := 1016) (by decide +kernel) (by decide +kernel) (by decide +kernel) (z_eok z_kl_ok rfl zd_91 zx_91)
theorem zd_92 : z_db (zm_b zm_92) (zm_c zm_92) = true := by decide +kernel
theorem zx_92 : z_xb z_Ms z_kl zm_92 ((zm_c zm_92).zip [0, 2175, 0, 3181, 0, 3185, 0]) = true := by decide +kernel
theorem zo_92 : zMok z_Ms zm_92 := z_mok (by decide +kernel) (z_win 3 180 (w := .code (zm_y zm_92) (zm_b zm_92) (zm_L zm_92) (zm_r zm_92)) (by decide +kernel) rfl) (q := 1001) (by decide +kernel) (by decide +kernel) (by decide +kernel) (z_eok z_kl_ok rfl zd_92 zx_92)
theorem zd_93 : z_db (zm_b zm_93) (zm_c zm_93) = true := by decide +kernel
theorem zx_93 : z_xb z_Ms z_kl zm_93 ((zm_c zm_93).zip [0, 0, 7138, 0, 7146, 0, 0]) = true := by decide +kernel
theorem zo_93 : zMok z_Ms zm_93 := z_mok (by decide +kernel) (z_win 7 137 (w := .code (zm_y zm_93) (zm_b zm_93) (zm_L zm_93) (zm_r zm_93)) (by decide +kernel) rfl) (q := 1016) (by decide +kernel) (by decide +kernel) (by decide +kernel) (z_eok z_kl_ok rfl zd_93 zx_93)
theorem zd_94 : z_db (zm_b zm_94) (zm_c zm_94) = true := by decide +kernel
theorem zx_94 : z_xb z_Ms z_kl zm_94 ((zm_c zm_94).zip [0, 0, 0, 0, 2175, 0, 3181, 0, 0, 0, 0, 2175, 0, 0, 3208, 0]) = true := by decide +kernel
theorem zo_94 : zMok z_Ms zm_94 := z_mok (by decide +kernel) (z_win 3 227 (w := .code (zm_y zm_94) (zm_b zm_94) (zm_L zm_94) (zm_r zm_94)) (by decide +kernel) rfl) (q := 1001) (by decide +kernel) (by decide +kernel) (by decide +kernel) (z_eok z_kl_ok rfl zd_94 zx_94)
theorem zd_95 : z_db (zm_b zm_95) (zm_c zm_95) = true := by decide +kernel
theorem zx_95 : z_xb z_Ms z_kl zm_95 ((zm_c zm_95).zip [0, 0, 3207, 0, 0, 0]) = true := by decide +kernel
theorem zo_95 : zMok z_Ms zm_95 := z_mok (by decide +kernel) (z_win 3 211 (w := .code (zm_y zm_95) (zm_b zm_95) (zm_L zm_95) (zm_r zm_95)) (by decide +kernel) rfl) (q := 1014) (by decide +kernel) (by decide +kernel) (by decide +kernel) (z_eok z_kl_ok rfl zd_95 zx_95)
