/-! methods 96 to 119 -/
theorem zd_96 : z_db (zm_b zm_96) (zm_c zm_96) = true := by decide +kernel
theorem zx_96 : z_xb z_Ms z_kl zm_96 ((zm_c zm_96).zip [0, 0, 7159, 0, 0, 0]) = true := by decide +kernel
theorem zo_96 : zMok z_Ms zm_96 := z_mok (by decide +kernel) (z_win 7 178 (w := .code (zm_y zm_96) (zm_b zm_96) (zm_L zm_96) (zm_r zm_96)) (by decide +kernel) rfl) (q := 1016) (by decide +kernel) (by decide +kernel) (by decide +kernel) (z_eok z_kl_ok rfl zd_96 zx_96)
theorem zd_97 : z_db (zm_b zm_97) (zm_c zm_97) = true := by decide +kernel
theorem zx_97 : z_xb z_Ms z_kl zm_97 ((zm_c zm_97).zip [0, 4038, 0, 0, 2175, 0, 3181, 0, 0, 0]) = true := by decide +kernel
theorem zo_97 : zMok z_Ms zm_97 := z_mok (by decide +kernel) (z_win 4 118 (w := .code (zm_y zm_97) (zm_b zm_97) (zm_L zm_97) (zm_r zm_97)) (by decide +kernel) rfl) (q := 1001) (by decide +kernel) (by decide +kernel) (by decide +kernel) (z_eok z_kl_ok rfl zd_97 zx_97)
theorem zd_98 : z_db (zm_b zm_98) (zm_c zm_98) = true := by decide +kernel
theorem zx_98 : z_xb z_Ms z_kl zm_98 ((zm_c zm_98).zip [0, 0, 8035, 0, 0, 0]) = true := by decide +kernel
theorem zo_98 : zMok z_Ms zm_98 := z_mok (by decide +kernel) (z_win 8 34 (w := .code (zm_y zm_98) (zm_b zm_98) (zm_L zm_98) (zm_r zm_98)) (by decide +kernel) rfl) (q := 1016) (by decide +kernel) (by decide +kernel) (by decide +kernel) (z_eok z_kl_ok rfl zd_98 zx_98)
theorem zd_99 : z_db (zm_b zm_99) (zm_c zm_99) = true := by decide +kernel
theorem zx_99 : z_xb z_Ms z_kl zm_99 ((zm_c zm_99).zip [0, 2166, 0, 2175, 0, 2165, 3212, 3236, 0, 2165, 4091, 0, 0, 0, 0, 0, 0, 0, 0, 0, 0, 0, 2166, 0, 2175, 0, 4078, 4107, 0, 0, 0, 0, 0]) = true := by decide +kernel
theorem zo_99 : zMok z_Ms zm_99 := z_mok (by decide +kernel) (z_win 4 90 (w := .code (zm_y zm_99) (zm_b zm_99) (zm_L zm_99) (zm_r zm_99)) (by decide +kernel) rfl) (q := 1001) (by decide +kernel) (by decide +kernel) (by decide +kernel) (z_eok z_kl_ok rfl zd_99 zx_99)
theorem zd_100 : z_db (zm_b zm_100) (zm_c zm_100) = true := by decide +kernel
theorem zx_100 : z_xb z_Ms z_kl zm_100 ((zm_c zm_100).zip [0, 8019, 0, 0, 7229, 0, 0, 0, 7229, 0, 0, 0, 0, 8023, 0, 0, 0, 0, 0, 8023, 0, 0, 0, 0]) = true := by decide +kernel
theorem zo_100 : zMok z_Ms zm_100 := z_mok (by decide +kernel) (z_win 8 18 (w := .code (zm_y zm_100) (zm_b zm_100) (zm_L zm_100) (zm_r zm_100)) (by decide +kernel) rfl) (q := 1016) (by decide +kernel) (by decide +kernel) (by decide +kernel) (z_eok z_kl_ok rfl zd_100 zx_100)
theorem zd_101 : z_db (zm_b zm_101) (zm_c zm_101) = true := by decide +kernel
theorem zx_101 : z_xb z_Ms z_kl zm_101 ((zm_c zm_101).zip [0, 4038, 0, 0, 0, 0, 2166, 0, 2175, 0, 2165, 3212, 3236, 0, 2166, 0, 2175, 0, 4078, 0]) = true := by decide +kernel
theorem zo_101 : zMok z_Ms zm_101 := z_mok (by decide +kernel) (z_win 4 77 (w := .code (zm_y zm_101) (zm_b zm_101) (zm_L zm_101) (zm_r zm_101)) (by decide +kernel) rfl) (q := 1001) (by decide +kernel) (by decide +kernel) (by decide +kernel) (z_eok z_kl_ok rfl zd_101 zx_101)
theorem zd_102 : z_db (zm_b zm_102) (zm_c zm_102) = true := by decide +kernel
theorem zx_102 : z_xb z_Ms z_kl zm_102 ((zm_c zm_102).zip [0, 7210, 0, 0, 0, 7229, 0, 0, 0]) = true := by decide +kernel
theorem zo_102 : zMok z_Ms zm_102 := z_mok (by decide +kernel) (z_win 7 228 (w := .code (zm_y zm_102) (zm_b zm_102) (zm_L zm_102) (zm_r zm_102)) (by decide +kernel) rfl) (q := 1016) (by decide +kernel) (by decide +kernel) (by decide +kernel) (z_eok z_kl_ok rfl zd_102 zx_102)
theorem zd_103 : z_db (zm_b zm_103) (zm_c zm_103) = true := by decide +kernel
theorem zx_103 : z_xb z_Ms z_kl zm_103 ((zm_c zm_103).zip [0, 0, 0, 0, 2173, 0, 0, 0, 0, 0, 2173, 0, 0]) = true := by decide +kernel
theorem zo_103 : zMok z_Ms zm_103 := z_mok (by decide +kernel) (z_win 2 217 (w := .code (zm_y zm_103) (zm_b zm_103) (zm_L zm_103) (zm_r zm_103)) (by decide +kernel) rfl) (q := 1001) (by decide +kernel) (by decide +kernel) (by decide +kernel) (z_eok z_kl_ok rfl zd_103 zx_103)
theorem zd_104 : z_db (zm_b zm_104) (zm_c zm_104) = true := by decide +kernel
theorem zx_104 : z_xb z_Ms z_kl zm_104 ((zm_c zm_104).zip [0, 0, 0, 0, 6008, 0, 0, 0, 0, 0, 6008, 0, 0]) = true := by decide +kernel
theorem zo_104 : zMok z_Ms zm_104 := z_mok (by decide +kernel) (z_win 9 33 (w := .code (zm_y zm_104) (zm_b zm_104) (zm_L zm_104) (zm_r zm_104)) (by decide +kernel) rfl) (q := 1016) (by decide +kernel) (by decide +kernel) (by decide +kernel) (z_eok z_kl_ok rfl zd_104 zx_104)
theorem zd_105 : z_db (zm_b zm_105) (zm_c zm_105) = true := by decide +kernel
theorem zx_105 : z_xb z_Ms z_kl zm_105 ((zm_c zm_105).zip [0, 0, 0, 0, 0, 0, 2175, 2106, 0, 3185, 0]) = true := by decide +kernel
theorem zo_105 : zMok z_Ms zm_105 := z_mok (by decide +kernel) (z_win 5 96 (w := .code (zm_y zm_105) (zm_b zm_105) (zm_L zm_105) (zm_r zm_105)) (by decide +kernel) rfl) (q := 1001) (by decide +kernel) (by decide +kernel) (by decide +kernel) (z_eok z_kl_ok rfl zd_105 zx_105)
theorem zd_106 : z_db (zm_b zm_106) (zm_c zm_106) = true := by decide +kernel
theorem zx_106 : z_xb z_Ms z_kl zm_106 ((zm_c zm_106).zip [0, 0, 0, 6003, 0, 0, 7142, 0, 7146, 0]) = true := by decide +kernel
theorem zo_106 : zMok z_Ms zm_106 := z_mok (by decide +kernel) (z_win 8 187 (w := .code (zm_y zm_106) (zm_b zm_106) (zm_L zm_106) (zm_r zm_106)) (by decide +kernel) rfl) (q := 1016) (by decide +kernel) (by decide +kernel) (by decide +kernel) (z_eok z_kl_ok rfl zd_106 zx_106)
theorem zd_107 : z_db (zm_b zm_107) (zm_c zm_107) = true := by decide +kernel
theorem zx_107 : z_xb z_Ms z_kl zm_107 ((zm_c zm_107).zip [0, 0, 0, 2164, 1132, 0, 0, 0, 0, 0, 2164, 1134, 0, 0, 0]) = true := by decide +kernel
theorem zo_107 : zMok z_Ms zm_107 := z_mok (by decide +kernel) (z_win 3 176 (w := .code (zm_y zm_107) (zm_b zm_107) (zm_L zm_107) (zm_r zm_107)) (by decide +kernel) rfl) (q := 1001) (by decide +kernel) (by decide +kernel) (by decide +kernel) (z_eok z_kl_ok rfl zd_107 zx_107)
theorem zd_108 : z_db (zm_b zm_108) (zm_c zm_108) = true := by decide +kernel
theorem zx_108 : z_xb z_Ms z_kl zm_108 ((zm_c zm_108).zip [0, 0, 0, 6010, 0, 0, 0, 0, 0, 6011, 0, 0, 0]) = true := by decide +kernel
theorem zo_108 : zMok z_Ms zm_108 := z_mok (by decide +kernel) (z_win 7 133 (w := .code (zm_y zm_108) (zm_b zm_108) (zm_L zm_108) (zm_r zm_108)) (by decide +kernel) rfl) (q := 1016) (by decide +kernel) (by decide +kernel) (by decide +kernel) (z_eok z_kl_ok rfl zd_108 zx_108)
theorem zd_109 : z_db (zm_b zm_109) (zm_c zm_109) = true := by decide +kernel
theorem zx_109 : z_xb z_Ms z_kl zm_109 ((zm_c zm_109).zip [0, 2175, 0, 3199, 0, 0, 0]) = true := by decide +kernel
theorem zo_109 : zMok z_Ms zm_109 := z_mok (by decide +kernel) (z_win 5 138 (w := .code (zm_y zm_109) (zm_b zm_109) (zm_L zm_109) (zm_r zm_109)) (by decide +kernel) rfl) (q := 1001) (by decide +kernel) (by decide +kernel) (by decide +kernel) (z_eok z_kl_ok rfl zd_109 zx_109)
theorem zd_110 : z_db (zm_b zm_110) (zm_c zm_110) = true := by decide +kernel
theorem zx_110 : z_xb z_Ms z_kl zm_110 ((zm_c zm_110).zip [0, 0, 7159, 0, 0, 0]) = true := by decide +kernel
theorem zo_110 : zMok z_Ms zm_110 := z_mok (by decide +kernel) (z_win 8 151 (w := .code (zm_y zm_110) (zm_b zm_110) (zm_L zm_110) (zm_r zm_110)) (by decide +kernel) rfl) (q := 1016) (by decide +kernel) (by decide +kernel) (by decide +kernel) (z_eok z_kl_ok rfl zd_110 zx_110)
theorem zd_111 : z_db (zm_b zm_111) (zm_c zm_111) = true := by decide +kernel
theorem zx_111 : z_xb z_Ms z_kl zm_111 ((zm_c zm_111).zip [0, 2173, 0, 0, 0, 0, 2210, 0, 0, 2210, 0, 0, 2210, 0, 0, 2210, 0, 0, 2210, 0, 2173, 0]) = true := by decide +kernel
theorem zo_111 : zMok z_Ms zm_111 := z_mok (by decide +kernel) (z_win 2 209 (w := .code (zm_y zm_111) (zm_b zm_111) (zm_L zm_111) (zm_r zm_111)) (by decide +kernel) rfl) (q := 1001) (by decide +kernel) (by decide +kernel) (by decide +kernel) (z_eok z_kl_ok rfl zd_111 zx_111)
theorem zd_112 : z_db (zm_b zm_112) (zm_c zm_112) = true := by decide +kernel
theorem zx_112 : z_xb z_Ms z_kl zm_112 ((zm_c zm_112).zip [0, 6008, 0, 0, 0, 0, 0, 0, 0, 0, 0, 0, 0, 0, 0, 0, 0, 0, 0, 0, 0, 0, 0, 0, 0, 0, 0, 0, 0, 0, 0, 0, 0, 0, 6006, 0, 6008, 0, 0, 0, 0, 0, 0, 0, 0, 0, 0, 0, 0, 0, 0, 0, 0, 0, 6008, 0, 0, 6008, 0, 6008, 0]) = true := by decide +kernel
theorem zo_112 : zMok z_Ms zm_112 := z_mok (by decide +kernel) (z_win 9 29 (w := .code (zm_y zm_112) (zm_b zm_112) (zm_L zm_112) (zm_r zm_112)) (by decide +kernel) rfl) (q := 1016) (by decide +kernel) (by decide +kernel) (by decide +kernel) (z_eok z_kl_ok rfl zd_112 zx_112)
theorem zd_113 : z_db (zm_b zm_113) (zm_c zm_113) = true := by decide +kernel
theorem zx_113 : z_xb z_Ms z_kl zm_113 ((zm_c zm_113).zip [0, 2169, 0, 2175, 0, 5176, 0]) = true := by decide +kernel
theorem zo_113 : zMok z_Ms zm_113 := z_mok (by decide +kernel) (z_win 5 175 (w := .code (zm_y zm_113) (zm_b zm_113) (zm_L zm_113) (zm_r zm_113)) (by decide +kernel) rfl) (q := 1001) (by decide +kernel) (by decide +kernel) (by decide +kernel) (z_eok z_kl_ok rfl zd_113 zx_113)
theorem zd_114 : z_db (zm_b zm_114) (zm_c zm_114) = true := by decide +kernel
theorem zx_114 : z_xb z_Ms z_kl zm_114 ((zm_c zm_114).zip [0, 2175, 0, 3199, 0, 0, 0]) = true := by decide +kernel
theorem zo_114 : zMok z_Ms zm_114 := z_mok (by decide +kernel) (z_win 4 114 (w := .code (zm_y zm_114) (zm_b zm_114) (zm_L zm_114) (zm_r zm_114)) (by decide +kernel) rfl) (q := 1001) (by decide +kernel) (by decide +kernel) (by decide +kernel) (z_eok z_kl_ok rfl zd_114 zx_114)
theorem zd_115 : z_db (zm_b zm_115) (zm_c zm_115) = true := by decide +kernel
theorem zx_115 : z_xb z_Ms z_kl zm_115 ((zm_c zm_115).zip [0, 0, 7159, 0, 0, 0]) = true := by decide +kernel
theorem zo_115 : zMok z_Ms zm_115 := z_mok (by decide +kernel) (z_win 8 30 (w := .code (zm_y zm_115) (zm_b zm_115) (zm_L zm_115) (zm_r zm_115)) (by decide +kernel) rfl) (q := 1016) (by decide +kernel) (by decide +kernel) (by decide +kernel) (z_eok z_kl_ok rfl zd_115 zx_115)
theorem zd_116 : z_db (zm_b zm_116) (zm_c zm_116) = true := by decide +kernel
theorem zx_116 : z_xb z_Ms z_kl zm_116 ((zm_c zm_116).zip [0, 4038, 0, 0, 2169, 0, 0, 0, 5147, 0, 0, 0]) = true := by decide +kernel
theorem zo_116 : zMok z_Ms zm_116 := z_mok (by decide +kernel) (z_win 5 154 (w := .code (zm_y zm_116) (zm_b zm_116) (zm_L zm_116) (zm_r zm_116)) (by decide +kernel) rfl) (q := 1001) (by decide +kernel) (by decide +kernel) (by decide +kernel) (z_eok z_kl_ok rfl zd_116 zx_116)
theorem zd_117 : z_db (zm_b zm_117) (zm_c zm_117) = true := by decide +kernel
theorem zx_117 : z_xb z_Ms z_kl zm_117 ((zm_c zm_117).zip [0, 7210, 0, 0, 0, 0, 0, 8220, 0, 0, 0]) = true := by decide +kernel
theorem zo_117 : zMok z_Ms zm_117 := z_mok (by decide +kernel) (z_win 8 227 (w := .code (zm_y zm_117) (zm_b zm_117) (zm_L zm_117) (zm_r zm_117)) (by decide +kernel) rfl) (q := 1016) (by decide +kernel) (by decide +kernel) (by decide +kernel) (z_eok z_kl_ok rfl zd_117 zx_117)
theorem zd_118 : z_db (zm_b zm_118) (zm_c zm_118) = true := by decide +kernel
theorem zx_118 : z_xb z_Ms z_kl zm_118 ((zm_c zm_118).zip [0, 6072, 0, 0, 0, 6066, 0, 6072, 0, 0, 0, 6067, 0, 6072, 0, 0, 0, 6068, 0, 6072, 0, 0, 0, 0, 0, 0, 0, 6069, 0, 6072, 0, 6073, 0, 0, 6070, 0, 6072, 0, 0, 0, 0, 6072, 0, 0, 6072, 0, 6072, 0, 0, 0]) = true := by decide +kernel
theorem zo_118 : zMok z_Ms zm_118 := z_mok (by decide +kernel) (z_win 8 223 (w := .code (zm_y zm_118) (zm_b zm_118) (zm_L zm_118) (zm_r zm_118)) (by decide +kernel) rfl) (q := 1016) (by decide +kernel) (by decide +kernel) (by decide +kernel) (z_eok z_kl_ok rfl zd_118 zx_118)
theorem zd_119 : z_db (zm_b zm_119) (zm_c zm_119) = true := by decide +kernel
theorem zx_119 : z_xb z_Ms z_kl zm_119 ((zm_c zm_119).zip [0, 2175, 0, 3232, 0, 0, 0]) = true := by decide +kernel
theorem zo_119 : zMok z_Ms zm_119 := z_mok (by decide +kernel) (z_win 3 231 (w := .code (zm_y zm_119) (zm_b zm_119) (zm_L zm_119) (zm_r zm_119)) (by decide +kernel) rfl) (q := 1001) (by decide +kernel) (by decide +kernel) (by decide +kernel) (z_eok z_kl_ok rfl zd_119 zx_119)
