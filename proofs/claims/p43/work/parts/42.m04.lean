/-! methods 96 to 119 -/
theorem zd_96 : z_db (zm_b zm_96) (zm_c zm_96) = true := by decide +kernel
theorem zx_96 : z_xb z_Ms z_kl zm_96 ((zm_c zm_96).zip [0, 7210, 0, 0, 0, 0, 0, 8220, 0, 0, 0]) = true := by decide +kernel
theorem zo_96 : zMok z_Ms zm_96 := z_mok (by decide +kernel) (z_win 8 227 (w := .code (zm_y zm_96) (zm_b zm_96) (zm_L zm_96) (zm_r zm_96)) (by decide +kernel) rfl) (q := 1016) (by decide +kernel) (by decide +kernel) (by decide +kernel) (z_eok z_kl_ok rfl zd_96 zx_96)
theorem zd_97 : z_db (zm_b zm_97) (zm_c zm_97) = true := by decide +kernel
theorem zx_97 : z_xb z_Ms z_kl zm_97 ((zm_c zm_97).zip [0, 0, 7213, 0, 0, 0, 7213, 0, 0, 0, 0, 8051, 0, 0, 0, 8051, 0, 0, 0, 0, 0, 0, 6053, 0, 0, 0, 0, 0, 0, 0, 0, 6053, 0, 0, 0, 0, 0, 0, 6022, 0, 6045, 0, 0, 0, 0, 0, 0, 6053, 0, 0, 0, 0, 0, 0, 0]) = true := by decide +kernel
theorem zo_97 : zMok z_Ms zm_97 := z_mok (by decide +kernel) (z_win 8 50 (w := .code (zm_y zm_97) (zm_b zm_97) (zm_L zm_97) (zm_r zm_97)) (by decide +kernel) rfl) (q := 1016) (by decide +kernel) (by decide +kernel) (by decide +kernel) (z_eok z_kl_ok rfl zd_97 zx_97)
theorem zd_98 : z_db (zm_b zm_98) (zm_c zm_98) = true := by decide +kernel
theorem zx_98 : z_xb z_Ms z_kl zm_98 ((zm_c zm_98).zip [0, 0, 6013, 6012, 0, 6012, 0, 6009, 0, 0, 0, 6012, 6225, 0, 0, 0, 0, 6012, 6225, 0, 0, 0, 0, 6012, 0, 0, 6012, 0, 0, 0, 6012, 6225, 0, 0, 0, 6012, 0, 0, 6013, 0, 6012, 0, 6009, 0, 0, 0, 6014, 0, 0, 6009, 6012, 0, 0, 6009, 6013, 0, 0, 6229, 0, 0, 0, 6013, 6225, 6229, 0, 0, 0, 6013, 0, 0, 6013, 0, 0, 0, 6016, 0, 6012, 0, 0, 0, 6013, 0, 0, 0, 6012, 0, 0, 0, 0, 0, 6016, 0, 0, 0, 0, 6225, 0, 0, 6016, 0, 0, 0, 0, 6013, 0, 6012, 0, 0, 0, 0, 0, 0, 6016, 6232, 0, 0, 0, 0, 6014, 0, 0, 7016, 0, 0, 0, 6015, 0, 0, 6012, 6013, 0, 0, 6013, 6225, 7016, 0, 0, 6013, 0, 6012, 0, 0, 0, 0, 0, 0, 6015, 0, 0, 0, 6013, 6225, 0, 0, 0, 6015, 0, 0, 6013, 0, 0, 6013, 0, 0, 0, 6013, 0, 6012, 0, 0, 0, 0, 0, 6013, 6225, 6229, 0, 0, 0, 0, 6014, 0, 0, 0, 7019, 0, 0, 0, 0, 6014, 0]) = true := by decide +kernel
theorem zo_98 : zMok z_Ms zm_98 := z_mok (by decide +kernel) (z_win 6 224 (w := .code (zm_y zm_98) (zm_b zm_98) (zm_L zm_98) (zm_r zm_98)) (by decide +kernel) rfl) (q := 1016) (by decide +kernel) (by decide +kernel) (by decide +kernel) (z_eok z_kl_ok rfl zd_98 zx_98)
theorem zd_99 : z_db (zm_b zm_99) (zm_c zm_99) = true := by decide +kernel
theorem zx_99 : z_xb z_Ms z_kl zm_99 ((zm_c zm_99).zip [0, 6053, 0, 0, 0, 6053, 0, 0, 0, 0, 0, 0, 0, 0, 0, 6053, 0, 0, 0, 0, 0, 6021, 0, 6045, 0, 0, 0, 0, 0, 0, 0, 0, 8047, 0, 0]) = true := by decide +kernel
theorem zo_99 : zMok z_Ms zm_99 := z_mok (by decide +kernel) (z_win 8 46 (w := .code (zm_y zm_99) (zm_b zm_99) (zm_L zm_99) (zm_r zm_99)) (by decide +kernel) rfl) (q := 1016) (by decide +kernel) (by decide +kernel) (by decide +kernel) (z_eok z_kl_ok rfl zd_99 zx_99)
theorem zd_100 : z_db (zm_b zm_100) (zm_c zm_100) = true := by decide +kernel
theorem zx_100 : z_xb z_Ms z_kl zm_100 ((zm_c zm_100).zip [0, 0, 0, 6019, 0, 6045, 0, 0, 0, 6003, 0, 0, 0, 0, 0, 0, 6029, 0, 0, 6045, 0, 0, 0, 0, 0, 0, 6030, 0, 0, 6045, 0, 0, 0, 0, 0, 0, 6031, 0, 0, 6045, 0, 0, 0, 0, 0, 0, 0, 7187, 0, 0, 0]) = true := by decide +kernel
theorem zo_100 : zMok z_Ms zm_100 := z_mok (by decide +kernel) (z_win 7 186 (w := .code (zm_y zm_100) (zm_b zm_100) (zm_L zm_100) (zm_r zm_100)) (by decide +kernel) rfl) (q := 1016) (by decide +kernel) (by decide +kernel) (by decide +kernel) (z_eok z_kl_ok rfl zd_100 zx_100)
theorem zd_101 : z_db (zm_b zm_101) (zm_c zm_101) = true := by decide +kernel
theorem zx_101 : z_xb z_Ms z_kl zm_101 ((zm_c zm_101).zip [0, 0, 0, 0, 0, 0, 0, 0, 0, 0, 0]) = true := by decide +kernel
theorem zo_101 : zMok z_Ms zm_101 := z_mok (by decide +kernel) (z_win 8 10 (w := .code (zm_y zm_101) (zm_b zm_101) (zm_L zm_101) (zm_r zm_101)) (by decide +kernel) rfl) (q := 1016) (by decide +kernel) (by decide +kernel) (by decide +kernel) (z_eok z_kl_ok rfl zd_101 zx_101)
theorem zd_102 : z_db (zm_b zm_102) (zm_c zm_102) = true := by decide +kernel
theorem zx_102 : z_xb z_Ms z_kl zm_102 ((zm_c zm_102).zip [0, 0, 0, 0, 0, 0, 6014, 0, 0, 0, 0, 0, 0, 0, 0, 6016, 0, 0, 0, 0, 0, 0, 0, 0]) = true := by decide +kernel
theorem zo_102 : zMok z_Ms zm_102 := z_mok (by decide +kernel) (z_win 7 57 (w := .code (zm_y zm_102) (zm_b zm_102) (zm_L zm_102) (zm_r zm_102)) (by decide +kernel) rfl) (q := 1016) (by decide +kernel) (by decide +kernel) (by decide +kernel) (z_eok z_kl_ok rfl zd_102 zx_102)
theorem zd_103 : z_db (zm_b zm_103) (zm_c zm_103) = true := by decide +kernel
theorem zx_103 : z_xb z_Ms z_kl zm_103 ((zm_c zm_103).zip [0, 6024, 0, 0, 6045, 0, 0, 0, 0, 0]) = true := by decide +kernel
theorem zo_103 : zMok z_Ms zm_103 := z_mok (by decide +kernel) (z_win 7 150 (w := .code (zm_y zm_103) (zm_b zm_103) (zm_L zm_103) (zm_r zm_103)) (by decide +kernel) rfl) (q := 1016) (by decide +kernel) (by decide +kernel) (by decide +kernel) (z_eok z_kl_ok rfl zd_103 zx_103)
theorem zd_104 : z_db (zm_b zm_104) (zm_c zm_104) = true := by decide +kernel
theorem zx_104 : z_xb z_Ms z_kl zm_104 ((zm_c zm_104).zip [0, 7210, 0, 0, 8075, 0, 0, 0, 0, 8078, 0, 0, 0, 0, 0, 0, 0, 0, 0, 8047, 0, 6053, 0, 0, 0, 0, 0, 6059, 0, 0, 0, 0, 0, 0, 0, 0, 0, 0, 0, 0, 0, 0, 8082, 0, 0, 0]) = true := by decide +kernel
theorem zo_104 : zMok z_Ms zm_104 := z_mok (by decide +kernel) (z_win 8 93 (w := .code (zm_y zm_104) (zm_b zm_104) (zm_L zm_104) (zm_r zm_104)) (by decide +kernel) rfl) (q := 1016) (by decide +kernel) (by decide +kernel) (by decide +kernel) (z_eok z_kl_ok rfl zd_104 zx_104)
theorem zd_105 : z_db (zm_b zm_105) (zm_c zm_105) = true := by decide +kernel
theorem zx_105 : z_xb z_Ms z_kl zm_105 ((zm_c zm_105).zip [0, 0, 7138, 0, 0, 0, 7138, 0, 0, 8075, 0, 0, 0, 0, 0, 8200, 0, 0, 0, 0, 0, 8200, 0, 0, 0, 0, 0, 0, 0]) = true := by decide +kernel
theorem zo_105 : zMok z_Ms zm_105 := z_mok (by decide +kernel) (z_win 8 199 (w := .code (zm_y zm_105) (zm_b zm_105) (zm_L zm_105) (zm_r zm_105)) (by decide +kernel) rfl) (q := 1016) (by decide +kernel) (by decide +kernel) (by decide +kernel) (z_eok z_kl_ok rfl zd_105 zx_105)
theorem zd_106 : z_db (zm_b zm_106) (zm_c zm_106) = true := by decide +kernel
theorem zx_106 : z_xb z_Ms z_kl zm_106 ((zm_c zm_106).zip [0, 0, 0, 6003, 0, 0, 0, 0, 0, 0, 0, 0, 0, 6074, 0, 0, 0, 0, 0, 0, 6053, 0, 0, 0, 0, 0, 0, 6075, 0, 0, 0, 0, 6053, 0, 0, 0]) = true := by decide +kernel
theorem zo_106 : zMok z_Ms zm_106 := z_mok (by decide +kernel) (z_win 9 17 (w := .code (zm_y zm_106) (zm_b zm_106) (zm_L zm_106) (zm_r zm_106)) (by decide +kernel) rfl) (q := 1016) (by decide +kernel) (by decide +kernel) (by decide +kernel) (z_eok z_kl_ok rfl zd_106 zx_106)
theorem zd_107 : z_db (zm_b zm_107) (zm_c zm_107) = true := by decide +kernel
theorem zx_107 : z_xb z_Ms z_kl zm_107 ((zm_c zm_107).zip [0, 0, 0, 0, 0, 0, 0, 0, 0]) = true := by decide +kernel
theorem zo_107 : zMok z_Ms zm_107 := z_mok (by decide +kernel) (z_win 8 77 (w := .code (zm_y zm_107) (zm_b zm_107) (zm_L zm_107) (zm_r zm_107)) (by decide +kernel) rfl) (q := 1016) (by decide +kernel) (by decide +kernel) (by decide +kernel) (z_eok z_kl_ok rfl zd_107 zx_107)
theorem zd_108 : z_db (zm_b zm_108) (zm_c zm_108) = true := by decide +kernel
theorem zx_108 : z_xb z_Ms z_kl zm_108 ((zm_c zm_108).zip [0, 6049, 0, 0, 0, 0, 6042, 0, 0, 0, 0, 0, 6042, 0, 0, 0, 0, 0, 0, 0, 6042, 0, 0, 0, 0, 0, 0, 0, 0]) = true := by decide +kernel
theorem zo_108 : zMok z_Ms zm_108 := z_mok (by decide +kernel) (z_win 7 129 (w := .code (zm_y zm_108) (zm_b zm_108) (zm_L zm_108) (zm_r zm_108)) (by decide +kernel) rfl) (q := 1016) (by decide +kernel) (by decide +kernel) (by decide +kernel) (z_eok z_kl_ok rfl zd_108 zx_108)
theorem zd_109 : z_db (zm_b zm_109) (zm_c zm_109) = true := by decide +kernel
theorem zx_109 : z_xb z_Ms z_kl zm_109 ((zm_c zm_109).zip [0, 0, 0, 7142, 0, 0, 6003, 0]) = true := by decide +kernel
theorem zo_109 : zMok z_Ms zm_109 := z_mok (by decide +kernel) (z_win 7 141 (w := .code (zm_y zm_109) (zm_b zm_109) (zm_L zm_109) (zm_r zm_109)) (by decide +kernel) rfl) (q := 1016) (by decide +kernel) (by decide +kernel) (by decide +kernel) (z_eok z_kl_ok rfl zd_109 zx_109)
theorem zd_110 : z_db (zm_b zm_110) (zm_c zm_110) = true := by decide +kernel
theorem zx_110 : z_xb z_Ms z_kl zm_110 ((zm_c zm_110).zip [0, 0, 0, 0, 0, 0, 0, 0, 0, 0]) = true := by decide +kernel
theorem zo_110 : zMok z_Ms zm_110 := z_mok (by decide +kernel) (z_win 7 18 (w := .code (zm_y zm_110) (zm_b zm_110) (zm_L zm_110) (zm_r zm_110)) (by decide +kernel) rfl) (q := 1016) (by decide +kernel) (by decide +kernel) (by decide +kernel) (z_eok z_kl_ok rfl zd_110 zx_110)
theorem zd_111 : z_db (zm_b zm_111) (zm_c zm_111) = true := by decide +kernel
theorem zx_111 : z_xb z_Ms z_kl zm_111 ((zm_c zm_111).zip [0, 6235, 7034, 0, 0, 6017, 0, 6046, 0, 0, 0, 0, 0, 0, 0, 0, 7000, 7034, 0, 0, 6018, 0, 6046, 0, 0, 0, 0, 0, 0, 0, 0, 7005, 7034, 0, 0, 6019, 0, 6046, 0, 0, 0, 0, 0, 0, 0, 0, 7008, 7034, 0, 0, 6034, 0, 6046, 0, 0, 0, 7009, 7034, 0, 0, 6035, 0, 6046, 0, 0, 0, 7010, 7034, 0, 0, 6036, 0, 6046, 0, 0, 0, 0, 0, 0]) = true := by decide +kernel
theorem zo_111 : zMok z_Ms zm_111 := z_mok (by decide +kernel) (z_win 7 33 (w := .code (zm_y zm_111) (zm_b zm_111) (zm_L zm_111) (zm_r zm_111)) (by decide +kernel) rfl) (q := 1016) (by decide +kernel) (by decide +kernel) (by decide +kernel) (z_eok z_kl_ok rfl zd_111 zx_111)
theorem zd_112 : z_db (zm_b zm_112) (zm_c zm_112) = true := by decide +kernel
theorem zx_112 : z_xb z_Ms z_kl zm_112 ((zm_c zm_112).zip [0, 6010, 0, 0, 0, 0, 0]) = true := by decide +kernel
theorem zo_112 : zMok z_Ms zm_112 := z_mok (by decide +kernel) (z_win 7 25 (w := .code (zm_y zm_112) (zm_b zm_112) (zm_L zm_112) (zm_r zm_112)) (by decide +kernel) rfl) (q := 1016) (by decide +kernel) (by decide +kernel) (by decide +kernel) (z_eok z_kl_ok rfl zd_112 zx_112)
theorem zd_113 : z_db (zm_b zm_113) (zm_c zm_113) = true := by decide +kernel
theorem zx_113 : z_xb z_Ms z_kl zm_113 ((zm_c zm_113).zip [0, 0, 0, 0, 0, 0, 0, 0, 0, 0]) = true := by decide +kernel
theorem zo_113 : zMok z_Ms zm_113 := z_mok (by decide +kernel) (z_win 6 5 (w := .code (zm_y zm_113) (zm_b zm_113) (zm_L zm_113) (zm_r zm_113)) (by decide +kernel) rfl) (q := 1016) (by decide +kernel) (by decide +kernel) (by decide +kernel) (z_eok z_kl_ok rfl zd_113 zx_113)
theorem zd_114 : z_db (zm_b zm_114) (zm_c zm_114) = true := by decide +kernel
theorem zx_114 : z_xb z_Ms z_kl zm_114 ((zm_c zm_114).zip [0, 6235, 0, 0, 0, 6236, 0, 0, 0, 6237, 0, 0, 0, 6238, 0, 0, 0, 6239, 0, 0, 0, 7000, 0, 0, 0, 7001, 0, 0, 0, 7002, 0, 0, 0, 7003, 0, 0, 0, 7004, 0, 0, 0, 7005, 0, 0, 0, 0, 0, 0, 0, 0, 0, 7006, 0, 0, 0, 7007, 0, 0, 0, 7008, 0, 0, 0, 7009, 0, 0, 0, 7010, 0, 0, 0, 7011, 0, 0, 0, 7012, 0, 0, 0, 7013, 0, 0, 0, 7014, 0, 0, 0, 7015, 0, 0, 0, 0, 0, 0]) = true := by decide +kernel
theorem zo_114 : zMok z_Ms zm_114 := z_mok (by decide +kernel) (z_win 6 234 (w := .code (zm_y zm_114) (zm_b zm_114) (zm_L zm_114) (zm_r zm_114)) (by decide +kernel) rfl) (q := 1016) (by decide +kernel) (by decide +kernel) (by decide +kernel) (z_eok z_kl_ok rfl zd_114 zx_114)
theorem zd_115 : z_db (zm_b zm_115) (zm_c zm_115) = true := by decide +kernel
theorem zx_115 : z_xb z_Ms z_kl zm_115 ((zm_c zm_115).zip [0, 0, 0, 0, 0, 0, 0, 0, 0, 0]) = true := by decide +kernel
theorem zo_115 : zMok z_Ms zm_115 := z_mok (by decide +kernel) (z_win 6 231 (w := .code (zm_y zm_115) (zm_b zm_115) (zm_L zm_115) (zm_r zm_115)) (by decide +kernel) rfl) (q := 1016) (by decide +kernel) (by decide +kernel) (by decide +kernel) (z_eok z_kl_ok rfl zd_115 zx_115)
theorem zd_116 : z_db (zm_b zm_116) (zm_c zm_116) = true := by decide +kernel
theorem zx_116 : z_xb z_Ms z_kl zm_116 ((zm_c zm_116).zip [0, 0, 0, 7163, 0, 0, 6003, 0]) = true := by decide +kernel
theorem zo_116 : zMok z_Ms zm_116 := z_mok (by decide +kernel) (z_win 7 162 (w := .code (zm_y zm_116) (zm_b zm_116) (zm_L zm_116) (zm_r zm_116)) (by decide +kernel) rfl) (q := 1016) (by decide +kernel) (by decide +kernel) (by decide +kernel) (z_eok z_kl_ok rfl zd_116 zx_116)
theorem zd_117 : z_db (zm_b zm_117) (zm_c zm_117) = true := by decide +kernel
theorem zx_117 : z_xb z_Ms z_kl zm_117 ((zm_c zm_117).zip [0, 7210, 0, 0, 6053, 0, 0, 0, 0, 0, 0, 0, 0, 0]) = true := by decide +kernel
theorem zo_117 : zMok z_Ms zm_117 := z_mok (by decide +kernel) (z_win 8 38 (w := .code (zm_y zm_117) (zm_b zm_117) (zm_L zm_117) (zm_r zm_117)) (by decide +kernel) rfl) (q := 1016) (by decide +kernel) (by decide +kernel) (by decide +kernel) (z_eok z_kl_ok rfl zd_117 zx_117)
theorem zd_118 : z_db (zm_b zm_118) (zm_c zm_118) = true := by decide +kernel
theorem zx_118 : z_xb z_Ms z_kl zm_118 ((zm_c zm_118).zip [0, 0, 0, 0, 0, 0, 0, 0, 0, 0, 0, 0, 0, 0, 0, 0, 0, 0, 0, 0, 0, 0, 0, 0, 0, 0, 0, 0, 0, 0, 0, 0, 0, 0, 0, 0, 0]) = true := by decide +kernel
theorem zo_118 : zMok z_Ms zm_118 := z_mok (by decide +kernel) (z_win 7 21 (w := .code (zm_y zm_118) (zm_b zm_118) (zm_L zm_118) (zm_r zm_118)) (by decide +kernel) rfl) (q := 1016) (by decide +kernel) (by decide +kernel) (by decide +kernel) (z_eok z_kl_ok rfl zd_118 zx_118)
theorem zd_119 : z_db (zm_b zm_119) (zm_c zm_119) = true := by decide +kernel
theorem zx_119 : z_xb z_Ms z_kl zm_119 ((zm_c zm_119).zip [0, 6014, 0, 0, 0, 0, 6012, 6225, 0, 0, 0, 0, 0, 0]) = true := by decide +kernel
theorem zo_119 : zMok z_Ms zm_119 := z_mok (by decide +kernel) (z_win 7 109 (w := .code (zm_y zm_119) (zm_b zm_119) (zm_L zm_119) (zm_r zm_119)) (by decide +kernel) rfl) (q := 1016) (by decide +kernel) (by decide +kernel) (by decide +kernel) (z_eok z_kl_ok rfl zd_119 zx_119)
