/-! methods 120 to 143 -/
theorem zd_120 : z_db (zm_b zm_120) (zm_c zm_120) = true := by decide +kernel
theorem zx_120 : z_xb z_Ms z_kl zm_120 ((zm_c zm_120).zip [0, 0, 0, 6003, 0]) = true := by decide +kernel
theorem zo_120 : zMok z_Ms zm_120 := z_mok (by decide +kernel) (z_win 7 212 (w := .code (zm_y zm_120) (zm_b zm_120) (zm_L zm_120) (zm_r zm_120)) (by decide +kernel) rfl) (q := 1016) (by decide +kernel) (by decide +kernel) (by decide +kernel) (z_eok z_kl_ok rfl zd_120 zx_120)
theorem zd_121 : z_db (zm_b zm_121) (zm_c zm_121) = true := by decide +kernel
theorem zx_121 : z_xb z_Ms z_kl zm_121 ((zm_c zm_121).zip [0, 6014, 0, 0, 0, 6016, 0, 0, 0, 0, 0, 0, 0]) = true := by decide +kernel
theorem zo_121 : zMok z_Ms zm_121 := z_mok (by decide +kernel) (z_win 7 37 (w := .code (zm_y zm_121) (zm_b zm_121) (zm_L zm_121) (zm_r zm_121)) (by decide +kernel) rfl) (q := 1016) (by decide +kernel) (by decide +kernel) (by decide +kernel) (z_eok z_kl_ok rfl zd_121 zx_121)
theorem zd_122 : z_db (zm_b zm_122) (zm_c zm_122) = true := by decide +kernel
theorem zx_122 : z_xb z_Ms z_kl zm_122 ((zm_c zm_122).zip [0, 6057, 0, 0, 0, 0, 0, 0, 0, 0, 6056, 0, 0, 6056, 0, 0, 0, 0, 0, 0, 0, 0, 0, 6057, 0, 0, 6057, 0, 0, 0, 0, 0, 0, 6056, 0, 0, 6057, 0, 0, 0, 0, 6053, 0, 0, 0, 0, 0, 0, 0, 6057, 0, 0, 6057, 0, 0, 6058, 0]) = true := by decide +kernel
theorem zo_122 : zMok z_Ms zm_122 := z_mok (by decide +kernel) (z_win 8 22 (w := .code (zm_y zm_122) (zm_b zm_122) (zm_L zm_122) (zm_r zm_122)) (by decide +kernel) rfl) (q := 1016) (by decide +kernel) (by decide +kernel) (by decide +kernel) (z_eok z_kl_ok rfl zd_122 zx_122)
theorem zd_123 : z_db (zm_b zm_123) (zm_c zm_123) = true := by decide +kernel
theorem zx_123 : z_xb z_Ms z_kl zm_123 ((zm_c zm_123).zip [0, 0, 0, 0, 0, 0, 6059, 0, 0, 6053, 0, 0, 0, 0, 0, 0]) = true := by decide +kernel
theorem zo_123 : zMok z_Ms zm_123 := z_mok (by decide +kernel) (z_win 8 81 (w := .code (zm_y zm_123) (zm_b zm_123) (zm_L zm_123) (zm_r zm_123)) (by decide +kernel) rfl) (q := 1016) (by decide +kernel) (by decide +kernel) (by decide +kernel) (z_eok z_kl_ok rfl zd_123 zx_123)
theorem zd_124 : z_db (zm_b zm_124) (zm_c zm_124) = true := by decide +kernel
theorem zx_124 : z_xb z_Ms z_kl zm_124 ((zm_c zm_124).zip [0, 0, 8204, 0, 0, 7146, 0, 0, 0, 0, 0, 0, 7151, 0, 0, 0, 0, 8204, 0, 8208, 0, 0, 0, 0, 0, 0, 0, 0, 0, 0, 7147, 0, 0, 7151, 0, 0, 0, 0, 0, 0, 0]) = true := by decide +kernel
theorem zo_124 : zMok z_Ms zm_124 := z_mok (by decide +kernel) (z_win 8 203 (w := .code (zm_y zm_124) (zm_b zm_124) (zm_L zm_124) (zm_r zm_124)) (by decide +kernel) rfl) (q := 1016) (by decide +kernel) (by decide +kernel) (by decide +kernel) (z_eok z_kl_ok rfl zd_124 zx_124)
theorem zd_125 : z_db (zm_b zm_125) (zm_c zm_125) = true := by decide +kernel
theorem zx_125 : z_xb z_Ms z_kl zm_125 ((zm_c zm_125).zip [0, 6017, 0, 6045, 0, 0]) = true := by decide +kernel
theorem zo_125 : zMok z_Ms zm_125 := z_mok (by decide +kernel) (z_win 7 145 (w := .code (zm_y zm_125) (zm_b zm_125) (zm_L zm_125) (zm_r zm_125)) (by decide +kernel) rfl) (q := 1016) (by decide +kernel) (by decide +kernel) (by decide +kernel) (z_eok z_kl_ok rfl zd_125 zx_125)
theorem zd_126 : z_db (zm_b zm_126) (zm_c zm_126) = true := by decide +kernel
theorem zx_126 : z_xb z_Ms z_kl zm_126 ((zm_c zm_126).zip [0, 7022, 0, 0, 0, 0, 6014, 0, 0, 0, 7038, 0, 0, 0, 0, 0, 0, 6012, 7042, 0, 0, 6221, 0, 0, 0, 0, 0, 0]) = true := by decide +kernel
theorem zo_126 : zMok z_Ms zm_126 := z_mok (by decide +kernel) (z_win 7 85 (w := .code (zm_y zm_126) (zm_b zm_126) (zm_L zm_126) (zm_r zm_126)) (by decide +kernel) rfl) (q := 1016) (by decide +kernel) (by decide +kernel) (by decide +kernel) (z_eok z_kl_ok rfl zd_126 zx_126)
theorem zd_127 : z_db (zm_b zm_127) (zm_c zm_127) = true := by decide +kernel
theorem zx_127 : z_xb z_Ms z_kl zm_127 ((zm_c zm_127).zip [0, 0, 0, 6003, 0, 0, 6073, 0, 0, 8236, 0, 0, 0, 0, 0, 6073, 0, 0, 6073, 0, 6073, 0]) = true := by decide +kernel
theorem zo_127 : zMok z_Ms zm_127 := z_mok (by decide +kernel) (z_win 8 235 (w := .code (zm_y zm_127) (zm_b zm_127) (zm_L zm_127) (zm_r zm_127)) (by decide +kernel) rfl) (q := 1016) (by decide +kernel) (by decide +kernel) (by decide +kernel) (z_eok z_kl_ok rfl zd_127 zx_127)
theorem zd_128 : z_db (zm_b zm_128) (zm_c zm_128) = true := by decide +kernel
theorem zx_128 : z_xb z_Ms z_kl zm_128 ((zm_c zm_128).zip [0, 0, 0, 0, 0, 0, 6055, 0, 0, 0, 0, 0, 0, 0, 0, 0, 6019, 0, 6045, 0, 0, 0, 6054, 0, 0, 0, 7187, 0, 0, 6054, 0, 0, 0, 0, 6055, 0, 6054, 0, 0, 0, 0, 0, 6030, 0, 0, 6045, 0, 0, 0, 0, 0, 0, 0, 0, 0]) = true := by decide +kernel
theorem zo_128 : zMok z_Ms zm_128 := z_mok (by decide +kernel) (z_win 7 224 (w := .code (zm_y zm_128) (zm_b zm_128) (zm_L zm_128) (zm_r zm_128)) (by decide +kernel) rfl) (q := 1016) (by decide +kernel) (by decide +kernel) (by decide +kernel) (z_eok z_kl_ok rfl zd_128 zx_128)
theorem zd_129 : z_db (zm_b zm_129) (zm_c zm_129) = true := by decide +kernel
theorem zx_129 : z_xb z_Ms z_kl zm_129 ((zm_c zm_129).zip [0, 0, 0, 0, 0, 0, 7142, 0, 0, 0, 0, 0, 7151, 0, 0, 0, 0, 7151, 0, 0, 0, 0, 0]) = true := by decide +kernel
theorem zo_129 : zMok z_Ms zm_129 := z_mok (by decide +kernel) (z_win 8 211 (w := .code (zm_y zm_129) (zm_b zm_129) (zm_L zm_129) (zm_r zm_129)) (by decide +kernel) rfl) (q := 1016) (by decide +kernel) (by decide +kernel) (by decide +kernel) (z_eok z_kl_ok rfl zd_129 zx_129)
theorem zd_130 : z_db (zm_b zm_130) (zm_c zm_130) = true := by decide +kernel
theorem zx_130 : z_xb z_Ms z_kl zm_130 ((zm_c zm_130).zip [0, 0, 7147, 0, 0, 7151, 0, 0, 0, 0, 7147, 0, 0, 7151, 0, 0, 0, 0, 0, 0, 0, 0, 0]) = true := by decide +kernel
theorem zo_130 : zMok z_Ms zm_130 := z_mok (by decide +kernel) (z_win 8 191 (w := .code (zm_y zm_130) (zm_b zm_130) (zm_L zm_130) (zm_r zm_130)) (by decide +kernel) rfl) (q := 1016) (by decide +kernel) (by decide +kernel) (by decide +kernel) (z_eok z_kl_ok rfl zd_130 zx_130)
theorem zd_131 : z_db (zm_b zm_131) (zm_c zm_131) = true := by decide +kernel
theorem zx_131 : z_xb z_Ms z_kl zm_131 ((zm_c zm_131).zip [0, 0, 0, 6061, 0, 0, 6003, 0, 0, 6060, 0, 0, 0, 0, 0]) = true := by decide +kernel
theorem zo_131 : zMok z_Ms zm_131 := z_mok (by decide +kernel) (z_win 8 70 (w := .code (zm_y zm_131) (zm_b zm_131) (zm_L zm_131) (zm_r zm_131)) (by decide +kernel) rfl) (q := 1016) (by decide +kernel) (by decide +kernel) (by decide +kernel) (z_eok z_kl_ok rfl zd_131 zx_131)
theorem zd_132 : z_db (zm_b zm_132) (zm_c zm_132) = true := by decide +kernel
theorem zx_132 : z_xb z_Ms z_kl zm_132 ((zm_c zm_132).zip [0, 7210, 0, 0, 0, 0, 6003, 0, 0, 0, 0, 0, 7229, 0, 0, 0, 0, 0, 0, 0, 0, 7233, 0, 0, 0, 0, 0, 0, 0, 0, 6055, 0, 0, 0, 6055, 0, 0, 0, 0, 0, 0]) = true := by decide +kernel
theorem zo_132 : zMok z_Ms zm_132 := z_mok (by decide +kernel) (z_win 8 0 (w := .code (zm_y zm_132) (zm_b zm_132) (zm_L zm_132) (zm_r zm_132)) (by decide +kernel) rfl) (q := 1016) (by decide +kernel) (by decide +kernel) (by decide +kernel) (z_eok z_kl_ok rfl zd_132 zx_132)
theorem zd_133 : z_db (zm_b zm_133) (zm_c zm_133) = true := by decide +kernel
theorem zx_133 : z_xb z_Ms z_kl zm_133 ((zm_c zm_133).zip [0, 0, 0, 8116, 0, 0, 0, 0, 6003, 0, 7146, 0, 0, 0, 0, 8176, 0, 0, 0, 0, 6064, 0, 6065, 0, 0, 8120, 0, 0, 0, 0, 6064, 0, 8120, 0, 0, 0, 6065, 0, 0, 0, 0, 0, 0, 8109, 0, 0, 0, 0, 0, 0, 6065, 0, 0, 0]) = true := by decide +kernel
theorem zo_133 : zMok z_Ms zm_133 := z_mok (by decide +kernel) (z_win 8 183 (w := .code (zm_y zm_133) (zm_b zm_133) (zm_L zm_133) (zm_r zm_133)) (by decide +kernel) rfl) (q := 1016) (by decide +kernel) (by decide +kernel) (by decide +kernel) (z_eok z_kl_ok rfl zd_133 zx_133)
theorem zd_134 : z_db (zm_b zm_134) (zm_c zm_134) = true := by decide +kernel
theorem zx_134 : z_xb z_Ms z_kl zm_134 ((zm_c zm_134).zip [0, 0, 6014, 0, 0, 0, 0, 0, 0, 6012, 7042, 0]) = true := by decide +kernel
theorem zo_134 : zMok z_Ms zm_134 := z_mok (by decide +kernel) (z_win 7 41 (w := .code (zm_y zm_134) (zm_b zm_134) (zm_L zm_134) (zm_r zm_134)) (by decide +kernel) rfl) (q := 1016) (by decide +kernel) (by decide +kernel) (by decide +kernel) (z_eok z_kl_ok rfl zd_134 zx_134)
theorem zd_135 : z_db (zm_b zm_135) (zm_c zm_135) = true := by decide +kernel
theorem zx_135 : z_xb z_Ms z_kl zm_135 ((zm_c zm_135).zip [0, 0, 0, 0, 0, 0, 6071, 0, 0, 0, 0, 0, 0, 0, 0, 0, 0, 0, 7163, 0, 0, 0, 8008, 0, 0, 0, 0, 0, 7179, 0, 0, 6071, 0, 0, 0, 0, 0, 0, 0, 6071, 0, 0, 0, 0, 0, 6071, 0, 0, 0, 0, 0, 0, 0]) = true := by decide +kernel
theorem zo_135 : zMok z_Ms zm_135 := z_mok (by decide +kernel) (z_win 9 13 (w := .code (zm_y zm_135) (zm_b zm_135) (zm_L zm_135) (zm_r zm_135)) (by decide +kernel) rfl) (q := 1016) (by decide +kernel) (by decide +kernel) (by decide +kernel) (z_eok z_kl_ok rfl zd_135 zx_135)
theorem zd_136 : z_db (zm_b zm_136) (zm_c zm_136) = true := by decide +kernel
theorem zx_136 : z_xb z_Ms z_kl zm_136 ((zm_c zm_136).zip [7146, 0, 0, 0, 0, 0, 7142, 0, 0, 0, 0, 0, 0, 7147, 0, 0, 0, 0, 7147, 0, 0, 0, 0, 0]) = true := by decide +kernel
theorem zo_136 : zMok z_Ms zm_136 := z_mok (by decide +kernel) (z_win 8 207 (w := .code (zm_y zm_136) (zm_b zm_136) (zm_L zm_136) (zm_r zm_136)) (by decide +kernel) rfl) (q := 1016) (by decide +kernel) (by decide +kernel) (by decide +kernel) (z_eok z_kl_ok rfl zd_136 zx_136)
theorem zd_137 : z_db (zm_b zm_137) (zm_c zm_137) = true := by decide +kernel
theorem zx_137 : z_xb z_Ms z_kl zm_137 ((zm_c zm_137).zip [0, 0, 0, 0, 0, 0, 7163, 0, 0, 0, 7167, 0, 0, 0, 0, 0, 0, 0, 0, 6055, 0, 0, 0, 6055, 0, 0, 0, 0, 0, 0, 0, 0, 0]) = true := by decide +kernel
theorem zo_137 : zMok z_Ms zm_137 := z_mok (by decide +kernel) (z_win 7 236 (w := .code (zm_y zm_137) (zm_b zm_137) (zm_L zm_137) (zm_r zm_137)) (by decide +kernel) rfl) (q := 1016) (by decide +kernel) (by decide +kernel) (by decide +kernel) (z_eok z_kl_ok rfl zd_137 zx_137)
theorem zd_138 : z_db (zm_b zm_138) (zm_c zm_138) = true := by decide +kernel
theorem zx_138 : z_xb z_Ms z_kl zm_138 ((zm_c zm_138).zip [0, 6029, 0, 0, 6045, 0, 0, 0, 0, 0, 0, 7167, 0, 0, 6054, 0, 0, 0, 0, 0, 0, 0, 6055, 0, 6054, 0, 0, 0, 0, 0, 6030, 0, 0, 6045, 0, 0, 0, 0, 0, 0, 0, 6055, 0, 0, 0, 0, 6030, 0, 0, 6045, 0, 0, 0, 0, 0, 0, 0, 0]) = true := by decide +kernel
theorem zo_138 : zMok z_Ms zm_138 := z_mok (by decide +kernel) (z_win 8 14 (w := .code (zm_y zm_138) (zm_b zm_138) (zm_L zm_138) (zm_r zm_138)) (by decide +kernel) rfl) (q := 1016) (by decide +kernel) (by decide +kernel) (by decide +kernel) (z_eok z_kl_ok rfl zd_138 zx_138)
theorem zd_139 : z_db (zm_b zm_139) (zm_c zm_139) = true := by decide +kernel
theorem zx_139 : z_xb z_Ms z_kl zm_139 ((zm_c zm_139).zip [0, 7022, 0, 0, 0, 0, 0, 6221, 0, 0, 7038, 0]) = true := by decide +kernel
theorem zo_139 : zMok z_Ms zm_139 := z_mok (by decide +kernel) (z_win 7 65 (w := .code (zm_y zm_139) (zm_b zm_139) (zm_L zm_139) (zm_r zm_139)) (by decide +kernel) rfl) (q := 1016) (by decide +kernel) (by decide +kernel) (by decide +kernel) (z_eok z_kl_ok rfl zd_139 zx_139)
theorem zd_140 : z_db (zm_b zm_140) (zm_c zm_140) = true := by decide +kernel
theorem zx_140 : z_xb z_Ms z_kl zm_140 ((zm_c zm_140).zip [0, 0, 0, 0, 0, 0, 0, 0, 0, 0, 0, 0, 0, 0, 0, 0, 7179, 0, 0, 0, 0, 0, 0, 7179, 0, 0, 0, 0]) = true := by decide +kernel
theorem zo_140 : zMok z_Ms zm_140 := z_mok (by decide +kernel) (z_win 8 127 (w := .code (zm_y zm_140) (zm_b zm_140) (zm_L zm_140) (zm_r zm_140)) (by decide +kernel) rfl) (q := 1016) (by decide +kernel) (by decide +kernel) (by decide +kernel) (z_eok z_kl_ok rfl zd_140 zx_140)
theorem zd_141 : z_db (zm_b zm_141) (zm_c zm_141) = true := by decide +kernel
theorem zx_141 : z_xb z_Ms z_kl zm_141 ((zm_c zm_141).zip [0, 7022, 0, 0, 0, 0, 6014, 0, 0, 0, 7038, 0, 7022, 0, 0, 6015, 0, 0, 0, 6015, 0, 0, 0, 0, 0, 6012, 7042, 0, 6015, 0, 0, 7022, 0, 0, 6221, 0, 7022, 0, 0, 0, 0, 0]) = true := by decide +kernel
theorem zo_141 : zMok z_Ms zm_141 := z_mok (by decide +kernel) (z_win 7 73 (w := .code (zm_y zm_141) (zm_b zm_141) (zm_L zm_141) (zm_r zm_141)) (by decide +kernel) rfl) (q := 1016) (by decide +kernel) (by decide +kernel) (by decide +kernel) (z_eok z_kl_ok rfl zd_141 zx_141)
theorem zd_142 : z_db (zm_b zm_142) (zm_c zm_142) = true := by decide +kernel
theorem zx_142 : z_xb z_Ms z_kl zm_142 ((zm_c zm_142).zip [0, 0, 0, 6003, 0, 0, 0, 0, 6003, 0, 0, 0, 0, 0, 6021, 0, 6045, 0, 0, 0, 8098, 0, 0, 0, 8098, 0, 0, 0, 0, 0, 0, 0, 0, 8109, 0, 0]) = true := by decide +kernel
theorem zo_142 : zMok z_Ms zm_142 := z_mok (by decide +kernel) (z_win 8 108 (w := .code (zm_y zm_142) (zm_b zm_142) (zm_L zm_142) (zm_r zm_142)) (by decide +kernel) rfl) (q := 1016) (by decide +kernel) (by decide +kernel) (by decide +kernel) (z_eok z_kl_ok rfl zd_142 zx_142)
theorem zd_143 : z_db (zm_b zm_143) (zm_c zm_143) = true := by decide +kernel
theorem zx_143 : z_xb z_Ms z_kl zm_143 ((zm_c zm_143).zip [0, 0, 0, 8116, 0, 0, 8075, 0, 0, 0, 0, 6003, 0, 0, 0, 0, 0, 0, 8120, 0, 7146, 0]) = true := by decide +kernel
theorem zo_143 : zMok z_Ms zm_143 := z_mok (by decide +kernel) (z_win 8 115 (w := .code (zm_y zm_143) (zm_b zm_143) (zm_L zm_143) (zm_r zm_143)) (by decide +kernel) rfl) (q := 1016) (by decide +kernel) (by decide +kernel) (by decide +kernel) (z_eok z_kl_ok rfl zd_143 zx_143)
