/-! methods 144 to 167 -/
theorem zd_144 : z_db (zm_b zm_144) (zm_c zm_144) = true := by decide +kernel
theorem zx_144 : z_xb z_Ms z_kl zm_144 ((zm_c zm_144).zip [0, 0, 6061, 0, 0, 8035, 0, 7146, 0]) = true := by decide +kernel
theorem zo_144 : zMok z_Ms zm_144 := z_mok (by decide +kernel) (z_win 8 97 (w := .code (zm_y zm_144) (zm_b zm_144) (zm_L zm_144) (zm_r zm_144)) (by decide +kernel) rfl) (q := 1016) (by decide +kernel) (by decide +kernel) (by decide +kernel) (z_eok z_kl_ok rfl zd_144 zx_144)
theorem zd_145 : z_db (zm_b zm_145) (zm_c zm_145) = true := by decide +kernel
theorem zx_145 : z_xb z_Ms z_kl zm_145 ((zm_c zm_145).zip [0, 2165, 4151, 0]) = true := by decide +kernel
theorem zo_145 : zMok z_Ms zm_145 := z_mok (by decide +kernel) (z_win 4 150 (w := .code (zm_y zm_145) (zm_b zm_145) (zm_L zm_145) (zm_r zm_145)) (by decide +kernel) rfl) (q := 1001) (by decide +kernel) (by decide +kernel) (by decide +kernel) (z_eok z_kl_ok rfl zd_145 zx_145)
theorem zd_146 : z_db (zm_b zm_146) (zm_c zm_146) = true := by decide +kernel
theorem zx_146 : z_xb z_Ms z_kl zm_146 ((zm_c zm_146).zip [0, 1181, 0, 1182, 0, 0, 0]) = true := by decide +kernel
theorem zo_146 : zMok z_Ms zm_146 := z_mok (by decide +kernel) (z_win 4 154 (w := .code (zm_y zm_146) (zm_b zm_146) (zm_L zm_146) (zm_r zm_146)) (by decide +kernel) rfl) (q := 1008) (by decide +kernel) (by decide +kernel) (by decide +kernel) (z_eok z_kl_ok rfl zd_146 zx_146)
theorem zd_147 : z_db (zm_b zm_147) (zm_c zm_147) = true := by decide +kernel
theorem zx_147 : z_xb z_Ms z_kl zm_147 ((zm_c zm_147).zip [0, 6058, 0, 0, 0]) = true := by decide +kernel
theorem zo_147 : zMok z_Ms zm_147 := z_mok (by decide +kernel) (z_win 8 66 (w := .code (zm_y zm_147) (zm_b zm_147) (zm_L zm_147) (zm_r zm_147)) (by decide +kernel) rfl) (q := 1016) (by decide +kernel) (by decide +kernel) (by decide +kernel) (z_eok z_kl_ok rfl zd_147 zx_147)
theorem zd_148 : z_db (zm_b zm_148) (zm_c zm_148) = true := by decide +kernel
theorem zx_148 : z_xb z_Ms z_kl zm_148 ((zm_c zm_148).zip [0, 0, 2174, 0, 5012, 0, 0, 0, 0, 2168, 0, 2175, 0, 5046, 0, 0, 0, 0, 0, 0, 2175, 2110, 0, 0, 0]) = true := by decide +kernel
theorem zo_148 : zMok z_Ms zm_148 := z_mok (by decide +kernel) (z_win 5 45 (w := .code (zm_y zm_148) (zm_b zm_148) (zm_L zm_148) (zm_r zm_148)) (by decide +kernel) rfl) (q := 1001) (by decide +kernel) (by decide +kernel) (by decide +kernel) (z_eok z_kl_ok rfl zd_148 zx_148)
theorem zd_149 : z_db (zm_b zm_149) (zm_c zm_149) = true := by decide +kernel
theorem zx_149 : z_xb z_Ms z_kl zm_149 ((zm_c zm_149).zip [0, 0, 6061, 0, 0, 0, 6003, 0, 0, 0, 0, 0, 0, 0, 0, 0, 7163, 0, 0, 0]) = true := by decide +kernel
theorem zo_149 : zMok z_Ms zm_149 := z_mok (by decide +kernel) (z_win 8 163 (w := .code (zm_y zm_149) (zm_b zm_149) (zm_L zm_149) (zm_r zm_149)) (by decide +kernel) rfl) (q := 1016) (by decide +kernel) (by decide +kernel) (by decide +kernel) (z_eok z_kl_ok rfl zd_149 zx_149)
theorem zd_150 : z_db (zm_b zm_150) (zm_c zm_150) = true := by decide +kernel
theorem zx_150 : z_xb z_Ms z_kl zm_150 ((zm_c zm_150).zip [0, 2164, 0, 2163, 0, 2173, 0, 2176, 2222, 0, 0, 2175, 0, 0, 0, 2176, 2175, 0, 0, 2176, 0, 0, 2173, 0, 0, 2174, 0, 2165, 0, 2175, 2128, 3164, 0, 2169, 3169, 0, 0, 0, 0, 2171, 0, 0, 0, 2171, 0, 0, 0, 0, 0, 0, 2175, 2110, 0]) = true := by decide +kernel
theorem zo_150 : zMok z_Ms zm_150 := z_mok (by decide +kernel) (z_win 2 221 (w := .code (zm_y zm_150) (zm_b zm_150) (zm_L zm_150) (zm_r zm_150)) (by decide +kernel) rfl) (q := 1001) (by decide +kernel) (by decide +kernel) (by decide +kernel) (z_eok z_kl_ok rfl zd_150 zx_150)
theorem zd_151 : z_db (zm_b zm_151) (zm_c zm_151) = true := by decide +kernel
theorem zx_151 : z_xb z_Ms z_kl zm_151 ((zm_c zm_151).zip [0, 0, 0, 2226, 0, 3067, 0, 0, 0, 0, 0, 0, 0, 0, 0, 0, 1122, 1097, 0, 0, 0]) = true := by decide +kernel
theorem zo_151 : zMok z_Ms zm_151 := z_mok (by decide +kernel) (z_win 2 225 (w := .code (zm_y zm_151) (zm_b zm_151) (zm_L zm_151) (zm_r zm_151)) (by decide +kernel) rfl) (q := 1002) (by decide +kernel) (by decide +kernel) (by decide +kernel) (z_eok z_kl_ok rfl zd_151 zx_151)
theorem zd_152 : z_db (zm_b zm_152) (zm_c zm_152) = true := by decide +kernel
theorem zx_152 : z_xb z_Ms z_kl zm_152 ((zm_c zm_152).zip [0, 0, 1131, 0, 0, 1133, 0, 0, 1126, 0, 0, 1127, 0, 0, 1128, 0, 1122, 0, 0, 2230, 0]) = true := by decide +kernel
theorem zo_152 : zMok z_Ms zm_152 := z_mok (by decide +kernel) (z_win 2 229 (w := .code (zm_y zm_152) (zm_b zm_152) (zm_L zm_152) (zm_r zm_152)) (by decide +kernel) rfl) (q := 1002) (by decide +kernel) (by decide +kernel) (by decide +kernel) (z_eok z_kl_ok rfl zd_152 zx_152)
theorem zd_153 : z_db (zm_b zm_153) (zm_c zm_153) = true := by decide +kernel
theorem zx_153 : z_xb z_Ms z_kl zm_153 ((zm_c zm_153).zip [0, 0, 1092, 0, 0, 0, 0, 0, 0, 2234, 1093, 0, 0, 1094, 0, 2237, 0]) = true := by decide +kernel
theorem zo_153 : zMok z_Ms zm_153 := z_mok (by decide +kernel) (z_win 2 233 (w := .code (zm_y zm_153) (zm_b zm_153) (zm_L zm_153) (zm_r zm_153)) (by decide +kernel) rfl) (q := 1003) (by decide +kernel) (by decide +kernel) (by decide +kernel) (z_eok z_kl_ok rfl zd_153 zx_153)
theorem zd_154 : z_db (zm_b zm_154) (zm_c zm_154) = true := by decide +kernel
theorem zx_154 : z_xb z_Ms z_kl zm_154 ((zm_c zm_154).zip [0, 1094, 0, 1093, 0, 0, 0, 1094, 1095, 0, 1094, 0, 1093, 0, 0, 0, 1098, 0]) = true := by decide +kernel
theorem zo_154 : zMok z_Ms zm_154 := z_mok (by decide +kernel) (z_win 3 0 (w := .code (zm_y zm_154) (zm_b zm_154) (zm_L zm_154) (zm_r zm_154)) (by decide +kernel) rfl) (q := 1003) (by decide +kernel) (by decide +kernel) (by decide +kernel) (z_eok z_kl_ok rfl zd_154 zx_154)
theorem zd_155 : z_db (zm_b zm_155) (zm_c zm_155) = true := by decide +kernel
theorem zx_155 : z_xb z_Ms z_kl zm_155 ((zm_c zm_155).zip [0, 2099, 3071, 0, 0, 2102, 0, 0, 2107, 0, 0, 2113, 0, 0, 2117, 0, 0, 2120, 0, 0, 2124, 0, 0, 2127, 0]) = true := by decide +kernel
theorem zo_155 : zMok z_Ms zm_155 := z_mok (by decide +kernel) (z_win 3 70 (w := .code (zm_y zm_155) (zm_b zm_155) (zm_L zm_155) (zm_r zm_155)) (by decide +kernel) rfl) (q := 1014) (by decide +kernel) (by decide +kernel) (by decide +kernel) (z_eok z_kl_ok rfl zd_155 zx_155)
theorem zd_156 : z_db (zm_b zm_156) (zm_c zm_156) = true := by decide +kernel
theorem zx_156 : z_xb z_Ms z_kl zm_156 ((zm_c zm_156).zip [0, 0, 2062, 0]) = true := by decide +kernel
theorem zo_156 : zMok z_Ms zm_156 := z_mok (by decide +kernel) (z_win 3 74 (w := .code (zm_y zm_156) (zm_b zm_156) (zm_L zm_156) (zm_r zm_156)) (by decide +kernel) rfl) (q := 1015) (by decide +kernel) (by decide +kernel) (by decide +kernel) (z_eok z_kl_ok rfl zd_156 zx_156)
theorem zd_157 : z_db (zm_b zm_157) (zm_c zm_157) = true := by decide +kernel
theorem zx_157 : z_xb z_Ms z_kl zm_157 ((zm_c zm_157).zip [0, 0, 1181, 0, 0, 1182, 0, 1180, 0, 0, 0, 3168, 0]) = true := by decide +kernel
theorem zo_157 : zMok z_Ms zm_157 := z_mok (by decide +kernel) (z_win 3 167 (w := .code (zm_y zm_157) (zm_b zm_157) (zm_L zm_157) (zm_r zm_157)) (by decide +kernel) rfl) (q := 1008) (by decide +kernel) (by decide +kernel) (by decide +kernel) (z_eok z_kl_ok rfl zd_157 zx_157)
theorem zd_158 : z_db (zm_b zm_158) (zm_c zm_158) = true := by decide +kernel
theorem zx_158 : z_xb z_Ms z_kl zm_158 ((zm_c zm_158).zip [0, 0, 2024, 0]) = true := by decide +kernel
theorem zo_158 : zMok z_Ms zm_158 := z_mok (by decide +kernel) (z_win 3 172 (w := .code (zm_y zm_158) (zm_b zm_158) (zm_L zm_158) (zm_r zm_158)) (by decide +kernel) rfl) (q := 1013) (by decide +kernel) (by decide +kernel) (by decide +kernel) (z_eok z_kl_ok rfl zd_158 zx_158)
theorem zd_159 : z_db (zm_b zm_159) (zm_c zm_159) = true := by decide +kernel
theorem zx_159 : z_xb z_Ms z_kl zm_159 ((zm_c zm_159).zip [0, 0, 6010, 0, 0, 6011, 0, 0, 6008, 6009, 0, 0, 0, 0, 6009, 0, 0, 0, 6008, 0, 0, 6013, 0, 0, 0, 6045, 0, 6046, 0, 5235, 0, 6221, 0, 7022, 0, 0, 6014, 0, 0, 7022, 0, 0, 0, 6046, 6045, 0, 5239, 0, 6018, 0, 6045, 0, 0]) = true := by decide +kernel
theorem zo_159 : zMok z_Ms zm_159 := z_mok (by decide +kernel) (z_win 6 220 (w := .code (zm_y zm_159) (zm_b zm_159) (zm_L zm_159) (zm_r zm_159)) (by decide +kernel) rfl) (q := 1016) (by decide +kernel) (by decide +kernel) (by decide +kernel) (z_eok z_kl_ok rfl zd_159 zx_159)
theorem zd_160 : z_db (zm_b zm_160) (zm_c zm_160) = true := by decide +kernel
theorem zx_160 : z_xb z_Ms z_kl zm_160 ((zm_c zm_160).zip [0, 0, 6013, 6012, 0, 6012, 0, 6009, 0, 0, 0, 6012, 6225, 0, 0, 0, 6012, 0, 0, 6013, 0, 6012, 0, 6009, 0, 0, 0, 6014, 0, 0, 6009, 6012, 0, 0, 6009, 6013, 0, 0]) = true := by decide +kernel
theorem zo_160 : zMok z_Ms zm_160 := z_mok (by decide +kernel) (z_win 6 224 (w := .code (zm_y zm_160) (zm_b zm_160) (zm_L zm_160) (zm_r zm_160)) (by decide +kernel) rfl) (q := 1016) (by decide +kernel) (by decide +kernel) (by decide +kernel) (z_eok z_kl_ok rfl zd_160 zx_160)
theorem zd_161 : z_db (zm_b zm_161) (zm_c zm_161) = true := by decide +kernel
theorem zx_161 : z_xb z_Ms z_kl zm_161 ((zm_c zm_161).zip [0, 0, 6009, 0, 0, 0]) = true := by decide +kernel
theorem zo_161 : zMok z_Ms zm_161 := z_mok (by decide +kernel) (z_win 6 228 (w := .code (zm_y zm_161) (zm_b zm_161) (zm_L zm_161) (zm_r zm_161)) (by decide +kernel) rfl) (q := 1016) (by decide +kernel) (by decide +kernel) (by decide +kernel) (z_eok z_kl_ok rfl zd_161 zx_161)
theorem zd_162 : z_db (zm_b zm_162) (zm_c zm_162) = true := by decide +kernel
theorem zx_162 : z_xb z_Ms z_kl zm_162 ((zm_c zm_162).zip [0, 2175, 0, 0, 4238, 0, 0, 0]) = true := by decide +kernel
theorem zo_162 : zMok z_Ms zm_162 := z_mok (by decide +kernel) (z_win 5 73 (w := .code (zm_y zm_162) (zm_b zm_162) (zm_L zm_162) (zm_r zm_162)) (by decide +kernel) rfl) (q := 1001) (by decide +kernel) (by decide +kernel) (by decide +kernel) (z_eok z_kl_ok rfl zd_162 zx_162)
theorem zd_163 : z_db (zm_b zm_163) (zm_c zm_163) = true := by decide +kernel
theorem zx_163 : z_xb z_Ms z_kl zm_163 ((zm_c zm_163).zip [0, 0, 0, 8116, 0, 0, 0]) = true := by decide +kernel
theorem zo_163 : zMok z_Ms zm_163 := z_mok (by decide +kernel) (z_win 8 175 (w := .code (zm_y zm_163) (zm_b zm_163) (zm_L zm_163) (zm_r zm_163)) (by decide +kernel) rfl) (q := 1016) (by decide +kernel) (by decide +kernel) (by decide +kernel) (z_eok z_kl_ok rfl zd_163 zx_163)
theorem zd_164 : z_db (zm_b zm_164) (zm_c zm_164) = true := by decide +kernel
theorem zx_164 : z_xb z_Ms z_kl zm_164 ((zm_c zm_164).zip [0, 4038, 0, 0, 2167, 0, 2175, 0, 2165, 3212, 0, 4175, 0, 0, 0]) = true := by decide +kernel
theorem zo_164 : zMok z_Ms zm_164 := z_mok (by decide +kernel) (z_win 4 174 (w := .code (zm_y zm_164) (zm_b zm_164) (zm_L zm_164) (zm_r zm_164)) (by decide +kernel) rfl) (q := 1001) (by decide +kernel) (by decide +kernel) (by decide +kernel) (z_eok z_kl_ok rfl zd_164 zx_164)
theorem zd_165 : z_db (zm_b zm_165) (zm_c zm_165) = true := by decide +kernel
theorem zx_165 : z_xb z_Ms z_kl zm_165 ((zm_c zm_165).zip [0, 7210, 0, 0, 0, 0, 8078, 0, 0, 0, 0, 0, 0, 0, 0, 6053, 0, 0, 0, 0, 0, 0, 8043, 0, 0, 0, 0, 6053, 0, 0, 0, 0, 0, 0, 0, 0, 8082, 0, 0, 0, 0]) = true := by decide +kernel
theorem zo_165 : zMok z_Ms zm_165 := z_mok (by decide +kernel) (z_win 8 89 (w := .code (zm_y zm_165) (zm_b zm_165) (zm_L zm_165) (zm_r zm_165)) (by decide +kernel) rfl) (q := 1016) (by decide +kernel) (by decide +kernel) (by decide +kernel) (z_eok z_kl_ok rfl zd_165 zx_165)
theorem zd_166 : z_db (zm_b zm_166) (zm_c zm_166) = true := by decide +kernel
theorem zx_166 : z_xb z_Ms z_kl zm_166 ((zm_c zm_166).zip [0, 2165, 3212, 4127, 0, 0, 0, 2165, 4091, 0, 2175, 0, 4128, 0, 0, 0]) = true := by decide +kernel
theorem zo_166 : zMok z_Ms zm_166 := z_mok (by decide +kernel) (z_win 4 126 (w := .code (zm_y zm_166) (zm_b zm_166) (zm_L zm_166) (zm_r zm_166)) (by decide +kernel) rfl) (q := 1001) (by decide +kernel) (by decide +kernel) (by decide +kernel) (z_eok z_kl_ok rfl zd_166 zx_166)
theorem zd_167 : z_db (zm_b zm_167) (zm_c zm_167) = true := by decide +kernel
theorem zx_167 : z_xb z_Ms z_kl zm_167 ((zm_c zm_167).zip [0, 6053, 0, 0, 0, 0, 0, 8019, 0, 8043, 0, 0, 0]) = true := by decide +kernel
theorem zo_167 : zMok z_Ms zm_167 := z_mok (by decide +kernel) (z_win 8 42 (w := .code (zm_y zm_167) (zm_b zm_167) (zm_L zm_167) (zm_r zm_167)) (by decide +kernel) rfl) (q := 1016) (by decide +kernel) (by decide +kernel) (by decide +kernel) (z_eok z_kl_ok rfl zd_167 zx_167)
