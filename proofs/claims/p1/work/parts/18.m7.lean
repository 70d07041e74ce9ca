/-! methods 168 to 189 -/
theorem zd_168 : z_db (zm_b zm_168) (zm_c zm_168) = true := by decide +kernel
theorem zx_168 : z_xb z_Ms z_kl zm_168 ((zm_c zm_168).zip [0, 0, 0, 0, 2175, 0, 3181, 0, 0, 2175, 0, 3181, 0, 0, 0]) = true := by decide +kernel
theorem zo_168 : zMok z_Ms zm_168 := z_mok (by decide +kernel) (z_win 5 146 (w := .code (zm_y zm_168) (zm_b zm_168) (zm_L zm_168) (zm_r zm_168)) (by decide +kernel) rfl) (q := 1001) (by decide +kernel) (by decide +kernel) (by decide +kernel) (z_eok z_kl_ok rfl zd_168 zx_168)
theorem zd_169 : z_db (zm_b zm_169) (zm_c zm_169) = true := by decide +kernel
theorem zx_169 : z_xb z_Ms z_kl zm_169 ((zm_c zm_169).zip [0, 0, 0, 7142, 0, 0, 6003, 0, 0, 0, 7138, 0, 0, 0]) = true := by decide +kernel
theorem zo_169 : zMok z_Ms zm_169 := z_mok (by decide +kernel) (z_win 8 219 (w := .code (zm_y zm_169) (zm_b zm_169) (zm_L zm_169) (zm_r zm_169)) (by decide +kernel) rfl) (q := 1016) (by decide +kernel) (by decide +kernel) (by decide +kernel) (z_eok z_kl_ok rfl zd_169 zx_169)
theorem zd_170 : z_db (zm_b zm_170) (zm_c zm_170) = true := by decide +kernel
theorem zx_170 : z_xb z_Ms z_kl zm_170 ((zm_c zm_170).zip [0, 2175, 0, 3199, 0, 0, 0]) = true := by decide +kernel
theorem zo_170 : zMok z_Ms zm_170 := z_mok (by decide +kernel) (z_win 4 212 (w := .code (zm_y zm_170) (zm_b zm_170) (zm_L zm_170) (zm_r zm_170)) (by decide +kernel) rfl) (q := 1001) (by decide +kernel) (by decide +kernel) (by decide +kernel) (z_eok z_kl_ok rfl zd_170 zx_170)
theorem zd_171 : z_db (zm_b zm_171) (zm_c zm_171) = true := by decide +kernel
theorem zx_171 : z_xb z_Ms z_kl zm_171 ((zm_c zm_171).zip [0, 0, 7159, 0, 0, 0]) = true := by decide +kernel
theorem zo_171 : zMok z_Ms zm_171 := z_mok (by decide +kernel) (z_win 8 4 (w := .code (zm_y zm_171) (zm_b zm_171) (zm_L zm_171) (zm_r zm_171)) (by decide +kernel) rfl) (q := 1016) (by decide +kernel) (by decide +kernel) (by decide +kernel) (z_eok z_kl_ok rfl zd_171 zx_171)
theorem zd_172 : z_db (zm_b zm_172) (zm_c zm_172) = true := by decide +kernel
theorem zx_172 : z_xb z_Ms z_kl zm_172 ((zm_c zm_172).zip [0, 2175, 0, 3199, 0, 3185, 0]) = true := by decide +kernel
theorem zo_172 : zMok z_Ms zm_172 := z_mok (by decide +kernel) (z_win 5 24 (w := .code (zm_y zm_172) (zm_b zm_172) (zm_L zm_172) (zm_r zm_172)) (by decide +kernel) rfl) (q := 1001) (by decide +kernel) (by decide +kernel) (by decide +kernel) (z_eok z_kl_ok rfl zd_172 zx_172)
theorem zd_173 : z_db (zm_b zm_173) (zm_c zm_173) = true := by decide +kernel
theorem zx_173 : z_xb z_Ms z_kl zm_173 ((zm_c zm_173).zip [0, 0, 7159, 0, 7146, 0]) = true := by decide +kernel
theorem zo_173 : zMok z_Ms zm_173 := z_mok (by decide +kernel) (z_win 8 139 (w := .code (zm_y zm_173) (zm_b zm_173) (zm_L zm_173) (zm_r zm_173)) (by decide +kernel) rfl) (q := 1016) (by decide +kernel) (by decide +kernel) (by decide +kernel) (z_eok z_kl_ok rfl zd_173 zx_173)
theorem zd_174 : z_db (zm_b zm_174) (zm_c zm_174) = true := by decide +kernel
theorem zx_174 : z_xb z_Ms z_kl zm_174 ((zm_c zm_174).zip [0, 4038, 0, 3185, 0, 0, 2165, 3212, 0, 0, 0, 0, 0, 4041, 0, 0, 0, 4046, 0, 0, 0, 4050, 0, 0, 0, 2175, 0, 4054, 0, 0, 0, 4065, 0, 3185, 0]) = true := by decide +kernel
theorem zo_174 : zMok z_Ms zm_174 := z_mok (by decide +kernel) (z_win 4 37 (w := .code (zm_y zm_174) (zm_b zm_174) (zm_L zm_174) (zm_r zm_174)) (by decide +kernel) rfl) (q := 1001) (by decide +kernel) (by decide +kernel) (by decide +kernel) (z_eok z_kl_ok rfl zd_174 zx_174)
theorem zd_175 : z_db (zm_b zm_175) (zm_c zm_175) = true := by decide +kernel
theorem zx_175 : z_xb z_Ms z_kl zm_175 ((zm_c zm_175).zip [0, 7210, 0, 7146, 0, 0, 0, 0, 6053, 0, 0, 0, 0, 0, 0, 6053, 0, 0, 0, 0, 0, 0, 6053, 0, 0, 0, 0, 0, 0, 0, 7213, 0, 0, 6053, 0, 0, 0, 0, 0, 7146, 0]) = true := by decide +kernel
theorem zo_175 : zMok z_Ms zm_175 := z_mok (by decide +kernel) (z_win 7 209 (w := .code (zm_y zm_175) (zm_b zm_175) (zm_L zm_175) (zm_r zm_175)) (by decide +kernel) rfl) (q := 1016) (by decide +kernel) (by decide +kernel) (by decide +kernel) (z_eok z_kl_ok rfl zd_175 zx_175)
theorem zd_176 : z_db (zm_b zm_176) (zm_c zm_176) = true := by decide +kernel
theorem zx_176 : z_xb z_Ms z_kl zm_176 ((zm_c zm_176).zip [0, 0, 0, 0, 0, 0, 0, 0, 0, 0, 0, 0, 0, 2175, 2106, 0, 0, 0]) = true := by decide +kernel
theorem zo_176 : zMok z_Ms zm_176 := z_mok (by decide +kernel) (z_win 5 121 (w := .code (zm_y zm_176) (zm_b zm_176) (zm_L zm_176) (zm_r zm_176)) (by decide +kernel) rfl) (q := 1001) (by decide +kernel) (by decide +kernel) (by decide +kernel) (z_eok z_kl_ok rfl zd_176 zx_176)
theorem zd_177 : z_db (zm_b zm_177) (zm_c zm_177) = true := by decide +kernel
theorem zx_177 : z_xb z_Ms z_kl zm_177 ((zm_c zm_177).zip [0, 8075, 0, 0, 0, 0, 0, 0, 0, 0, 0, 7142, 0, 0, 0]) = true := by decide +kernel
theorem zo_177 : zMok z_Ms zm_177 := z_mok (by decide +kernel) (z_win 8 215 (w := .code (zm_y zm_177) (zm_b zm_177) (zm_L zm_177) (zm_r zm_177)) (by decide +kernel) rfl) (q := 1016) (by decide +kernel) (by decide +kernel) (by decide +kernel) (z_eok z_kl_ok rfl zd_177 zx_177)
theorem zd_178 : z_db (zm_b zm_178) (zm_c zm_178) = true := by decide +kernel
theorem zx_178 : z_xb z_Ms z_kl zm_178 ((zm_c zm_178).zip [0, 2175, 0, 3199, 0, 0, 0]) = true := by decide +kernel
theorem zo_178 : zMok z_Ms zm_178 := z_mok (by decide +kernel) (z_win 5 36 (w := .code (zm_y zm_178) (zm_b zm_178) (zm_L zm_178) (zm_r zm_178)) (by decide +kernel) rfl) (q := 1001) (by decide +kernel) (by decide +kernel) (by decide +kernel) (z_eok z_kl_ok rfl zd_178 zx_178)
theorem zd_179 : z_db (zm_b zm_179) (zm_c zm_179) = true := by decide +kernel
theorem zx_179 : z_xb z_Ms z_kl zm_179 ((zm_c zm_179).zip [0, 0, 7159, 0, 0, 0]) = true := by decide +kernel
theorem zo_179 : zMok z_Ms zm_179 := z_mok (by decide +kernel) (z_win 8 155 (w := .code (zm_y zm_179) (zm_b zm_179) (zm_L zm_179) (zm_r zm_179)) (by decide +kernel) rfl) (q := 1016) (by decide +kernel) (by decide +kernel) (by decide +kernel) (z_eok z_kl_ok rfl zd_179 zx_179)
theorem zd_180 : z_db (zm_b zm_180) (zm_c zm_180) = true := by decide +kernel
theorem zx_180 : z_xb z_Ms z_kl zm_180 ((zm_c zm_180).zip [0, 2165, 4143, 0]) = true := by decide +kernel
theorem zo_180 : zMok z_Ms zm_180 := z_mok (by decide +kernel) (z_win 4 142 (w := .code (zm_y zm_180) (zm_b zm_180) (zm_L zm_180) (zm_r zm_180)) (by decide +kernel) rfl) (q := 1001) (by decide +kernel) (by decide +kernel) (by decide +kernel) (z_eok z_kl_ok rfl zd_180 zx_180)
theorem zd_181 : z_db (zm_b zm_181) (zm_c zm_181) = true := by decide +kernel
theorem zx_181 : z_xb z_Ms z_kl zm_181 ((zm_c zm_181).zip [0, 1181, 0, 0, 0]) = true := by decide +kernel
theorem zo_181 : zMok z_Ms zm_181 := z_mok (by decide +kernel) (z_win 4 146 (w := .code (zm_y zm_181) (zm_b zm_181) (zm_L zm_181) (zm_r zm_181)) (by decide +kernel) rfl) (q := 1008) (by decide +kernel) (by decide +kernel) (by decide +kernel) (z_eok z_kl_ok rfl zd_181 zx_181)
theorem zd_182 : z_db (zm_b zm_182) (zm_c zm_182) = true := by decide +kernel
theorem zx_182 : z_xb z_Ms z_kl zm_182 ((zm_c zm_182).zip [0, 6057, 0, 0, 0]) = true := by decide +kernel
theorem zo_182 : zMok z_Ms zm_182 := z_mok (by decide +kernel) (z_win 8 58 (w := .code (zm_y zm_182) (zm_b zm_182) (zm_L zm_182) (zm_r zm_182)) (by decide +kernel) rfl) (q := 1016) (by decide +kernel) (by decide +kernel) (by decide +kernel) (z_eok z_kl_ok rfl zd_182 zx_182)
theorem zd_183 : z_db (zm_b zm_183) (zm_c zm_183) = true := by decide +kernel
theorem zx_183 : z_xb z_Ms z_kl zm_183 ((zm_c zm_183).zip [0, 2169, 0, 5159, 0]) = true := by decide +kernel
theorem zo_183 : zMok z_Ms zm_183 := z_mok (by decide +kernel) (z_win 5 158 (w := .code (zm_y zm_183) (zm_b zm_183) (zm_L zm_183) (zm_r zm_183)) (by decide +kernel) rfl) (q := 1001) (by decide +kernel) (by decide +kernel) (by decide +kernel) (z_eok z_kl_ok rfl zd_183 zx_183)
theorem zd_184 : z_db (zm_b zm_184) (zm_c zm_184) = true := by decide +kernel
theorem zx_184 : z_xb z_Ms z_kl zm_184 ((zm_c zm_184).zip [0, 0, 0, 0, 2024, 0, 0, 0]) = true := by decide +kernel
theorem zo_184 : zMok z_Ms zm_184 := z_mok (by decide +kernel) (z_win 5 162 (w := .code (zm_y zm_184) (zm_b zm_184) (zm_L zm_184) (zm_r zm_184)) (by decide +kernel) rfl) (q := 1013) (by decide +kernel) (by decide +kernel) (by decide +kernel) (z_eok z_kl_ok rfl zd_184 zx_184)
theorem zd_185 : z_db (zm_b zm_185) (zm_c zm_185) = true := by decide +kernel
theorem zx_185 : z_xb z_Ms z_kl zm_185 ((zm_c zm_185).zip [0, 0, 0, 6072, 0, 0, 6003, 0, 0, 0]) = true := by decide +kernel
theorem zo_185 : zMok z_Ms zm_185 := z_mok (by decide +kernel) (z_win 8 231 (w := .code (zm_y zm_185) (zm_b zm_185) (zm_L zm_185) (zm_r zm_185)) (by decide +kernel) rfl) (q := 1016) (by decide +kernel) (by decide +kernel) (by decide +kernel) (z_eok z_kl_ok rfl zd_185 zx_185)
theorem zd_186 : z_db (zm_b zm_186) (zm_c zm_186) = true := by decide +kernel
theorem zx_186 : z_xb z_Ms z_kl zm_186 ((zm_c zm_186).zip [0, 2175, 0, 3199, 0, 0, 0]) = true := by decide +kernel
theorem zo_186 : zMok z_Ms zm_186 := z_mok (by decide +kernel) (z_win 4 69 (w := .code (zm_y zm_186) (zm_b zm_186) (zm_L zm_186) (zm_r zm_186)) (by decide +kernel) rfl) (q := 1001) (by decide +kernel) (by decide +kernel) (by decide +kernel) (z_eok z_kl_ok rfl zd_186 zx_186)
theorem zd_187 : z_db (zm_b zm_187) (zm_c zm_187) = true := by decide +kernel
theorem zx_187 : z_xb z_Ms z_kl zm_187 ((zm_c zm_187).zip [0, 0, 7159, 0, 0, 0]) = true := by decide +kernel
theorem zo_187 : zMok z_Ms zm_187 := z_mok (by decide +kernel) (z_win 7 220 (w := .code (zm_y zm_187) (zm_b zm_187) (zm_L zm_187) (zm_r zm_187)) (by decide +kernel) rfl) (q := 1016) (by decide +kernel) (by decide +kernel) (by decide +kernel) (z_eok z_kl_ok rfl zd_187 zx_187)
theorem zd_188 : z_db (zm_b zm_188) (zm_c zm_188) = true := by decide +kernel
theorem zx_188 : z_xb z_Ms z_kl zm_188 ((zm_c zm_188).zip [0, 4038, 0, 0, 0, 0, 0, 0, 3185, 0, 0, 2167, 0, 2175, 0, 2165, 3212, 0, 0, 4159, 0]) = true := by decide +kernel
theorem zo_188 : zMok z_Ms zm_188 := z_mok (by decide +kernel) (z_win 4 158 (w := .code (zm_y zm_188) (zm_b zm_188) (zm_L zm_188) (zm_r zm_188)) (by decide +kernel) rfl) (q := 1001) (by decide +kernel) (by decide +kernel) (by decide +kernel) (z_eok z_kl_ok rfl zd_188 zx_188)
theorem zd_189 : z_db (zm_b zm_189) (zm_c zm_189) = true := by decide +kernel
theorem zx_189 : z_xb z_Ms z_kl zm_189 ((zm_c zm_189).zip [0, 7210, 0, 0, 8075, 0, 7146, 0, 0, 8078, 0, 0, 0, 0, 0, 0, 0, 0, 8043, 0, 0, 0, 0, 6053, 0, 0, 0, 0, 0, 0, 8082, 0, 0]) = true := by decide +kernel
theorem zo_189 : zMok z_Ms zm_189 := z_mok (by decide +kernel) (z_win 8 74 (w := .code (zm_y zm_189) (zm_b zm_189) (zm_L zm_189) (zm_r zm_189)) (by decide +kernel) rfl) (q := 1016) (by decide +kernel) (by decide +kernel) (by decide +kernel) (z_eok z_kl_ok rfl zd_189 zx_189)
