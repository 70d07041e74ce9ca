/-! methods 168 to 191 -/
theorem zd_168 : z_db (zm_b zm_168) (zm_c zm_168) = true := by decide +kernel
theorem zx_168 : z_xb z_Ms z_kl zm_168 ((zm_c zm_168).zip [0, 6072, 0, 0, 0, 0, 0, 6066, 0, 6072, 0, 0, 0, 6067, 0, 6072, 0, 0, 0, 6068, 0, 6072, 0, 0, 0, 0, 0, 0, 0, 6069, 0, 6072, 0, 6073, 0, 0, 6070, 0, 6072, 0, 0, 0, 0, 6072, 0, 0, 6072, 0, 6072, 0, 0, 0]) = true := by decide +kernel
theorem zo_168 : zMok z_Ms zm_168 := z_mok (by decide +kernel) (z_win 8 223 (w := .code (zm_y zm_168) (zm_b zm_168) (zm_L zm_168) (zm_r zm_168)) (by decide +kernel) rfl) (q := 1016) (by decide +kernel) (by decide +kernel) (by decide +kernel) (z_eok z_kl_ok rfl zd_168 zx_168)
theorem zd_169 : z_db (zm_b zm_169) (zm_c zm_169) = true := by decide +kernel
theorem zx_169 : z_xb z_Ms z_kl zm_169 ((zm_c zm_169).zip [0, 6025, 0, 0, 6045, 0, 0, 0, 0, 0]) = true := by decide +kernel
theorem zo_169 : zMok z_Ms zm_169 := z_mok (by decide +kernel) (z_win 7 154 (w := .code (zm_y zm_169) (zm_b zm_169) (zm_L zm_169) (zm_r zm_169)) (by decide +kernel) rfl) (q := 1016) (by decide +kernel) (by decide +kernel) (by decide +kernel) (z_eok z_kl_ok rfl zd_169 zx_169)
theorem zd_170 : z_db (zm_b zm_170) (zm_c zm_170) = true := by decide +kernel
theorem zx_170 : z_xb z_Ms z_kl zm_170 ((zm_c zm_170).zip [0, 0, 7159, 0, 0, 0, 0, 6003, 0, 0, 0, 0, 8140, 0, 7146, 0]) = true := by decide +kernel
theorem zo_170 : zMok z_Ms zm_170 := z_mok (by decide +kernel) (z_win 8 139 (w := .code (zm_y zm_170) (zm_b zm_170) (zm_L zm_170) (zm_r zm_170)) (by decide +kernel) rfl) (q := 1016) (by decide +kernel) (by decide +kernel) (by decide +kernel) (z_eok z_kl_ok rfl zd_170 zx_170)
theorem zd_171 : z_db (zm_b zm_171) (zm_c zm_171) = true := by decide +kernel
theorem zx_171 : z_xb z_Ms z_kl zm_171 ((zm_c zm_171).zip [0, 0, 0, 0, 0, 0, 7163, 0, 0, 0, 0, 7167, 0, 0, 7167, 0, 0, 0, 0, 0, 0, 8120, 0, 0, 0, 0, 0, 0, 0, 0]) = true := by decide +kernel
theorem zo_171 : zMok z_Ms zm_171 := z_mok (by decide +kernel) (z_win 8 143 (w := .code (zm_y zm_171) (zm_b zm_171) (zm_L zm_171) (zm_r zm_171)) (by decide +kernel) rfl) (q := 1016) (by decide +kernel) (by decide +kernel) (by decide +kernel) (z_eok z_kl_ok rfl zd_171 zx_171)
theorem zd_172 : z_db (zm_b zm_172) (zm_c zm_172) = true := by decide +kernel
theorem zx_172 : z_xb z_Ms z_kl zm_172 ((zm_c zm_172).zip [0, 7210, 0, 7146, 0, 0, 0, 0, 6053, 0, 0, 0, 0, 0, 0, 6053, 0, 0, 0, 0, 0, 0, 6053, 0, 0, 0, 0, 0, 0, 0, 7213, 0, 0, 6053, 0, 0, 0, 0, 0, 7146, 0]) = true := by decide +kernel
theorem zo_172 : zMok z_Ms zm_172 := z_mok (by decide +kernel) (z_win 7 209 (w := .code (zm_y zm_172) (zm_b zm_172) (zm_L zm_172) (zm_r zm_172)) (by decide +kernel) rfl) (q := 1016) (by decide +kernel) (by decide +kernel) (by decide +kernel) (z_eok z_kl_ok rfl zd_172 zx_172)
theorem zd_173 : z_db (zm_b zm_173) (zm_c zm_173) = true := by decide +kernel
theorem zx_173 : z_xb z_Ms z_kl zm_173 ((zm_c zm_173).zip [0, 6026, 0, 0, 6045, 0, 0, 0, 0, 0]) = true := by decide +kernel
theorem zo_173 : zMok z_Ms zm_173 := z_mok (by decide +kernel) (z_win 7 170 (w := .code (zm_y zm_173) (zm_b zm_173) (zm_L zm_173) (zm_r zm_173)) (by decide +kernel) rfl) (q := 1016) (by decide +kernel) (by decide +kernel) (by decide +kernel) (z_eok z_kl_ok rfl zd_173 zx_173)
theorem zd_174 : z_db (zm_b zm_174) (zm_c zm_174) = true := by decide +kernel
theorem zx_174 : z_xb z_Ms z_kl zm_174 ((zm_c zm_174).zip [0, 8075, 0, 0, 0, 0, 0, 0, 0, 0, 0, 7142, 0, 0, 0, 0, 0, 7142, 0, 0, 0, 0, 0, 0, 8200, 0, 0, 0, 0, 0, 8200, 0, 0, 0, 0, 0, 0, 0, 0, 0, 0, 0, 0]) = true := by decide +kernel
theorem zo_174 : zMok z_Ms zm_174 := z_mok (by decide +kernel) (z_win 8 215 (w := .code (zm_y zm_174) (zm_b zm_174) (zm_L zm_174) (zm_r zm_174)) (by decide +kernel) rfl) (q := 1016) (by decide +kernel) (by decide +kernel) (by decide +kernel) (z_eok z_kl_ok rfl zd_174 zx_174)
theorem zd_175 : z_db (zm_b zm_175) (zm_c zm_175) = true := by decide +kernel
theorem zx_175 : z_xb z_Ms z_kl zm_175 ((zm_c zm_175).zip [0, 0, 7159, 0, 0, 0, 0, 0, 0, 0, 0, 0, 7163, 0, 0, 0, 0, 8156, 0, 0, 0, 0, 0, 0, 0, 0, 0, 0, 0]) = true := by decide +kernel
theorem zo_175 : zMok z_Ms zm_175 := z_mok (by decide +kernel) (z_win 8 155 (w := .code (zm_y zm_175) (zm_b zm_175) (zm_L zm_175) (zm_r zm_175)) (by decide +kernel) rfl) (q := 1016) (by decide +kernel) (by decide +kernel) (by decide +kernel) (z_eok z_kl_ok rfl zd_175 zx_175)
theorem zd_176 : z_db (zm_b zm_176) (zm_c zm_176) = true := by decide +kernel
theorem zx_176 : z_xb z_Ms z_kl zm_176 ((zm_c zm_176).zip [0, 0, 0, 0, 0, 0, 0, 0, 0, 0, 0, 0, 0, 0, 0, 0, 0, 0, 0, 0, 0, 0, 0, 0, 0, 0, 0, 0, 0, 0, 0, 0, 0, 0, 0, 0, 0, 0, 0, 0, 0, 0, 0, 0, 0, 0, 0, 0, 0, 0, 0, 0, 0, 0, 0, 0, 0, 0, 0, 0, 0, 0, 0, 0, 0, 0, 0]) = true := by decide +kernel
theorem zo_176 : zMok z_Ms zm_176 := z_mok (by decide +kernel) (z_win 7 205 (w := .code (zm_y zm_176) (zm_b zm_176) (zm_L zm_176) (zm_r zm_176)) (by decide +kernel) rfl) (q := 1016) (by decide +kernel) (by decide +kernel) (by decide +kernel) (z_eok z_kl_ok rfl zd_176 zx_176)
theorem zd_177 : z_db (zm_b zm_177) (zm_c zm_177) = true := by decide +kernel
theorem zx_177 : z_xb z_Ms z_kl zm_177 ((zm_c zm_177).zip [0, 6057, 0, 0, 0, 0, 0, 6057, 0, 0, 6057, 0, 0, 6058, 0, 0, 6058, 0, 8059, 0, 0]) = true := by decide +kernel
theorem zo_177 : zMok z_Ms zm_177 := z_mok (by decide +kernel) (z_win 8 58 (w := .code (zm_y zm_177) (zm_b zm_177) (zm_L zm_177) (zm_r zm_177)) (by decide +kernel) rfl) (q := 1016) (by decide +kernel) (by decide +kernel) (by decide +kernel) (z_eok z_kl_ok rfl zd_177 zx_177)
theorem zd_178 : z_db (zm_b zm_178) (zm_c zm_178) = true := by decide +kernel
theorem zx_178 : z_xb z_Ms z_kl zm_178 ((zm_c zm_178).zip [0, 6042, 0, 6049, 0, 0, 0, 0, 0, 0, 6042, 0, 6049, 0, 0, 0, 0, 0, 0, 0, 0, 0, 0, 0, 0, 7015, 7034, 0, 0, 0, 0, 0, 0, 0, 7106, 0, 0, 7110, 0, 0, 6020, 0, 6046, 0, 0, 0, 0, 6050, 0, 0, 0, 0, 0, 0, 0, 0, 0, 0, 0, 6014, 0, 0, 0, 0, 0, 0, 0, 0, 0, 0, 0, 6048, 0, 0, 0, 7038, 0, 7022, 0, 0, 0, 0, 6020, 0, 6046, 0, 0, 0, 0, 0, 0, 0, 0, 0, 0, 0, 6050, 0, 0, 0, 0, 0, 0, 6050, 0, 0, 0, 6015, 0, 0, 0, 0, 6221, 0, 0, 0, 0, 0, 0, 0, 0, 0, 0, 0, 7098, 0, 0, 6048, 0, 0, 6048, 0, 0, 0, 0, 0, 0, 0, 0, 0, 7114, 0, 0]) = true := by decide +kernel
theorem zo_178 : zMok z_Ms zm_178 := z_mok (by decide +kernel) (z_win 7 105 (w := .code (zm_y zm_178) (zm_b zm_178) (zm_L zm_178) (zm_r zm_178)) (by decide +kernel) rfl) (q := 1016) (by decide +kernel) (by decide +kernel) (by decide +kernel) (z_eok z_kl_ok rfl zd_178 zx_178)
theorem zd_179 : z_db (zm_b zm_179) (zm_c zm_179) = true := by decide +kernel
theorem zx_179 : z_xb z_Ms z_kl zm_179 ((zm_c zm_179).zip [0, 0, 0, 6072, 0, 0, 6003, 0, 0, 6070, 0, 0, 0, 0, 0, 0, 6070, 0, 0, 6073, 0, 0, 0]) = true := by decide +kernel
theorem zo_179 : zMok z_Ms zm_179 := z_mok (by decide +kernel) (z_win 8 231 (w := .code (zm_y zm_179) (zm_b zm_179) (zm_L zm_179) (zm_r zm_179)) (by decide +kernel) rfl) (q := 1016) (by decide +kernel) (by decide +kernel) (by decide +kernel) (z_eok z_kl_ok rfl zd_179 zx_179)
theorem zd_180 : z_db (zm_b zm_180) (zm_c zm_180) = true := by decide +kernel
theorem zx_180 : z_xb z_Ms z_kl zm_180 ((zm_c zm_180).zip [0, 6034, 0, 6045, 0, 0, 0, 0, 0, 7171, 7147, 0, 0, 0, 7171, 7151, 0, 0, 0, 0, 6052, 0, 0, 6051, 0, 7195, 0]) = true := by decide +kernel
theorem zo_180 : zMok z_Ms zm_180 := z_mok (by decide +kernel) (z_win 7 194 (w := .code (zm_y zm_180) (zm_b zm_180) (zm_L zm_180) (zm_r zm_180)) (by decide +kernel) rfl) (q := 1016) (by decide +kernel) (by decide +kernel) (by decide +kernel) (z_eok z_kl_ok rfl zd_180 zx_180)
theorem zd_181 : z_db (zm_b zm_181) (zm_c zm_181) = true := by decide +kernel
theorem zx_181 : z_xb z_Ms z_kl zm_181 ((zm_c zm_181).zip [0, 0, 0, 0, 0, 0, 0, 0, 7163, 0, 0, 0, 7167, 0, 6029, 0, 0, 6045, 0, 0, 0, 0, 0, 0, 0, 0, 0, 7191, 0, 0, 0, 0, 0, 0, 0, 0, 0, 0, 0, 0, 0, 0, 0]) = true := by decide +kernel
theorem zo_181 : zMok z_Ms zm_181 := z_mok (by decide +kernel) (z_win 7 190 (w := .code (zm_y zm_181) (zm_b zm_181) (zm_L zm_181) (zm_r zm_181)) (by decide +kernel) rfl) (q := 1016) (by decide +kernel) (by decide +kernel) (by decide +kernel) (z_eok z_kl_ok rfl zd_181 zx_181)
theorem zd_182 : z_db (zm_b zm_182) (zm_c zm_182) = true := by decide +kernel
theorem zx_182 : z_xb z_Ms z_kl zm_182 ((zm_c zm_182).zip [0, 0, 7159, 0, 0, 0, 0, 7221, 0, 6055, 0, 0, 0]) = true := by decide +kernel
theorem zo_182 : zMok z_Ms zm_182 := z_mok (by decide +kernel) (z_win 7 220 (w := .code (zm_y zm_182) (zm_b zm_182) (zm_L zm_182) (zm_r zm_182)) (by decide +kernel) rfl) (q := 1016) (by decide +kernel) (by decide +kernel) (by decide +kernel) (z_eok z_kl_ok rfl zd_182 zx_182)
theorem zd_183 : z_db (zm_b zm_183) (zm_c zm_183) = true := by decide +kernel
theorem zx_183 : z_xb z_Ms z_kl zm_183 ((zm_c zm_183).zip [0, 0, 6062, 0, 0, 0, 0, 0, 0, 0, 0, 0, 7142, 0, 0, 0, 0, 0, 0, 0, 8098, 0, 0, 7142, 0, 0, 0, 0, 0, 0, 0, 0, 0, 6053, 0, 0, 0, 0, 0, 0, 0, 6062, 0, 0, 0, 0, 0, 0, 6062, 0, 8043, 0, 0, 0, 0, 6053, 0, 0, 0, 0, 0]) = true := by decide +kernel
theorem zo_183 : zMok z_Ms zm_183 := z_mok (by decide +kernel) (z_win 8 104 (w := .code (zm_y zm_183) (zm_b zm_183) (zm_L zm_183) (zm_r zm_183)) (by decide +kernel) rfl) (q := 1016) (by decide +kernel) (by decide +kernel) (by decide +kernel) (z_eok z_kl_ok rfl zd_183 zx_183)
theorem zd_184 : z_db (zm_b zm_184) (zm_c zm_184) = true := by decide +kernel
theorem zx_184 : z_xb z_Ms z_kl zm_184 ((zm_c zm_184).zip [0, 7210, 0, 0, 8075, 0, 7146, 0, 0, 8078, 0, 0, 0, 0, 0, 0, 0, 0, 8043, 0, 0, 0, 0, 6053, 0, 0, 0, 0, 0, 0, 8082, 0, 0]) = true := by decide +kernel
theorem zo_184 : zMok z_Ms zm_184 := z_mok (by decide +kernel) (z_win 8 74 (w := .code (zm_y zm_184) (zm_b zm_184) (zm_L zm_184) (zm_r zm_184)) (by decide +kernel) rfl) (q := 1016) (by decide +kernel) (by decide +kernel) (by decide +kernel) (z_eok z_kl_ok rfl zd_184 zx_184)
theorem zd_185 : z_db (zm_b zm_185) (zm_c zm_185) = true := by decide +kernel
theorem zx_185 : z_xb z_Ms z_kl zm_185 ((zm_c zm_185).zip [0, 6236, 7034, 0, 0, 0, 0, 6239, 7034, 0, 0, 0, 0, 7007, 7034, 0, 0, 0, 0, 7011, 7034, 0, 0, 0, 0, 7012, 7034, 0, 0, 0, 0, 0]) = true := by decide +kernel
theorem zo_185 : zMok z_Ms zm_185 := z_mok (by decide +kernel) (z_win 7 113 (w := .code (zm_y zm_185) (zm_b zm_185) (zm_L zm_185) (zm_r zm_185)) (by decide +kernel) rfl) (q := 1016) (by decide +kernel) (by decide +kernel) (by decide +kernel) (z_eok z_kl_ok rfl zd_185 zx_185)
theorem zd_186 : z_db (zm_b zm_186) (zm_c zm_186) = true := by decide +kernel
theorem zx_186 : z_xb z_Ms z_kl zm_186 ((zm_c zm_186).zip [0, 7022, 0, 0, 0, 0, 6238, 7034, 0, 0, 0, 0, 0, 6237, 7034, 0, 0, 0, 0, 7062, 0, 0, 0, 7070, 0, 0, 0, 0, 0, 0, 0, 0]) = true := by decide +kernel
theorem zo_186 : zMok z_Ms zm_186 := z_mok (by decide +kernel) (z_win 7 69 (w := .code (zm_y zm_186) (zm_b zm_186) (zm_L zm_186) (zm_r zm_186)) (by decide +kernel) rfl) (q := 1016) (by decide +kernel) (by decide +kernel) (by decide +kernel) (z_eok z_kl_ok rfl zd_186 zx_186)
theorem zd_187 : z_db (zm_b zm_187) (zm_c zm_187) = true := by decide +kernel
theorem zx_187 : z_xb z_Ms z_kl zm_187 ((zm_c zm_187).zip [0, 0, 0, 0, 0, 0, 0, 0, 0, 0, 0, 0, 0, 0, 0, 0, 7147, 0, 0, 7151, 0, 0, 0, 0, 7147, 0, 0, 7151, 0, 0]) = true := by decide +kernel
theorem zo_187 : zMok z_Ms zm_187 := z_mok (by decide +kernel) (z_win 8 131 (w := .code (zm_y zm_187) (zm_b zm_187) (zm_L zm_187) (zm_r zm_187)) (by decide +kernel) rfl) (q := 1016) (by decide +kernel) (by decide +kernel) (by decide +kernel) (z_eok z_kl_ok rfl zd_187 zx_187)
theorem zd_188 : z_db (zm_b zm_188) (zm_c zm_188) = true := by decide +kernel
theorem zx_188 : z_xb z_Ms z_kl zm_188 ((zm_c zm_188).zip [0, 1195, 0, 0, 1179, 1196, 0, 0, 1179, 1197, 0]) = true := by decide +kernel
theorem zo_188 : zMok z_Ms zm_188 := z_mok (by decide +kernel) (z_win 1 194 (w := .code (zm_y zm_188) (zm_b zm_188) (zm_L zm_188) (zm_r zm_188)) (by decide +kernel) rfl) (q := 1010) (by decide +kernel) (by decide +kernel) (by decide +kernel) (z_eok z_kl_ok rfl zd_188 zx_188)
theorem zd_189 : z_db (zm_b zm_189) (zm_c zm_189) = true := by decide +kernel
theorem zx_189 : z_xb z_Ms z_kl zm_189 ((zm_c zm_189).zip [0, 0, 0, 0, 1196, 0, 0, 0, 1196, 0, 0, 0, 0]) = true := by decide +kernel
theorem zo_189 : zMok z_Ms zm_189 := z_mok (by decide +kernel) (z_win 4 33 (w := .code (zm_y zm_189) (zm_b zm_189) (zm_L zm_189) (zm_r zm_189)) (by decide +kernel) rfl) (q := 1010) (by decide +kernel) (by decide +kernel) (by decide +kernel) (z_eok z_kl_ok rfl zd_189 zx_189)
theorem zd_190 : z_db (zm_b zm_190) (zm_c zm_190) = true := by decide +kernel
theorem zx_190 : z_xb z_Ms z_kl zm_190 ((zm_c zm_190).zip [0, 0, 0, 0, 0, 0, 1197, 0, 0, 0, 0, 0, 0, 0, 0, 0, 2114, 0, 0, 0, 0, 0, 0, 0, 4000, 0, 0, 1196, 0, 0, 0, 0, 0, 0, 0, 0, 0, 1197, 0, 0, 0, 0, 2092, 0, 0, 0, 0, 0, 0, 0]) = true := by decide +kernel
theorem zo_190 : zMok z_Ms zm_190 := z_mok (by decide +kernel) (z_win 3 239 (w := .code (zm_y zm_190) (zm_b zm_190) (zm_L zm_190) (zm_r zm_190)) (by decide +kernel) rfl) (q := 1010) (by decide +kernel) (by decide +kernel) (by decide +kernel) (z_eok z_kl_ok rfl zd_190 zx_190)
theorem zd_191 : z_db (zm_b zm_191) (zm_c zm_191) = true := by decide +kernel
theorem zx_191 : z_xb z_Ms z_kl zm_191 ((zm_c zm_191).zip [0, 0, 0, 0, 0, 0, 0, 0, 2109, 0, 0, 0, 4003, 0, 2088, 0, 0, 0, 0, 0, 0, 4004, 0, 0, 2100, 0, 0, 4005, 0, 0, 4006, 0, 2096, 0, 0, 4007, 0, 2100, 0, 0, 4011, 0, 4012, 4016, 0, 0, 0, 0, 0, 0, 0, 0, 0, 0, 0, 0, 0, 0, 0]) = true := by decide +kernel
theorem zo_191 : zMok z_Ms zm_191 := z_mok (by decide +kernel) (z_win 4 2 (w := .code (zm_y zm_191) (zm_b zm_191) (zm_L zm_191) (zm_r zm_191)) (by decide +kernel) rfl) (q := 1010) (by decide +kernel) (by decide +kernel) (by decide +kernel) (z_eok z_kl_ok rfl zd_191 zx_191)
