/-! methods 192 to 215 -/
theorem zd_192 : z_db (zm_b zm_192) (zm_c zm_192) = true := by decide +kernel
theorem zx_192 : z_xb z_Ms z_kl zm_192 ((zm_c zm_192).zip [0, 0, 0, 0, 0, 0, 2114, 0, 0, 0, 4217, 0, 0, 2088, 0, 0, 0, 0, 4003, 0, 0, 0, 4218, 0, 0, 0, 0, 0, 0, 0, 0, 0, 0, 0, 0, 0, 0, 0, 0, 0, 0, 0, 0, 0, 4219, 0, 4219, 0, 0, 0, 0, 0, 0, 0, 0, 0, 0, 0, 0, 0, 0, 0, 0, 0, 4225, 0, 0, 0, 0, 0, 0, 0]) = true := by decide +kernel
theorem zo_192 : zMok z_Ms zm_192 := z_mok (by decide +kernel) (z_win 4 216 (w := .code (zm_y zm_192) (zm_b zm_192) (zm_L zm_192) (zm_r zm_192)) (by decide +kernel) rfl) (q := 1010) (by decide +kernel) (by decide +kernel) (by decide +kernel) (z_eok z_kl_ok rfl zd_192 zx_192)
theorem zd_193 : z_db (zm_b zm_193) (zm_c zm_193) = true := by decide +kernel
theorem zx_193 : z_xb z_Ms z_kl zm_193 ((zm_c zm_193).zip [0, 0, 4086, 0, 0, 0, 0, 0, 2114, 0, 0, 0, 0, 4217, 0, 0, 0, 0, 0, 0, 0, 0, 0, 2092, 0, 0, 0, 0, 0, 0, 0, 0, 0, 0, 0, 0, 2109, 0, 0, 0, 0, 0, 0, 4003, 0, 0, 4003, 0, 0, 0, 0, 0, 4229, 0, 0, 0, 0, 0, 0, 0, 0, 0, 0, 0, 0, 0, 0, 0, 0]) = true := by decide +kernel
theorem zo_193 : zMok z_Ms zm_193 := z_mok (by decide +kernel) (z_win 4 228 (w := .code (zm_y zm_193) (zm_b zm_193) (zm_L zm_193) (zm_r zm_193)) (by decide +kernel) rfl) (q := 1010) (by decide +kernel) (by decide +kernel) (by decide +kernel) (z_eok z_kl_ok rfl zd_193 zx_193)
theorem zd_194 : z_db (zm_b zm_194) (zm_c zm_194) = true := by decide +kernel
theorem zx_194 : z_xb z_Ms z_kl zm_194 ((zm_c zm_194).zip [0, 0, 0, 0, 0, 0, 2109, 0, 0, 0, 4003, 0, 0, 0, 0, 0, 0, 0, 0, 0, 0, 4086, 0, 0, 4086, 0, 0, 0, 0, 0, 0, 0]) = true := by decide +kernel
theorem zo_194 : zMok z_Ms zm_194 := z_mok (by decide +kernel) (z_win 4 85 (w := .code (zm_y zm_194) (zm_b zm_194) (zm_L zm_194) (zm_r zm_194)) (by decide +kernel) rfl) (q := 1010) (by decide +kernel) (by decide +kernel) (by decide +kernel) (z_eok z_kl_ok rfl zd_194 zx_194)
theorem zd_195 : z_db (zm_b zm_195) (zm_c zm_195) = true := by decide +kernel
theorem zx_195 : z_xb z_Ms z_kl zm_195 ((zm_c zm_195).zip [0, 0, 4086, 0, 0, 0, 0, 0, 2114, 0, 0, 0, 0, 4217, 0, 0, 0, 0, 0, 0, 0, 0, 0, 0, 4218, 0, 0, 0, 2092, 0, 0, 0, 0, 0, 0, 0, 0, 0, 0]) = true := by decide +kernel
theorem zo_195 : zMok z_Ms zm_195 := z_mok (by decide +kernel) (z_win 4 232 (w := .code (zm_y zm_195) (zm_b zm_195) (zm_L zm_195) (zm_r zm_195)) (by decide +kernel) rfl) (q := 1010) (by decide +kernel) (by decide +kernel) (by decide +kernel) (z_eok z_kl_ok rfl zd_195 zx_195)
theorem zd_196 : z_db (zm_b zm_196) (zm_c zm_196) = true := by decide +kernel
theorem zx_196 : z_xb z_Ms z_kl zm_196 ((zm_c zm_196).zip [0, 0, 0, 0, 1197, 0, 0, 0, 1197, 0, 0, 0, 0]) = true := by decide +kernel
theorem zo_196 : zMok z_Ms zm_196 := z_mok (by decide +kernel) (z_win 4 73 (w := .code (zm_y zm_196) (zm_b zm_196) (zm_L zm_196) (zm_r zm_196)) (by decide +kernel) rfl) (q := 1010) (by decide +kernel) (by decide +kernel) (by decide +kernel) (z_eok z_kl_ok rfl zd_196 zx_196)
theorem zd_197 : z_db (zm_b zm_197) (zm_c zm_197) = true := by decide +kernel
theorem zx_197 : z_xb z_Ms z_kl zm_197 ((zm_c zm_197).zip [0, 0, 0, 0, 4082, 0]) = true := by decide +kernel
theorem zo_197 : zMok z_Ms zm_197 := z_mok (by decide +kernel) (z_win 4 81 (w := .code (zm_y zm_197) (zm_b zm_197) (zm_L zm_197) (zm_r zm_197)) (by decide +kernel) rfl) (q := 1010) (by decide +kernel) (by decide +kernel) (by decide +kernel) (z_eok z_kl_ok rfl zd_197 zx_197)
theorem zd_198 : z_db (zm_b zm_198) (zm_c zm_198) = true := by decide +kernel
theorem zx_198 : z_xb z_Ms z_kl zm_198 ((zm_c zm_198).zip [0, 1208, 0, 1209, 0, 1210, 1211, 0, 0, 1179, 1212, 0, 0, 1179, 1213, 0]) = true := by decide +kernel
theorem zo_198 : zMok z_Ms zm_198 := z_mok (by decide +kernel) (z_win 1 207 (w := .code (zm_y zm_198) (zm_b zm_198) (zm_L zm_198) (zm_r zm_198)) (by decide +kernel) rfl) (q := 1011) (by decide +kernel) (by decide +kernel) (by decide +kernel) (z_eok z_kl_ok rfl zd_198 zx_198)
theorem zd_199 : z_db (zm_b zm_199) (zm_c zm_199) = true := by decide +kernel
theorem zx_199 : z_xb z_Ms z_kl zm_199 ((zm_c zm_199).zip [0, 0, 0, 0, 0, 0, 1212, 0, 0, 0, 0, 1212, 0, 0, 0, 0, 0, 0, 0, 0, 0, 0, 0, 0, 0]) = true := by decide +kernel
theorem zo_199 : zMok z_Ms zm_199 := z_mok (by decide +kernel) (z_win 4 195 (w := .code (zm_y zm_199) (zm_b zm_199) (zm_L zm_199) (zm_r zm_199)) (by decide +kernel) rfl) (q := 1011) (by decide +kernel) (by decide +kernel) (by decide +kernel) (z_eok z_kl_ok rfl zd_199 zx_199)
theorem zd_200 : z_db (zm_b zm_200) (zm_c zm_200) = true := by decide +kernel
theorem zx_200 : z_xb z_Ms z_kl zm_200 ((zm_c zm_200).zip [0, 1211, 0, 4163, 0, 0, 0, 0, 0, 0, 1211, 0, 4165, 0, 0, 0, 0, 1211, 0, 0, 4164, 0, 0, 0, 0, 0]) = true := by decide +kernel
theorem zo_200 : zMok z_Ms zm_200 := z_mok (by decide +kernel) (z_win 4 178 (w := .code (zm_y zm_200) (zm_b zm_200) (zm_L zm_200) (zm_r zm_200)) (by decide +kernel) rfl) (q := 1011) (by decide +kernel) (by decide +kernel) (by decide +kernel) (z_eok z_kl_ok rfl zd_200 zx_200)
theorem zd_201 : z_db (zm_b zm_201) (zm_c zm_201) = true := by decide +kernel
theorem zx_201 : z_xb z_Ms z_kl zm_201 ((zm_c zm_201).zip [0, 0, 0, 0, 1212, 0, 0, 0, 0, 1213, 0, 0, 0, 1213, 0, 0, 1212, 0, 0, 0, 0, 0, 0]) = true := by decide +kernel
theorem zo_201 : zMok z_Ms zm_201 := z_mok (by decide +kernel) (z_win 4 199 (w := .code (zm_y zm_201) (zm_b zm_201) (zm_L zm_201) (zm_r zm_201)) (by decide +kernel) rfl) (q := 1011) (by decide +kernel) (by decide +kernel) (by decide +kernel) (z_eok z_kl_ok rfl zd_201 zx_201)
theorem zd_202 : z_db (zm_b zm_202) (zm_c zm_202) = true := by decide +kernel
theorem zx_202 : z_xb z_Ms z_kl zm_202 ((zm_c zm_202).zip [0, 1211, 0, 4163, 0, 0, 0, 0, 0, 0, 0, 0, 1211, 0, 0, 4164, 0, 0, 0, 0, 4165, 0, 1211, 0, 4165, 0, 5130, 0, 0, 0, 0, 0]) = true := by decide +kernel
theorem zo_202 : zMok z_Ms zm_202 := z_mok (by decide +kernel) (z_win 5 129 (w := .code (zm_y zm_202) (zm_b zm_202) (zm_L zm_202) (zm_r zm_202)) (by decide +kernel) rfl) (q := 1011) (by decide +kernel) (by decide +kernel) (by decide +kernel) (z_eok z_kl_ok rfl zd_202 zx_202)
theorem zd_203 : z_db (zm_b zm_203) (zm_c zm_203) = true := by decide +kernel
theorem zx_203 : z_xb z_Ms z_kl zm_203 ((zm_c zm_203).zip [0, 0, 1212, 0, 4204, 0, 0, 0, 0, 0, 0, 1212, 0, 0, 0, 0, 0, 0, 0, 1212, 0, 0, 0, 0, 0, 0, 0, 0, 0, 1212, 0, 0, 0, 0, 0, 0, 0]) = true := by decide +kernel
theorem zo_203 : zMok z_Ms zm_203 := z_mok (by decide +kernel) (z_win 4 203 (w := .code (zm_y zm_203) (zm_b zm_203) (zm_L zm_203) (zm_r zm_203)) (by decide +kernel) rfl) (q := 1011) (by decide +kernel) (by decide +kernel) (by decide +kernel) (z_eok z_kl_ok rfl zd_203 zx_203)
theorem zd_204 : z_db (zm_b zm_204) (zm_c zm_204) = true := by decide +kernel
theorem zx_204 : z_xb z_Ms z_kl zm_204 ((zm_c zm_204).zip [0, 0, 0, 0, 1213, 0, 0, 0, 1213, 0, 0, 0, 0]) = true := by decide +kernel
theorem zo_204 : zMok z_Ms zm_204 := z_mok (by decide +kernel) (z_win 4 208 (w := .code (zm_y zm_204) (zm_b zm_204) (zm_L zm_204) (zm_r zm_204)) (by decide +kernel) rfl) (q := 1011) (by decide +kernel) (by decide +kernel) (by decide +kernel) (z_eok z_kl_ok rfl zd_204 zx_204)
theorem zd_205 : z_db (zm_b zm_205) (zm_c zm_205) = true := by decide +kernel
theorem zx_205 : z_xb z_Ms z_kl zm_205 ((zm_c zm_205).zip [0, 0, 0, 0, 1212, 0, 0, 0, 1212, 0, 0, 0, 0, 0, 0, 0, 0, 0, 0, 0, 0, 0, 0, 0, 0, 0, 0, 0, 0, 0, 0, 0, 4187, 0, 0, 4192, 0, 0, 0, 0, 0, 0, 0, 0, 0, 0, 0, 0, 0, 0, 0, 0, 0, 0, 4196, 0, 0, 2104, 0, 4200, 0, 0, 0, 0, 0]) = true := by decide +kernel
theorem zo_205 : zMok z_Ms zm_205 := z_mok (by decide +kernel) (z_win 4 186 (w := .code (zm_y zm_205) (zm_b zm_205) (zm_L zm_205) (zm_r zm_205)) (by decide +kernel) rfl) (q := 1011) (by decide +kernel) (by decide +kernel) (by decide +kernel) (z_eok z_kl_ok rfl zd_205 zx_205)
theorem zd_206 : z_db (zm_b zm_206) (zm_c zm_206) = true := by decide +kernel
theorem zx_206 : z_xb z_Ms z_kl zm_206 ((zm_c zm_206).zip [0, 1211, 0, 4163, 0, 0, 0, 0, 0, 0, 1211, 0, 0, 4164, 0, 0, 0, 0, 1211, 0, 4165, 0]) = true := by decide +kernel
theorem zo_206 : zMok z_Ms zm_206 := z_mok (by decide +kernel) (z_win 4 162 (w := .code (zm_y zm_206) (zm_b zm_206) (zm_L zm_206) (zm_r zm_206)) (by decide +kernel) rfl) (q := 1011) (by decide +kernel) (by decide +kernel) (by decide +kernel) (z_eok z_kl_ok rfl zd_206 zx_206)
theorem zd_207 : z_db (zm_b zm_207) (zm_c zm_207) = true := by decide +kernel
theorem zx_207 : z_xb z_Ms z_kl zm_207 ((zm_c zm_207).zip [0, 1211, 0, 4163, 0, 0, 0, 0, 0, 0, 0, 1212, 0, 0, 0, 1212, 0, 0, 0, 0, 0, 1211, 0, 0, 0, 0, 1212, 0, 0, 4191, 0, 1211, 0, 0, 4164, 0, 0, 0, 0, 1211, 0, 4165, 0]) = true := by decide +kernel
theorem zo_207 : zMok z_Ms zm_207 := z_mok (by decide +kernel) (z_win 4 190 (w := .code (zm_y zm_207) (zm_b zm_207) (zm_L zm_207) (zm_r zm_207)) (by decide +kernel) rfl) (q := 1011) (by decide +kernel) (by decide +kernel) (by decide +kernel) (z_eok z_kl_ok rfl zd_207 zx_207)
theorem zd_208 : z_db (zm_b zm_208) (zm_c zm_208) = true := by decide +kernel
theorem zx_208 : z_xb z_Ms z_kl zm_208 ((zm_c zm_208).zip [0, 2059, 0, 0, 1179, 2060, 0, 0, 1179, 2061, 0]) = true := by decide +kernel
theorem zo_208 : zMok z_Ms zm_208 := z_mok (by decide +kernel) (z_win 2 58 (w := .code (zm_y zm_208) (zm_b zm_208) (zm_L zm_208) (zm_r zm_208)) (by decide +kernel) rfl) (q := 1015) (by decide +kernel) (by decide +kernel) (by decide +kernel) (z_eok z_kl_ok rfl zd_208 zx_208)
theorem zd_209 : z_db (zm_b zm_209) (zm_c zm_209) = true := by decide +kernel
theorem zx_209 : z_xb z_Ms z_kl zm_209 ((zm_c zm_209).zip [0, 0, 2062, 0]) = true := by decide +kernel
theorem zo_209 : zMok z_Ms zm_209 := z_mok (by decide +kernel) (z_win 3 74 (w := .code (zm_y zm_209) (zm_b zm_209) (zm_L zm_209) (zm_r zm_209)) (by decide +kernel) rfl) (q := 1015) (by decide +kernel) (by decide +kernel) (by decide +kernel) (z_eok z_kl_ok rfl zd_209 zx_209)
theorem zd_210 : z_db (zm_b zm_210) (zm_c zm_210) = true := by decide +kernel
theorem zx_210 : z_xb z_Ms z_kl zm_210 ((zm_c zm_210).zip [0, 0, 0, 0, 0, 0, 0, 0, 0, 0, 0, 0, 0, 0, 0, 0, 0, 0, 0, 0, 0]) = true := by decide +kernel
theorem zo_210 : zMok z_Ms zm_210 := z_mok (by decide +kernel) (z_win 4 22 (w := .code (zm_y zm_210) (zm_b zm_210) (zm_L zm_210) (zm_r zm_210)) (by decide +kernel) rfl) (q := 1015) (by decide +kernel) (by decide +kernel) (by decide +kernel) (z_eok z_kl_ok rfl zd_210 zx_210)
theorem zd_211 : z_db (zm_b zm_211) (zm_c zm_211) = true := by decide +kernel
theorem zx_211 : z_xb z_Ms z_kl zm_211 ((zm_c zm_211).zip [0, 0, 0, 0, 0, 0, 0, 0, 0, 0, 0, 0, 0, 0, 0, 0, 0, 0, 0, 0, 0, 0, 0, 0, 0, 0, 0, 0, 0, 0, 0, 0, 0, 0, 0, 0, 0, 0, 0, 0, 0, 0, 0, 0, 0, 0, 0, 0, 0, 0, 0, 0, 0, 0, 0, 0, 0, 0, 0, 0, 0, 0, 0, 0, 0, 0, 0]) = true := by decide +kernel
theorem zo_211 : zMok z_Ms zm_211 := z_mok (by decide +kernel) (z_win 4 29 (w := .code (zm_y zm_211) (zm_b zm_211) (zm_L zm_211) (zm_r zm_211)) (by decide +kernel) rfl) (q := 1015) (by decide +kernel) (by decide +kernel) (by decide +kernel) (z_eok z_kl_ok rfl zd_211 zx_211)
theorem zd_212 : z_db (zm_b zm_212) (zm_c zm_212) = true := by decide +kernel
theorem zx_212 : z_xb z_Ms z_kl zm_212 ((zm_c zm_212).zip [0, 0, 0, 0, 2063, 0, 0, 2064, 0, 0, 2065, 0, 0, 0, 0, 0, 0, 0]) = true := by decide +kernel
theorem zo_212 : zMok z_Ms zm_212 := z_mok (by decide +kernel) (z_win 4 26 (w := .code (zm_y zm_212) (zm_b zm_212) (zm_L zm_212) (zm_r zm_212)) (by decide +kernel) rfl) (q := 1015) (by decide +kernel) (by decide +kernel) (by decide +kernel) (z_eok z_kl_ok rfl zd_212 zx_212)
theorem zd_213 : z_db (zm_b zm_213) (zm_c zm_213) = true := by decide +kernel
theorem zx_213 : z_xb z_Ms z_kl zm_213 ((zm_c zm_213).zip [0, 2062, 0, 2060, 0, 0, 0, 2060, 0, 2062, 0, 0, 0, 0, 2062, 0, 0, 2062, 0]) = true := by decide +kernel
theorem zo_213 : zMok z_Ms zm_213 := z_mok (by decide +kernel) (z_win 3 147 (w := .code (zm_y zm_213) (zm_b zm_213) (zm_L zm_213) (zm_r zm_213)) (by decide +kernel) rfl) (q := 1015) (by decide +kernel) (by decide +kernel) (by decide +kernel) (z_eok z_kl_ok rfl zd_213 zx_213)
theorem zd_214 : z_db (zm_b zm_214) (zm_c zm_214) = true := by decide +kernel
theorem zx_214 : z_xb z_Ms z_kl zm_214 ((zm_c zm_214).zip [0, 0, 2063, 0, 0, 2064, 0, 0, 2065, 0]) = true := by decide +kernel
theorem zo_214 : zMok z_Ms zm_214 := z_mok (by decide +kernel) (z_win 4 10 (w := .code (zm_y zm_214) (zm_b zm_214) (zm_L zm_214) (zm_r zm_214)) (by decide +kernel) rfl) (q := 1015) (by decide +kernel) (by decide +kernel) (by decide +kernel) (z_eok z_kl_ok rfl zd_214 zx_214)
theorem zd_215 : z_db (zm_b zm_215) (zm_c zm_215) = true := by decide +kernel
theorem zx_215 : z_xb z_Ms z_kl zm_215 ((zm_c zm_215).zip [0, 2062, 0, 0, 2063, 0, 2064, 0, 0, 0, 0, 0, 0, 0, 0, 2062, 0, 0, 2060, 0, 0, 0, 0, 0, 0, 0, 0, 0, 0, 2061, 0, 0, 0, 0, 2061, 0, 0, 0, 0, 0, 0, 0, 0, 0, 0, 0, 4020, 0, 0, 0, 2061, 0, 0, 0, 2061, 0, 0, 0, 0, 0, 4023, 0, 0, 0, 0, 0, 0, 0, 0, 2061, 0, 0, 0, 0, 0, 0, 2061, 0, 0, 0, 0, 0, 2061, 0, 0, 4027, 0, 0, 0, 0, 2061, 0, 0, 0]) = true := by decide +kernel
theorem zo_215 : zMok z_Ms zm_215 := z_mok (by decide +kernel) (z_win 4 19 (w := .code (zm_y zm_215) (zm_b zm_215) (zm_L zm_215) (zm_r zm_215)) (by decide +kernel) rfl) (q := 1015) (by decide +kernel) (by decide +kernel) (by decide +kernel) (z_eok z_kl_ok rfl zd_215 zx_215)
