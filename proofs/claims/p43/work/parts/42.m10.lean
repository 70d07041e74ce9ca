/-! methods 240 to 263 -/
theorem zd_240 : z_db (zm_b zm_240) (zm_c zm_240) = true := by decide +kernel
theorem zx_240 : z_xb z_Ms z_kl zm_240 ((zm_c zm_240).zip [0, 1122, 1097, 0, 0, 0, 3088, 0, 0, 1122, 3083, 0, 0]) = true := by decide +kernel
theorem zo_240 : zMok z_Ms zm_240 := z_mok (by decide +kernel) (z_win 3 95 (w := .code (zm_y zm_240) (zm_b zm_240) (zm_L zm_240) (zm_r zm_240)) (by decide +kernel) rfl) (q := 1002) (by decide +kernel) (by decide +kernel) (by decide +kernel) (z_eok z_kl_ok rfl zd_240 zx_240)
theorem zd_241 : z_db (zm_b zm_241) (zm_c zm_241) = true := by decide +kernel
theorem zx_241 : z_xb z_Ms z_kl zm_241 ((zm_c zm_241).zip [0, 1122, 1097, 0, 0, 0, 0, 0, 0, 0, 0, 0, 3088, 0, 0, 0, 0, 0, 0, 0, 0, 0, 0, 1122, 1102, 0, 0, 0, 0, 3079, 0, 0, 0, 0, 0, 0, 1122, 1102, 0, 0, 1122, 3083, 0, 0]) = true := by decide +kernel
theorem zo_241 : zMok z_Ms zm_241 := z_mok (by decide +kernel) (z_win 3 87 (w := .code (zm_y zm_241) (zm_b zm_241) (zm_L zm_241) (zm_r zm_241)) (by decide +kernel) rfl) (q := 1002) (by decide +kernel) (by decide +kernel) (by decide +kernel) (z_eok z_kl_ok rfl zd_241 zx_241)
theorem zd_242 : z_db (zm_b zm_242) (zm_c zm_242) = true := by decide +kernel
theorem zx_242 : z_xb z_Ms z_kl zm_242 ((zm_c zm_242).zip [0, 1122, 1097, 0, 0, 0, 3088, 0, 0, 1122, 1100, 0, 0, 0, 1122, 1100, 0, 0, 0, 0, 3079, 0, 0, 0, 1122, 1100, 1129, 0, 1122, 3083, 0, 0]) = true := by decide +kernel
theorem zo_242 : zMok z_Ms zm_242 := z_mok (by decide +kernel) (z_win 3 103 (w := .code (zm_y zm_242) (zm_b zm_242) (zm_L zm_242) (zm_r zm_242)) (by decide +kernel) rfl) (q := 1002) (by decide +kernel) (by decide +kernel) (by decide +kernel) (z_eok z_kl_ok rfl zd_242 zx_242)
theorem zd_243 : z_db (zm_b zm_243) (zm_c zm_243) = true := by decide +kernel
theorem zx_243 : z_xb z_Ms z_kl zm_243 ((zm_c zm_243).zip [0, 0, 0, 2226, 0, 3067, 0, 0, 0, 0, 0, 0, 0, 0, 0, 0, 1122, 1097, 0, 0, 1122, 1097, 0, 0, 0, 3075, 0, 0, 0, 0, 3104, 0, 0, 0, 0, 3128, 0, 0, 0, 0, 3132, 0, 0, 0, 0, 3156, 0, 0, 0, 0, 3160, 0, 0, 0, 3088, 0, 0, 0, 0, 0, 3092, 0, 0, 0, 0, 0, 0, 0, 0, 0]) = true := by decide +kernel
theorem zo_243 : zMok z_Ms zm_243 := z_mok (by decide +kernel) (z_win 2 225 (w := .code (zm_y zm_243) (zm_b zm_243) (zm_L zm_243) (zm_r zm_243)) (by decide +kernel) rfl) (q := 1002) (by decide +kernel) (by decide +kernel) (by decide +kernel) (z_eok z_kl_ok rfl zd_243 zx_243)
theorem zd_244 : z_db (zm_b zm_244) (zm_c zm_244) = true := by decide +kernel
theorem zx_244 : z_xb z_Ms z_kl zm_244 ((zm_c zm_244).zip [0, 0, 3108, 0, 0, 0, 0, 1129, 0, 0, 1130, 0, 0, 0, 0, 0, 0, 0, 0, 3079, 0, 0, 0, 1130, 0, 0, 0, 0, 1130, 0, 1122, 3083, 0, 0, 3092, 0, 0, 0, 3108, 0, 0, 0, 0, 0, 0, 0, 1129, 3127, 0, 1122, 3083, 0, 0]) = true := by decide +kernel
theorem zo_244 : zMok z_Ms zm_244 := z_mok (by decide +kernel) (z_win 3 126 (w := .code (zm_y zm_244) (zm_b zm_244) (zm_L zm_244) (zm_r zm_244)) (by decide +kernel) rfl) (q := 1002) (by decide +kernel) (by decide +kernel) (by decide +kernel) (z_eok z_kl_ok rfl zd_244 zx_244)
theorem zd_245 : z_db (zm_b zm_245) (zm_c zm_245) = true := by decide +kernel
theorem zx_245 : z_xb z_Ms z_kl zm_245 ((zm_c zm_245).zip [0, 2103, 0, 0, 0, 0, 0, 0, 0, 0, 3079, 0, 0, 1122, 3083, 0, 0, 1123, 0, 3084, 0, 0, 0, 3092, 0, 0, 3096, 0, 0, 0, 0, 2080, 0, 0, 1129, 0, 0, 0, 3092, 0, 0, 3096, 0, 0, 0, 0, 2082, 0, 0, 1129, 0, 0, 0, 0, 0, 2103, 0, 0]) = true := by decide +kernel
theorem zo_245 : zMok z_Ms zm_245 := z_mok (by decide +kernel) (z_win 3 78 (w := .code (zm_y zm_245) (zm_b zm_245) (zm_L zm_245) (zm_r zm_245)) (by decide +kernel) rfl) (q := 1002) (by decide +kernel) (by decide +kernel) (by decide +kernel) (z_eok z_kl_ok rfl zd_245 zx_245)
theorem zd_246 : z_db (zm_b zm_246) (zm_c zm_246) = true := by decide +kernel
theorem zx_246 : z_xb z_Ms z_kl zm_246 ((zm_c zm_246).zip [0, 1128, 0, 0, 0, 3079, 0, 0, 0, 1128, 0, 1122, 3083, 0, 0, 0, 3100, 0, 0, 0, 0, 0, 1129, 2129, 0, 0]) = true := by decide +kernel
theorem zo_246 : zMok z_Ms zm_246 := z_mok (by decide +kernel) (z_win 3 163 (w := .code (zm_y zm_246) (zm_b zm_246) (zm_L zm_246) (zm_r zm_246)) (by decide +kernel) rfl) (q := 1002) (by decide +kernel) (by decide +kernel) (by decide +kernel) (z_eok z_kl_ok rfl zd_246 zx_246)
theorem zd_247 : z_db (zm_b zm_247) (zm_c zm_247) = true := by decide +kernel
theorem zx_247 : z_xb z_Ms z_kl zm_247 ((zm_c zm_247).zip [0, 2115, 0, 0, 0, 0, 0, 0, 0, 0, 3079, 0, 0, 1122, 3083, 0, 0, 1125, 0, 3084, 0, 0, 0, 3092, 0, 0, 0, 0, 3100, 0, 0, 0, 0, 2089, 0, 0, 1129, 0, 0, 0, 3092, 0, 0, 0, 0, 3100, 0, 0, 0, 0, 2093, 0, 0, 1129, 0, 0, 2097, 0, 0, 0, 0, 1122, 1097, 0, 0, 0, 1122, 3083, 0, 0, 0, 3100, 0, 0, 0, 0, 2097, 0, 0, 1129, 0, 0, 0, 0, 0, 2115, 0, 0]) = true := by decide +kernel
theorem zo_247 : zMok z_Ms zm_247 := z_mok (by decide +kernel) (z_win 3 131 (w := .code (zm_y zm_247) (zm_b zm_247) (zm_L zm_247) (zm_r zm_247)) (by decide +kernel) rfl) (q := 1002) (by decide +kernel) (by decide +kernel) (by decide +kernel) (z_eok z_kl_ok rfl zd_247 zx_247)
theorem zd_248 : z_db (zm_b zm_248) (zm_c zm_248) = true := by decide +kernel
theorem zx_248 : z_xb z_Ms z_kl zm_248 ((zm_c zm_248).zip [0, 0, 0, 0, 0, 3079, 0, 0, 1122, 3083, 0, 0, 0, 0, 0, 0, 3136, 0, 0, 0, 0, 2101, 0, 3144, 0, 0]) = true := by decide +kernel
theorem zo_248 : zMok z_Ms zm_248 := z_mok (by decide +kernel) (z_win 3 151 (w := .code (zm_y zm_248) (zm_b zm_248) (zm_L zm_248) (zm_r zm_248)) (by decide +kernel) rfl) (q := 1002) (by decide +kernel) (by decide +kernel) (by decide +kernel) (z_eok z_kl_ok rfl zd_248 zx_248)
theorem zd_249 : z_db (zm_b zm_249) (zm_c zm_249) = true := by decide +kernel
theorem zx_249 : z_xb z_Ms z_kl zm_249 ((zm_c zm_249).zip [0, 0, 0, 0, 0, 0, 3140, 0, 0, 0, 0, 0, 1122, 1097, 0, 0, 0, 0, 0, 3148, 0, 0, 0, 0, 0, 0, 0, 3136, 0, 0, 0, 0, 0, 0, 0, 0, 0, 0, 0, 0, 0, 0, 0, 0, 0, 3152, 0, 0, 1122, 1097, 0, 0, 1122, 3083, 0, 0, 0, 0, 0, 0, 3136, 0, 0, 0, 0, 2101, 0, 0, 3144, 0, 0, 0, 0]) = true := by decide +kernel
theorem zo_249 : zMok z_Ms zm_249 := z_mok (by decide +kernel) (z_win 3 139 (w := .code (zm_y zm_249) (zm_b zm_249) (zm_L zm_249) (zm_r zm_249)) (by decide +kernel) rfl) (q := 1002) (by decide +kernel) (by decide +kernel) (by decide +kernel) (z_eok z_kl_ok rfl zd_249 zx_249)
theorem zd_250 : z_db (zm_b zm_250) (zm_c zm_250) = true := by decide +kernel
theorem zx_250 : z_xb z_Ms z_kl zm_250 ((zm_c zm_250).zip [0, 2111, 0, 0, 0, 0, 0, 0, 0, 0, 3079, 0, 0, 1122, 3083, 0, 0, 1124, 0, 3084, 0, 0, 0, 3092, 0, 0, 0, 0, 3100, 0, 0, 0, 0, 2084, 0, 0, 1129, 0, 0, 0, 3092, 0, 0, 0, 3108, 0, 0, 0, 0, 0, 0, 1129, 3112, 0, 0, 1130, 0, 1122, 3083, 0, 0, 0, 0, 0, 0, 1122, 1097, 0, 0, 0, 1122, 3083, 0, 0, 0, 3123, 0, 0, 0, 0, 0, 0, 0, 0, 0, 2111, 0, 0]) = true := by decide +kernel
theorem zo_250 : zMok z_Ms zm_250 := z_mok (by decide +kernel) (z_win 3 107 (w := .code (zm_y zm_250) (zm_b zm_250) (zm_L zm_250) (zm_r zm_250)) (by decide +kernel) rfl) (q := 1002) (by decide +kernel) (by decide +kernel) (by decide +kernel) (z_eok z_kl_ok rfl zd_250 zx_250)
theorem zd_251 : z_db (zm_b zm_251) (zm_c zm_251) = true := by decide +kernel
theorem zx_251 : z_xb z_Ms z_kl zm_251 ((zm_c zm_251).zip [0, 1122, 1097, 0, 0, 0, 0, 0, 0, 0, 0, 0, 0, 0, 0, 0, 0, 0, 0, 0, 0, 0, 0, 0, 0, 0, 0, 0, 0, 0, 0, 0, 3088, 0, 0, 2118, 0, 0, 0, 0, 0, 0, 0, 0, 0, 0, 3079, 0, 0, 0, 2118, 0, 0, 2118, 0, 1122, 1100, 0, 0, 1122, 3083, 0, 0, 0, 0, 0, 0, 0, 0, 0, 3136, 0, 0, 0, 3092, 0, 0, 0, 0, 0, 0, 2101, 0, 0, 0, 0, 0, 0, 3144, 0, 0]) = true := by decide +kernel
theorem zo_251 : zMok z_Ms zm_251 := z_mok (by decide +kernel) (z_win 3 143 (w := .code (zm_y zm_251) (zm_b zm_251) (zm_L zm_251) (zm_r zm_251)) (by decide +kernel) rfl) (q := 1002) (by decide +kernel) (by decide +kernel) (by decide +kernel) (z_eok z_kl_ok rfl zd_251 zx_251)
theorem zd_252 : z_db (zm_b zm_252) (zm_c zm_252) = true := by decide +kernel
theorem zx_252 : z_xb z_Ms z_kl zm_252 ((zm_c zm_252).zip [0, 1126, 0, 0, 0, 3079, 0, 0, 0, 1126, 0, 1122, 3083, 0, 0, 0, 0, 3136, 0]) = true := by decide +kernel
theorem zo_252 : zMok z_Ms zm_252 := z_mok (by decide +kernel) (z_win 3 135 (w := .code (zm_y zm_252) (zm_b zm_252) (zm_L zm_252) (zm_r zm_252)) (by decide +kernel) rfl) (q := 1002) (by decide +kernel) (by decide +kernel) (by decide +kernel) (z_eok z_kl_ok rfl zd_252 zx_252)
theorem zd_253 : z_db (zm_b zm_253) (zm_c zm_253) = true := by decide +kernel
theorem zx_253 : z_xb z_Ms z_kl zm_253 ((zm_c zm_253).zip [0, 1127, 0, 0, 0, 3079, 0, 0, 0, 1127, 0, 1122, 3083, 0, 0, 0, 3100, 0, 0, 0, 0, 0, 1129, 2121, 0, 0, 3092, 0, 0, 0, 0, 3100, 0, 0, 0, 0, 0, 1129, 2125, 0, 0]) = true := by decide +kernel
theorem zo_253 : zMok z_Ms zm_253 := z_mok (by decide +kernel) (z_win 3 159 (w := .code (zm_y zm_253) (zm_b zm_253) (zm_L zm_253) (zm_r zm_253)) (by decide +kernel) rfl) (q := 1002) (by decide +kernel) (by decide +kernel) (by decide +kernel) (z_eok z_kl_ok rfl zd_253 zx_253)
theorem zd_254 : z_db (zm_b zm_254) (zm_c zm_254) = true := by decide +kernel
theorem zx_254 : z_xb z_Ms z_kl zm_254 ((zm_c zm_254).zip [0, 0, 1131, 0, 0, 1122, 1096, 1133, 0, 0]) = true := by decide +kernel
theorem zo_254 : zMok z_Ms zm_254 := z_mok (by decide +kernel) (z_win 3 82 (w := .code (zm_y zm_254) (zm_b zm_254) (zm_L zm_254) (zm_r zm_254)) (by decide +kernel) rfl) (q := 1002) (by decide +kernel) (by decide +kernel) (by decide +kernel) (z_eok z_kl_ok rfl zd_254 zx_254)
theorem zd_255 : z_db (zm_b zm_255) (zm_c zm_255) = true := by decide +kernel
theorem zx_255 : z_xb z_Ms z_kl zm_255 ((zm_c zm_255).zip [0, 0, 1122, 1097, 0, 0, 0, 0, 0, 3079, 0]) = true := by decide +kernel
theorem zo_255 : zMok z_Ms zm_255 := z_mok (by decide +kernel) (z_win 3 91 (w := .code (zm_y zm_255) (zm_b zm_255) (zm_L zm_255) (zm_r zm_255)) (by decide +kernel) rfl) (q := 1002) (by decide +kernel) (by decide +kernel) (by decide +kernel) (z_eok z_kl_ok rfl zd_255 zx_255)
theorem zd_256 : z_db (zm_b zm_256) (zm_c zm_256) = true := by decide +kernel
theorem zx_256 : z_xb z_Ms z_kl zm_256 ((zm_c zm_256).zip [0, 1122, 1097, 0, 0, 0, 0, 0, 0, 0, 0, 0, 1122, 1097, 0, 0, 0, 3088, 0, 0, 1122, 3083, 0, 0, 0, 3100, 0, 0, 0, 0, 0, 0, 0, 1129, 0, 0, 0, 1129, 1129, 0, 0]) = true := by decide +kernel
theorem zo_256 : zMok z_Ms zm_256 := z_mok (by decide +kernel) (z_win 3 99 (w := .code (zm_y zm_256) (zm_b zm_256) (zm_L zm_256) (zm_r zm_256)) (by decide +kernel) rfl) (q := 1002) (by decide +kernel) (by decide +kernel) (by decide +kernel) (z_eok z_kl_ok rfl zd_256 zx_256)
theorem zd_257 : z_db (zm_b zm_257) (zm_c zm_257) = true := by decide +kernel
theorem zx_257 : z_xb z_Ms z_kl zm_257 ((zm_c zm_257).zip [0, 2053, 0, 0, 1179, 2079, 0, 0, 1179, 2081, 0, 0, 1179, 2083, 0, 0, 1179, 2085, 0, 0, 1179, 2086, 0, 0, 1179, 2087, 0, 0, 1179, 2091, 0, 0, 1179, 2095, 0, 2054, 0, 0, 2099, 0, 0, 2124, 0]) = true := by decide +kernel
theorem zo_257 : zMok z_Ms zm_257 := z_mok (by decide +kernel) (z_win 2 52 (w := .code (zm_y zm_257) (zm_b zm_257) (zm_L zm_257) (zm_r zm_257)) (by decide +kernel) rfl) (q := 1014) (by decide +kernel) (by decide +kernel) (by decide +kernel) (z_eok z_kl_ok rfl zd_257 zx_257)
theorem zd_258 : z_db (zm_b zm_258) (zm_c zm_258) = true := by decide +kernel
theorem zx_258 : z_xb z_Ms z_kl zm_258 ((zm_c zm_258).zip [0, 0, 3207, 0, 0, 0, 0, 0, 3190, 0, 0, 2086, 0, 0, 3120, 0, 0, 0, 2085, 0, 0, 0]) = true := by decide +kernel
theorem zo_258 : zMok z_Ms zm_258 := z_mok (by decide +kernel) (z_win 3 211 (w := .code (zm_y zm_258) (zm_b zm_258) (zm_L zm_258) (zm_r zm_258)) (by decide +kernel) rfl) (q := 1014) (by decide +kernel) (by decide +kernel) (by decide +kernel) (z_eok z_kl_ok rfl zd_258 zx_258)
theorem zd_259 : z_db (zm_b zm_259) (zm_c zm_259) = true := by decide +kernel
theorem zx_259 : z_xb z_Ms z_kl zm_259 ((zm_c zm_259).zip [0, 0, 3207, 0, 0, 0, 3207, 0, 0, 2083, 0, 0, 0, 2083, 0, 0, 0, 0, 0, 0, 0]) = true := by decide +kernel
theorem zo_259 : zMok z_Ms zm_259 := z_mok (by decide +kernel) (z_win 5 1 (w := .code (zm_y zm_259) (zm_b zm_259) (zm_L zm_259) (zm_r zm_259)) (by decide +kernel) rfl) (q := 1014) (by decide +kernel) (by decide +kernel) (by decide +kernel) (z_eok z_kl_ok rfl zd_259 zx_259)
theorem zd_260 : z_db (zm_b zm_260) (zm_c zm_260) = true := by decide +kernel
theorem zx_260 : z_xb z_Ms z_kl zm_260 ((zm_c zm_260).zip [0, 0, 0, 0, 0, 0, 0, 0, 0, 0, 0, 0, 0, 0, 0, 0, 0]) = true := by decide +kernel
theorem zo_260 : zMok z_Ms zm_260 := z_mok (by decide +kernel) (z_win 3 122 (w := .code (zm_y zm_260) (zm_b zm_260) (zm_L zm_260) (zm_r zm_260)) (by decide +kernel) rfl) (q := 1014) (by decide +kernel) (by decide +kernel) (by decide +kernel) (z_eok z_kl_ok rfl zd_260 zx_260)
theorem zd_261 : z_db (zm_b zm_261) (zm_c zm_261) = true := by decide +kernel
theorem zx_261 : z_xb z_Ms z_kl zm_261 ((zm_c zm_261).zip [0, 2099, 3071, 0, 0, 2102, 0, 0, 2107, 0, 0, 2113, 0, 0, 2117, 0, 0, 2120, 0, 0, 2124, 0, 0, 2127, 0]) = true := by decide +kernel
theorem zo_261 : zMok z_Ms zm_261 := z_mok (by decide +kernel) (z_win 3 70 (w := .code (zm_y zm_261) (zm_b zm_261) (zm_L zm_261) (zm_r zm_261)) (by decide +kernel) rfl) (q := 1014) (by decide +kernel) (by decide +kernel) (by decide +kernel) (z_eok z_kl_ok rfl zd_261 zx_261)
theorem zd_262 : z_db (zm_b zm_262) (zm_c zm_262) = true := by decide +kernel
theorem zx_262 : z_xb z_Ms z_kl zm_262 ((zm_c zm_262).zip [0, 0, 0, 0, 2102, 0, 0, 0, 0, 5041, 0, 0, 0, 5041, 0, 0, 0, 0, 0, 0, 0]) = true := by decide +kernel
theorem zo_262 : zMok z_Ms zm_262 := z_mok (by decide +kernel) (z_win 5 40 (w := .code (zm_y zm_262) (zm_b zm_262) (zm_L zm_262) (zm_r zm_262)) (by decide +kernel) rfl) (q := 1014) (by decide +kernel) (by decide +kernel) (by decide +kernel) (z_eok z_kl_ok rfl zd_262 zx_262)
theorem zd_263 : z_db (zm_b zm_263) (zm_c zm_263) = true := by decide +kernel
theorem zx_263 : z_xb z_Ms z_kl zm_263 ((zm_c zm_263).zip [0, 0, 0, 0, 2102, 0, 0, 0, 0, 0, 0, 0, 0]) = true := by decide +kernel
theorem zo_263 : zMok z_Ms zm_263 := z_mok (by decide +kernel) (z_win 3 184 (w := .code (zm_y zm_263) (zm_b zm_263) (zm_L zm_263) (zm_r zm_263)) (by decide +kernel) rfl) (q := 1014) (by decide +kernel) (by decide +kernel) (by decide +kernel) (z_eok z_kl_ok rfl zd_263 zx_263)
