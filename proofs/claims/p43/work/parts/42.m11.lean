/-! methods 264 to 287 -/
theorem zd_264 : z_db (zm_b zm_264) (zm_c zm_264) = true := by decide +kernel
theorem zx_264 : z_xb z_Ms z_kl zm_264 ((zm_c zm_264).zip [0, 0, 0, 0, 2113, 0, 0, 0, 0, 0, 0, 0, 0]) = true := by decide +kernel
theorem zo_264 : zMok z_Ms zm_264 := z_mok (by decide +kernel) (z_win 3 235 (w := .code (zm_y zm_264) (zm_b zm_264) (zm_L zm_264) (zm_r zm_264)) (by decide +kernel) rfl) (q := 1014) (by decide +kernel) (by decide +kernel) (by decide +kernel) (z_eok z_kl_ok rfl zd_264 zx_264)
theorem zd_265 : z_db (zm_b zm_265) (zm_c zm_265) = true := by decide +kernel
theorem zx_265 : z_xb z_Ms z_kl zm_265 ((zm_c zm_265).zip [0, 0, 0, 0, 2107, 0, 0, 0, 0, 0, 0, 0, 0]) = true := by decide +kernel
theorem zo_265 : zMok z_Ms zm_265 := z_mok (by decide +kernel) (z_win 3 202 (w := .code (zm_y zm_265) (zm_b zm_265) (zm_L zm_265) (zm_r zm_265)) (by decide +kernel) rfl) (q := 1014) (by decide +kernel) (by decide +kernel) (by decide +kernel) (z_eok z_kl_ok rfl zd_265 zx_265)
theorem zd_266 : z_db (zm_b zm_266) (zm_c zm_266) = true := by decide +kernel
theorem zx_266 : z_xb z_Ms z_kl zm_266 ((zm_c zm_266).zip [0, 0, 3207, 0, 0, 2083, 0, 0, 0, 0, 0]) = true := by decide +kernel
theorem zo_266 : zMok z_Ms zm_266 := z_mok (by decide +kernel) (z_win 3 206 (w := .code (zm_y zm_266) (zm_b zm_266) (zm_L zm_266) (zm_r zm_266)) (by decide +kernel) rfl) (q := 1014) (by decide +kernel) (by decide +kernel) (by decide +kernel) (z_eok z_kl_ok rfl zd_266 zx_266)
theorem zd_267 : z_db (zm_b zm_267) (zm_c zm_267) = true := by decide +kernel
theorem zx_267 : z_xb z_Ms z_kl zm_267 ((zm_c zm_267).zip [0, 0, 0, 5101, 0, 0, 0, 0, 5101, 0, 0, 0, 0, 5101, 0, 0, 0, 0, 5101, 0, 0, 0, 5102, 0, 0, 0, 5102, 0, 0, 0, 0, 0, 0, 0, 0, 0, 0, 0, 0, 0, 0, 0, 0, 0, 0]) = true := by decide +kernel
theorem zo_267 : zMok z_Ms zm_267 := z_mok (by decide +kernel) (z_win 5 100 (w := .code (zm_y zm_267) (zm_b zm_267) (zm_L zm_267) (zm_r zm_267)) (by decide +kernel) rfl) (q := 1014) (by decide +kernel) (by decide +kernel) (by decide +kernel) (z_eok z_kl_ok rfl zd_267 zx_267)
theorem zd_268 : z_db (zm_b zm_268) (zm_c zm_268) = true := by decide +kernel
theorem zx_268 : z_xb z_Ms z_kl zm_268 ((zm_c zm_268).zip [0, 0, 0, 0, 5113, 0, 0, 0, 0, 0, 5113, 0, 0, 0, 0, 0]) = true := by decide +kernel
theorem zo_268 : zMok z_Ms zm_268 := z_mok (by decide +kernel) (z_win 5 112 (w := .code (zm_y zm_268) (zm_b zm_268) (zm_L zm_268) (zm_r zm_268)) (by decide +kernel) rfl) (q := 1014) (by decide +kernel) (by decide +kernel) (by decide +kernel) (z_eok z_kl_ok rfl zd_268 zx_268)
theorem zd_269 : z_db (zm_b zm_269) (zm_c zm_269) = true := by decide +kernel
theorem zx_269 : z_xb z_Ms z_kl zm_269 ((zm_c zm_269).zip [0, 0, 4137, 0, 0, 0, 4138, 0, 0, 0, 0, 0, 2102, 0, 0, 0, 0, 4137, 5117, 0, 0, 0, 0, 4138, 5102, 0, 0, 0, 0, 0, 0, 5101, 0, 0, 0, 0, 0, 0, 0, 0, 0, 2102, 0, 0, 0, 0, 0, 0, 0, 5101, 0, 0, 0, 0, 0, 0, 0, 0, 0, 0, 0, 0, 0, 0]) = true := by decide +kernel
theorem zo_269 : zMok z_Ms zm_269 := z_mok (by decide +kernel) (z_win 5 116 (w := .code (zm_y zm_269) (zm_b zm_269) (zm_L zm_269) (zm_r zm_269)) (by decide +kernel) rfl) (q := 1014) (by decide +kernel) (by decide +kernel) (by decide +kernel) (z_eok z_kl_ok rfl zd_269 zx_269)
theorem zd_270 : z_db (zm_b zm_270) (zm_c zm_270) = true := by decide +kernel
theorem zx_270 : z_xb z_Ms z_kl zm_270 ((zm_c zm_270).zip [0, 0, 0, 0, 0, 0, 0, 0, 0, 3116, 0, 0, 0, 0, 0, 0, 2085, 0, 0, 0, 2085, 0, 0, 0, 0]) = true := by decide +kernel
theorem zo_270 : zMok z_Ms zm_270 := z_mok (by decide +kernel) (z_win 3 115 (w := .code (zm_y zm_270) (zm_b zm_270) (zm_L zm_270) (zm_r zm_270)) (by decide +kernel) rfl) (q := 1014) (by decide +kernel) (by decide +kernel) (by decide +kernel) (z_eok z_kl_ok rfl zd_270 zx_270)
theorem zd_271 : z_db (zm_b zm_271) (zm_c zm_271) = true := by decide +kernel
theorem zx_271 : z_xb z_Ms z_kl zm_271 ((zm_c zm_271).zip [0, 2086, 0, 0, 3120, 0, 0, 0]) = true := by decide +kernel
theorem zo_271 : zMok z_Ms zm_271 := z_mok (by decide +kernel) (z_win 3 119 (w := .code (zm_y zm_271) (zm_b zm_271) (zm_L zm_271) (zm_r zm_271)) (by decide +kernel) rfl) (q := 1014) (by decide +kernel) (by decide +kernel) (by decide +kernel) (z_eok z_kl_ok rfl zd_271 zx_271)
theorem zd_272 : z_db (zm_b zm_272) (zm_c zm_272) = true := by decide +kernel
theorem zx_272 : z_xb z_Ms z_kl zm_272 ((zm_c zm_272).zip [0, 0, 3190, 0, 0, 2079, 0, 0, 0, 0, 0]) = true := by decide +kernel
theorem zo_272 : zMok z_Ms zm_272 := z_mok (by decide +kernel) (z_win 3 189 (w := .code (zm_y zm_272) (zm_b zm_272) (zm_L zm_272) (zm_r zm_272)) (by decide +kernel) rfl) (q := 1014) (by decide +kernel) (by decide +kernel) (by decide +kernel) (z_eok z_kl_ok rfl zd_272 zx_272)
theorem zd_273 : z_db (zm_b zm_273) (zm_c zm_273) = true := by decide +kernel
theorem zx_273 : z_xb z_Ms z_kl zm_273 ((zm_c zm_273).zip [0, 0, 4137, 0, 0, 4138, 0, 0]) = true := by decide +kernel
theorem zo_273 : zMok z_Ms zm_273 := z_mok (by decide +kernel) (z_win 4 136 (w := .code (zm_y zm_273) (zm_b zm_273) (zm_L zm_273) (zm_r zm_273)) (by decide +kernel) rfl) (q := 1014) (by decide +kernel) (by decide +kernel) (by decide +kernel) (z_eok z_kl_ok rfl zd_273 zx_273)
theorem zd_274 : z_db (zm_b zm_274) (zm_c zm_274) = true := by decide +kernel
theorem zx_274 : z_xb z_Ms z_kl zm_274 ((zm_c zm_274).zip [0, 0, 3190, 0, 0, 2081, 0, 0, 0, 0, 0]) = true := by decide +kernel
theorem zo_274 : zMok z_Ms zm_274 := z_mok (by decide +kernel) (z_win 3 194 (w := .code (zm_y zm_274) (zm_b zm_274) (zm_L zm_274) (zm_r zm_274)) (by decide +kernel) rfl) (q := 1014) (by decide +kernel) (by decide +kernel) (by decide +kernel) (z_eok z_kl_ok rfl zd_274 zx_274)
theorem zd_275 : z_db (zm_b zm_275) (zm_c zm_275) = true := by decide +kernel
theorem zx_275 : z_xb z_Ms z_kl zm_275 ((zm_c zm_275).zip [0, 1040, 0, 0, 1121, 1091, 0, 0, 0, 0, 0, 0, 0, 0, 1042, 0, 0, 0, 1052, 0, 0, 0, 0, 0, 1090, 0, 0, 0, 0, 0, 0, 0, 0, 0, 0, 0, 0, 1091, 0, 0, 0, 1091, 0, 0, 0, 0, 0, 0, 0, 0, 0]) = true := by decide +kernel
theorem zo_275 : zMok z_Ms zm_275 := z_mok (by decide +kernel) (z_win 1 39 (w := .code (zm_y zm_275) (zm_b zm_275) (zm_L zm_275) (zm_r zm_275)) (by decide +kernel) rfl) (q := 1003) (by decide +kernel) (by decide +kernel) (by decide +kernel) (z_eok z_kl_ok rfl zd_275 zx_275)
theorem zd_276 : z_db (zm_b zm_276) (zm_c zm_276) = true := by decide +kernel
theorem zx_276 : z_xb z_Ms z_kl zm_276 ((zm_c zm_276).zip [0, 0, 1092, 0, 0, 0, 0, 0, 0, 2234, 1093, 0, 0, 1094, 0, 2237, 0]) = true := by decide +kernel
theorem zo_276 : zMok z_Ms zm_276 := z_mok (by decide +kernel) (z_win 2 233 (w := .code (zm_y zm_276) (zm_b zm_276) (zm_L zm_276) (zm_r zm_276)) (by decide +kernel) rfl) (q := 1003) (by decide +kernel) (by decide +kernel) (by decide +kernel) (z_eok z_kl_ok rfl zd_276 zx_276)
theorem zd_277 : z_db (zm_b zm_277) (zm_c zm_277) = true := by decide +kernel
theorem zx_277 : z_xb z_Ms z_kl zm_277 ((zm_c zm_277).zip [0, 0, 1099, 0, 1094, 0, 1093, 0, 0, 1092, 0, 1094, 0, 0, 0, 0, 1092, 0, 1094, 0, 0, 0, 0, 0, 1099, 0, 0, 0, 1092, 0, 1094, 0, 0, 0, 0, 1099, 0, 0, 1094, 0, 0, 1094, 0, 0, 1094, 0, 1093, 0, 0, 1092, 0, 1094, 0, 0, 0, 0, 1092, 0, 1094, 0, 0, 0, 0, 0, 0, 0, 0, 0, 0, 0, 1094, 0, 1095, 0, 0, 0, 0, 0, 0, 1098, 0]) = true := by decide +kernel
theorem zo_277 : zMok z_Ms zm_277 := z_mok (by decide +kernel) (z_win 3 8 (w := .code (zm_y zm_277) (zm_b zm_277) (zm_L zm_277) (zm_r zm_277)) (by decide +kernel) rfl) (q := 1003) (by decide +kernel) (by decide +kernel) (by decide +kernel) (z_eok z_kl_ok rfl zd_277 zx_277)
theorem zd_278 : z_db (zm_b zm_278) (zm_c zm_278) = true := by decide +kernel
theorem zx_278 : z_xb z_Ms z_kl zm_278 ((zm_c zm_278).zip [0, 0, 1101, 0, 1094, 0, 1093, 0, 0, 1092, 0, 1094, 0, 0, 0, 0, 1092, 0, 1094, 0, 0, 0, 0, 0, 1101, 1090, 0, 0, 1092, 0, 1094, 0, 0, 0, 0, 0, 0, 0, 1101, 0, 0, 1094, 0, 0, 1094, 0, 0, 1094, 0, 1095, 0, 0, 0, 0, 0, 1098, 0, 0, 0, 1098, 0, 0, 0, 0, 1091, 0, 0, 0, 1091, 0, 0, 0, 1101, 0, 0, 0, 0, 0, 0, 1098, 0, 0, 0]) = true := by decide +kernel
theorem zo_278 : zMok z_Ms zm_278 := z_mok (by decide +kernel) (z_win 3 4 (w := .code (zm_y zm_278) (zm_b zm_278) (zm_L zm_278) (zm_r zm_278)) (by decide +kernel) rfl) (q := 1003) (by decide +kernel) (by decide +kernel) (by decide +kernel) (z_eok z_kl_ok rfl zd_278 zx_278)
theorem zd_279 : z_db (zm_b zm_279) (zm_c zm_279) = true := by decide +kernel
theorem zx_279 : z_xb z_Ms z_kl zm_279 ((zm_c zm_279).zip [0, 1094, 0, 1093, 0, 0, 1092, 0, 1094, 0, 0, 0, 0, 1092, 0, 1094, 0, 0, 0, 0, 0, 1094, 0, 0, 1094, 0, 0, 0, 1094, 1095, 0, 1094, 0, 1093, 0, 0, 0, 1098, 0, 0, 1092, 0, 1094, 0, 0, 0, 0, 0, 0, 0, 0, 0, 3001, 0, 0, 0, 0, 0, 0, 0, 0, 3005, 0, 0, 0, 0, 0, 0, 0, 3010, 0, 0, 0, 0, 1098, 0, 0, 1094, 0, 0, 1094, 0]) = true := by decide +kernel
theorem zo_279 : zMok z_Ms zm_279 := z_mok (by decide +kernel) (z_win 3 0 (w := .code (zm_y zm_279) (zm_b zm_279) (zm_L zm_279) (zm_r zm_279)) (by decide +kernel) rfl) (q := 1003) (by decide +kernel) (by decide +kernel) (by decide +kernel) (z_eok z_kl_ok rfl zd_279 zx_279)
theorem zd_280 : z_db (zm_b zm_280) (zm_c zm_280) = true := by decide +kernel
theorem zx_280 : z_xb z_Ms z_kl zm_280 ((zm_c zm_280).zip [0, 2017, 0, 0, 1179, 2018, 0, 0, 1179, 2019, 0, 0, 2045, 2020, 0, 0, 1179, 2021, 0, 0, 1179, 2022, 0, 0, 1179, 2023, 0]) = true := by decide +kernel
theorem zo_280 : zMok z_Ms zm_280 := z_mok (by decide +kernel) (z_win 2 16 (w := .code (zm_y zm_280) (zm_b zm_280) (zm_L zm_280) (zm_r zm_280)) (by decide +kernel) rfl) (q := 1013) (by decide +kernel) (by decide +kernel) (by decide +kernel) (z_eok z_kl_ok rfl zd_280 zx_280)
theorem zd_281 : z_db (zm_b zm_281) (zm_c zm_281) = true := by decide +kernel
theorem zx_281 : z_xb z_Ms z_kl zm_281 ((zm_c zm_281).zip [0, 0, 0, 0, 0, 0, 2112, 0, 0, 0, 0, 0, 5180, 0, 0, 0, 0, 0, 0, 0, 0, 0, 0, 0]) = true := by decide +kernel
theorem zo_281 : zMok z_Ms zm_281 := z_mok (by decide +kernel) (z_win 5 179 (w := .code (zm_y zm_281) (zm_b zm_281) (zm_L zm_281) (zm_r zm_281)) (by decide +kernel) rfl) (q := 1013) (by decide +kernel) (by decide +kernel) (by decide +kernel) (z_eok z_kl_ok rfl zd_281 zx_281)
theorem zd_282 : z_db (zm_b zm_282) (zm_c zm_282) = true := by decide +kernel
theorem zx_282 : z_xb z_Ms z_kl zm_282 ((zm_c zm_282).zip [0, 0, 2024, 0]) = true := by decide +kernel
theorem zo_282 : zMok z_Ms zm_282 := z_mok (by decide +kernel) (z_win 3 172 (w := .code (zm_y zm_282) (zm_b zm_282) (zm_L zm_282) (zm_r zm_282)) (by decide +kernel) rfl) (q := 1013) (by decide +kernel) (by decide +kernel) (by decide +kernel) (z_eok z_kl_ok rfl zd_282 zx_282)
theorem zd_283 : z_db (zm_b zm_283) (zm_c zm_283) = true := by decide +kernel
theorem zx_283 : z_xb z_Ms z_kl zm_283 ((zm_c zm_283).zip [0, 0, 0, 0, 0, 0, 2026, 0, 0, 5171, 0, 0, 0, 0, 0, 2026, 0, 0, 2026, 0, 2026, 0]) = true := by decide +kernel
theorem zo_283 : zMok z_Ms zm_283 := z_mok (by decide +kernel) (z_win 5 170 (w := .code (zm_y zm_283) (zm_b zm_283) (zm_L zm_283) (zm_r zm_283)) (by decide +kernel) rfl) (q := 1013) (by decide +kernel) (by decide +kernel) (by decide +kernel) (z_eok z_kl_ok rfl zd_283 zx_283)
theorem zd_284 : z_db (zm_b zm_284) (zm_c zm_284) = true := by decide +kernel
theorem zx_284 : z_xb z_Ms z_kl zm_284 ((zm_c zm_284).zip [0, 0, 0, 0, 2024, 0, 0, 0, 0, 0, 2021, 0, 0, 0, 0, 0, 2022, 0, 0, 0, 0, 0, 2022, 0, 0, 0, 0, 0, 0, 0, 0, 0, 2018, 0, 0, 0, 0, 0, 0, 5184, 0, 0, 0, 0, 2018, 0, 0, 5185, 0, 0, 0, 0, 0, 2019, 0, 0, 0, 0, 0, 0, 0, 2020, 0, 0, 0, 0, 0, 0, 0, 0, 0]) = true := by decide +kernel
theorem zo_284 : zMok z_Ms zm_284 := z_mok (by decide +kernel) (z_win 5 183 (w := .code (zm_y zm_284) (zm_b zm_284) (zm_L zm_284) (zm_r zm_284)) (by decide +kernel) rfl) (q := 1013) (by decide +kernel) (by decide +kernel) (by decide +kernel) (z_eok z_kl_ok rfl zd_284 zx_284)
theorem zd_285 : z_db (zm_b zm_285) (zm_c zm_285) = true := by decide +kernel
theorem zx_285 : z_xb z_Ms z_kl zm_285 ((zm_c zm_285).zip [0, 0, 0, 0, 2023, 0, 0, 0, 2023, 0, 0, 0, 0, 0, 0, 0, 0, 0, 0, 0, 2112, 0, 0, 0, 0, 5185, 0, 0, 0, 0, 0, 0, 0, 0, 0, 0, 0, 0, 2023, 0, 0, 0, 2023, 0, 0, 0, 0, 0, 0, 0, 0, 2023, 0, 0, 5199, 0, 0, 0, 0, 0]) = true := by decide +kernel
theorem zo_285 : zMok z_Ms zm_285 := z_mok (by decide +kernel) (z_win 5 198 (w := .code (zm_y zm_285) (zm_b zm_285) (zm_L zm_285) (zm_r zm_285)) (by decide +kernel) rfl) (q := 1013) (by decide +kernel) (by decide +kernel) (by decide +kernel) (z_eok z_kl_ok rfl zd_285 zx_285)
theorem zd_286 : z_db (zm_b zm_286) (zm_c zm_286) = true := by decide +kernel
theorem zx_286 : z_xb z_Ms z_kl zm_286 ((zm_c zm_286).zip [0, 0, 0, 5194, 0, 0, 0, 0, 0, 0, 0, 0, 0, 0, 0, 5195, 0, 0, 0, 0, 0, 2105, 0, 0, 0, 0, 0, 5195, 0, 0, 0, 0, 0, 0, 0, 0, 0, 0, 0, 0, 0, 0, 0, 0]) = true := by decide +kernel
theorem zo_286 : zMok z_Ms zm_286 := z_mok (by decide +kernel) (z_win 5 193 (w := .code (zm_y zm_286) (zm_b zm_286) (zm_L zm_286) (zm_r zm_286)) (by decide +kernel) rfl) (q := 1013) (by decide +kernel) (by decide +kernel) (by decide +kernel) (z_eok z_kl_ok rfl zd_286 zx_286)
theorem zd_287 : z_db (zm_b zm_287) (zm_c zm_287) = true := by decide +kernel
theorem zx_287 : z_xb z_Ms z_kl zm_287 ((zm_c zm_287).zip [0, 0, 0, 0, 2024, 0, 0, 0, 0, 0, 2022, 0, 0, 0, 0, 0, 0, 0, 2022, 0, 0, 2026, 0, 0, 0]) = true := by decide +kernel
theorem zo_287 : zMok z_Ms zm_287 := z_mok (by decide +kernel) (z_win 5 162 (w := .code (zm_y zm_287) (zm_b zm_287) (zm_L zm_287) (zm_r zm_287)) (by decide +kernel) rfl) (q := 1013) (by decide +kernel) (by decide +kernel) (by decide +kernel) (z_eok z_kl_ok rfl zd_287 zx_287)
