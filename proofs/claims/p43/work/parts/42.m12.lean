/-! methods 288 to 311 -/
theorem zd_288 : z_db (zm_b zm_288) (zm_c zm_288) = true := by decide +kernel
theorem zx_288 : z_xb z_Ms z_kl zm_288 ((zm_c zm_288).zip [0, 2024, 0, 0, 2024, 0, 0, 0, 0, 0, 2018, 0, 2024, 0, 0, 0, 2019, 0, 2024, 0, 0, 0, 2020, 0, 2024, 0, 0, 0, 2021, 0, 2024, 0, 2026, 0, 0, 2022, 0, 2024, 0, 0, 0, 0, 2024, 0, 0, 2024, 0, 2024, 0, 0, 0]) = true := by decide +kernel
theorem zo_288 : zMok z_Ms zm_288 := z_mok (by decide +kernel) (z_win 5 150 (w := .code (zm_y zm_288) (zm_b zm_288) (zm_L zm_288) (zm_r zm_288)) (by decide +kernel) rfl) (q := 1013) (by decide +kernel) (by decide +kernel) (by decide +kernel) (z_eok z_kl_ok rfl zd_288 zx_288)
theorem zd_289 : z_db (zm_b zm_289) (zm_c zm_289) = true := by decide +kernel
theorem zx_289 : z_xb z_Ms z_kl zm_289 ((zm_c zm_289).zip [0, 1170, 0, 0, 1179, 1175, 0, 0, 1171, 0]) = true := by decide +kernel
theorem zo_289 : zMok z_Ms zm_289 := z_mok (by decide +kernel) (z_win 1 169 (w := .code (zm_y zm_289) (zm_b zm_289) (zm_L zm_289) (zm_r zm_289)) (by decide +kernel) rfl) (q := 1009) (by decide +kernel) (by decide +kernel) (by decide +kernel) (z_eok z_kl_ok rfl zd_289 zx_289)
theorem zd_290 : z_db (zm_b zm_290) (zm_c zm_290) = true := by decide +kernel
theorem zx_290 : z_xb z_Ms z_kl zm_290 ((zm_c zm_290).zip [0, 0, 0, 0, 1175, 0, 0, 0, 0, 0, 0]) = true := by decide +kernel
theorem zo_290 : zMok z_Ms zm_290 := z_mok (by decide +kernel) (z_win 4 122 (w := .code (zm_y zm_290) (zm_b zm_290) (zm_L zm_290) (zm_r zm_290)) (by decide +kernel) rfl) (q := 1009) (by decide +kernel) (by decide +kernel) (by decide +kernel) (z_eok z_kl_ok rfl zd_290 zx_290)
theorem zd_291 : z_db (zm_b zm_291) (zm_c zm_291) = true := by decide +kernel
theorem zx_291 : z_xb z_Ms z_kl zm_291 ((zm_c zm_291).zip [0, 0, 0, 0, 1175, 0, 0, 0, 0, 0, 0, 0]) = true := by decide +kernel
theorem zo_291 : zMok z_Ms zm_291 := z_mok (by decide +kernel) (z_win 4 62 (w := .code (zm_y zm_291) (zm_b zm_291) (zm_L zm_291) (zm_r zm_291)) (by decide +kernel) rfl) (q := 1009) (by decide +kernel) (by decide +kernel) (by decide +kernel) (z_eok z_kl_ok rfl zd_291 zx_291)
theorem zd_292 : z_db (zm_b zm_292) (zm_c zm_292) = true := by decide +kernel
theorem zx_292 : z_xb z_Ms z_kl zm_292 ((zm_c zm_292).zip [0, 0, 4058, 0, 0, 0, 0, 0, 0, 0, 0, 4059, 0, 0, 0, 0, 0, 0, 0, 0, 0, 0, 4063, 4064, 0]) = true := by decide +kernel
theorem zo_292 : zMok z_Ms zm_292 := z_mok (by decide +kernel) (z_win 4 57 (w := .code (zm_y zm_292) (zm_b zm_292) (zm_L zm_292) (zm_r zm_292)) (by decide +kernel) rfl) (q := 1009) (by decide +kernel) (by decide +kernel) (by decide +kernel) (z_eok z_kl_ok rfl zd_292 zx_292)
theorem zd_293 : z_db (zm_b zm_293) (zm_c zm_293) = true := by decide +kernel
theorem zx_293 : z_xb z_Ms z_kl zm_293 ((zm_c zm_293).zip [0, 0, 0, 0, 1175, 0, 0, 0, 0, 0, 0, 0]) = true := by decide +kernel
theorem zo_293 : zMok z_Ms zm_293 := z_mok (by decide +kernel) (z_win 4 53 (w := .code (zm_y zm_293) (zm_b zm_293) (zm_L zm_293) (zm_r zm_293)) (by decide +kernel) rfl) (q := 1009) (by decide +kernel) (by decide +kernel) (by decide +kernel) (z_eok z_kl_ok rfl zd_293 zx_293)
theorem zd_294 : z_db (zm_b zm_294) (zm_c zm_294) = true := by decide +kernel
theorem zx_294 : z_xb z_Ms z_kl zm_294 ((zm_c zm_294).zip [0, 0, 0, 0, 1175, 0, 0, 0, 0, 0, 1175, 0, 0, 0, 0, 0, 0, 0, 0]) = true := by decide +kernel
theorem zo_294 : zMok z_Ms zm_294 := z_mok (by decide +kernel) (z_win 3 223 (w := .code (zm_y zm_294) (zm_b zm_294) (zm_L zm_294) (zm_r zm_294)) (by decide +kernel) rfl) (q := 1009) (by decide +kernel) (by decide +kernel) (by decide +kernel) (z_eok z_kl_ok rfl zd_294 zx_294)
theorem zd_295 : z_db (zm_b zm_295) (zm_c zm_295) = true := by decide +kernel
theorem zx_295 : z_xb z_Ms z_kl zm_295 ((zm_c zm_295).zip [0, 0, 0, 4132, 0, 0, 0, 0, 4132, 0, 0, 1175, 0, 0, 0, 0, 0, 0, 4133, 0, 0, 0, 1175, 0, 0, 0, 0, 0, 0, 4133, 0, 0, 0, 1175, 0, 0, 0, 0, 1175, 0, 0, 0, 0, 0, 0, 0, 0, 0, 1175, 0, 0, 0, 0, 0, 0, 1175, 0, 0, 0, 0, 0, 0, 0, 0, 0, 0, 0, 1175, 0, 0, 0, 0, 0, 0, 0, 0, 0, 0, 0, 1175, 0, 0, 0, 0, 0, 0, 0, 1175, 0, 0, 1175, 0, 0, 0, 0, 0, 0, 0, 0, 0, 0, 0, 0, 1175, 0, 0, 0, 0, 0, 2122, 0, 0, 0, 0, 0, 0, 0, 0, 1175, 0, 0, 0, 0, 2126, 0, 0, 0, 1175, 0, 0, 0, 0, 2126, 0, 0, 0, 0]) = true := by decide +kernel
theorem zo_295 : zMok z_Ms zm_295 := z_mok (by decide +kernel) (z_win 4 131 (w := .code (zm_y zm_295) (zm_b zm_295) (zm_L zm_295) (zm_r zm_295)) (by decide +kernel) rfl) (q := 1009) (by decide +kernel) (by decide +kernel) (by decide +kernel) (z_eok z_kl_ok rfl zd_295 zx_295)
theorem zd_296 : z_db (zm_b zm_296) (zm_c zm_296) = true := by decide +kernel
theorem zx_296 : z_xb z_Ms z_kl zm_296 ((zm_c zm_296).zip [0, 1175, 0, 0, 0]) = true := by decide +kernel
theorem zo_296 : zMok z_Ms zm_296 := z_mok (by decide +kernel) (z_win 4 15 (w := .code (zm_y zm_296) (zm_b zm_296) (zm_L zm_296) (zm_r zm_296)) (by decide +kernel) rfl) (q := 1009) (by decide +kernel) (by decide +kernel) (by decide +kernel) (z_eok z_kl_ok rfl zd_296 zx_296)
theorem zd_297 : z_db (zm_b zm_297) (zm_c zm_297) = true := by decide +kernel
theorem zx_297 : z_xb z_Ms z_kl zm_297 ((zm_c zm_297).zip [0, 0, 0, 0, 1175, 0, 0, 0, 0, 0, 0, 0, 0, 0, 1175, 0, 0, 0, 0, 0, 0, 1175, 0, 0, 0, 0, 0, 0, 0]) = true := by decide +kernel
theorem zo_297 : zMok z_Ms zm_297 := z_mok (by decide +kernel) (z_win 4 110 (w := .code (zm_y zm_297) (zm_b zm_297) (zm_L zm_297) (zm_r zm_297)) (by decide +kernel) rfl) (q := 1009) (by decide +kernel) (by decide +kernel) (by decide +kernel) (z_eok z_kl_ok rfl zd_297 zx_297)
theorem zd_298 : z_db (zm_b zm_298) (zm_c zm_298) = true := by decide +kernel
theorem zx_298 : z_xb z_Ms z_kl zm_298 ((zm_c zm_298).zip [0, 1175, 0, 0, 0]) = true := by decide +kernel
theorem zo_298 : zMok z_Ms zm_298 := z_mok (by decide +kernel) (z_win 5 220 (w := .code (zm_y zm_298) (zm_b zm_298) (zm_L zm_298) (zm_r zm_298)) (by decide +kernel) rfl) (q := 1009) (by decide +kernel) (by decide +kernel) (by decide +kernel) (z_eok z_kl_ok rfl zd_298 zx_298)
theorem zd_299 : z_db (zm_b zm_299) (zm_c zm_299) = true := by decide +kernel
theorem zx_299 : z_xb z_Ms z_kl zm_299 ((zm_c zm_299).zip [0, 0, 0, 0, 1175, 0, 0, 0, 0, 0, 0, 0]) = true := by decide +kernel
theorem zo_299 : zMok z_Ms zm_299 := z_mok (by decide +kernel) (z_win 4 49 (w := .code (zm_y zm_299) (zm_b zm_299) (zm_L zm_299) (zm_r zm_299)) (by decide +kernel) rfl) (q := 1009) (by decide +kernel) (by decide +kernel) (by decide +kernel) (z_eok z_kl_ok rfl zd_299 zx_299)
theorem zd_300 : z_db (zm_b zm_300) (zm_c zm_300) = true := by decide +kernel
theorem zx_300 : z_xb z_Ms z_kl zm_300 ((zm_c zm_300).zip [0, 0, 0, 1175, 0, 0, 1175, 0, 0, 4104, 0]) = true := by decide +kernel
theorem zo_300 : zMok z_Ms zm_300 := z_mok (by decide +kernel) (z_win 4 103 (w := .code (zm_y zm_300) (zm_b zm_300) (zm_L zm_300) (zm_r zm_300)) (by decide +kernel) rfl) (q := 1009) (by decide +kernel) (by decide +kernel) (by decide +kernel) (z_eok z_kl_ok rfl zd_300 zx_300)
theorem zd_301 : z_db (zm_b zm_301) (zm_c zm_301) = true := by decide +kernel
theorem zx_301 : z_xb z_Ms z_kl zm_301 ((zm_c zm_301).zip [0, 0, 0, 0, 0, 0, 1175, 0, 0, 0, 0, 0, 0]) = true := by decide +kernel
theorem zo_301 : zMok z_Ms zm_301 := z_mok (by decide +kernel) (z_win 3 219 (w := .code (zm_y zm_301) (zm_b zm_301) (zm_L zm_301) (zm_r zm_301)) (by decide +kernel) rfl) (q := 1009) (by decide +kernel) (by decide +kernel) (by decide +kernel) (z_eok z_kl_ok rfl zd_301 zx_301)
theorem zd_302 : z_db (zm_b zm_302) (zm_c zm_302) = true := by decide +kernel
theorem zx_302 : z_xb z_Ms z_kl zm_302 ((zm_c zm_302).zip [0, 0, 0, 0, 1175, 0, 0, 0, 0, 0, 0, 0]) = true := by decide +kernel
theorem zo_302 : zMok z_Ms zm_302 := z_mok (by decide +kernel) (z_win 4 44 (w := .code (zm_y zm_302) (zm_b zm_302) (zm_L zm_302) (zm_r zm_302)) (by decide +kernel) rfl) (q := 1009) (by decide +kernel) (by decide +kernel) (by decide +kernel) (z_eok z_kl_ok rfl zd_302 zx_302)
theorem zd_303 : z_db (zm_b zm_303) (zm_c zm_303) = true := by decide +kernel
theorem zx_303 : z_xb z_Ms z_kl zm_303 ((zm_c zm_303).zip [0, 0, 0, 0, 1175, 0, 0, 0, 1175, 0, 0, 0, 0, 0, 0, 0, 0, 0, 0, 0, 1175, 0, 0, 0, 0, 0, 0, 1175, 0, 0, 0, 0, 0, 0, 1175, 0, 0, 0, 0, 0, 0, 0, 0, 1175, 0, 0, 0, 0]) = true := by decide +kernel
theorem zo_303 : zMok z_Ms zm_303 := z_mok (by decide +kernel) (z_win 1 174 (w := .code (zm_y zm_303) (zm_b zm_303) (zm_L zm_303) (zm_r zm_303)) (by decide +kernel) rfl) (q := 1009) (by decide +kernel) (by decide +kernel) (by decide +kernel) (z_eok z_kl_ok rfl zd_303 zx_303)
theorem zd_304 : z_db (zm_b zm_304) (zm_c zm_304) = true := by decide +kernel
theorem zx_304 : z_xb z_Ms z_kl zm_304 ((zm_c zm_304).zip [0, 0, 0, 0, 4222, 0, 0, 0, 0, 4223, 0, 0, 0, 0, 4223, 0, 0, 0, 0, 0, 0, 0, 0, 4224, 0, 0, 0, 0, 0, 0, 0, 0, 0, 0, 0, 0, 0, 0, 0, 0, 0, 0]) = true := by decide +kernel
theorem zo_304 : zMok z_Ms zm_304 := z_mok (by decide +kernel) (z_win 4 221 (w := .code (zm_y zm_304) (zm_b zm_304) (zm_L zm_304) (zm_r zm_304)) (by decide +kernel) rfl) (q := 1020) (by decide +kernel) (by decide +kernel) (by decide +kernel) (z_eok z_kl_ok rfl zd_304 zx_304)
theorem zd_305 : z_db (zm_b zm_305) (zm_c zm_305) = true := by decide +kernel
theorem zx_305 : z_xb z_Ms z_kl zm_305 ((zm_c zm_305).zip [0, 1056, 0, 0, 9034, 0, 1060, 0]) = true := by decide +kernel
theorem zo_305 : zMok z_Ms zm_305 := z_mok (by decide +kernel) (z_win 1 55 (w := .code (zm_y zm_305) (zm_b zm_305) (zm_L zm_305) (zm_r zm_305)) (by decide +kernel) rfl) (q := 1004) (by decide +kernel) (by decide +kernel) (by decide +kernel) (z_eok z_kl_ok rfl zd_305 zx_305)
theorem zd_306 : z_db (zm_b zm_306) (zm_c zm_306) = true := by decide +kernel
theorem zx_306 : z_xb z_Ms z_kl zm_306 ((zm_c zm_306).zip [0, 0, 1066, 1068, 0, 0]) = true := by decide +kernel
theorem zo_306 : zMok z_Ms zm_306 := z_mok (by decide +kernel) (z_win 1 65 (w := .code (zm_y zm_306) (zm_b zm_306) (zm_L zm_306) (zm_r zm_306)) (by decide +kernel) rfl) (q := 1004) (by decide +kernel) (by decide +kernel) (by decide +kernel) (z_eok z_kl_ok rfl zd_306 zx_306)
theorem zd_307 : z_db (zm_b zm_307) (zm_c zm_307) = true := by decide +kernel
theorem zx_307 : z_xb z_Ms z_kl zm_307 ((zm_c zm_307).zip [1050, 0, 0, 9035, 0, 0]) = true := by decide +kernel
theorem zo_307 : zMok z_Ms zm_307 := z_mok (by decide +kernel) (z_win 1 49 (w := .code (zm_y zm_307) (zm_b zm_307) (zm_L zm_307) (zm_r zm_307)) (by decide +kernel) rfl) (q := 1004) (by decide +kernel) (by decide +kernel) (by decide +kernel) (z_eok z_kl_ok rfl zd_307 zx_307)
theorem zd_308 : z_db (zm_b zm_308) (zm_c zm_308) = true := by decide +kernel
theorem zx_308 : z_xb z_Ms z_kl zm_308 ((zm_c zm_308).zip [0, 0, 0, 3014, 0]) = true := by decide +kernel
theorem zo_308 : zMok z_Ms zm_308 := z_mok (by decide +kernel) (z_win 3 13 (w := .code (zm_y zm_308) (zm_b zm_308) (zm_L zm_308) (zm_r zm_308)) (by decide +kernel) rfl) (q := 1004) (by decide +kernel) (by decide +kernel) (by decide +kernel) (z_eok z_kl_ok rfl zd_308 zx_308)
theorem zd_309 : z_db (zm_b zm_309) (zm_c zm_309) = true := by decide +kernel
theorem zx_309 : z_xb z_Ms z_kl zm_309 ((zm_c zm_309).zip [0, 1056, 0, 0, 9034, 0, 0, 0, 3018, 3019, 0, 0]) = true := by decide +kernel
theorem zo_309 : zMok z_Ms zm_309 := z_mok (by decide +kernel) (z_win 3 17 (w := .code (zm_y zm_309) (zm_b zm_309) (zm_L zm_309) (zm_r zm_309)) (by decide +kernel) rfl) (q := 1004) (by decide +kernel) (by decide +kernel) (by decide +kernel) (z_eok z_kl_ok rfl zd_309 zx_309)
theorem zd_310 : z_db (zm_b zm_310) (zm_c zm_310) = true := by decide +kernel
theorem zx_310 : z_xb z_Ms z_kl zm_310 ((zm_c zm_310).zip [1050, 0, 0, 9035, 0, 0, 0, 0]) = true := by decide +kernel
theorem zo_310 : zMok z_Ms zm_310 := z_mok (by decide +kernel) (z_win 1 59 (w := .code (zm_y zm_310) (zm_b zm_310) (zm_L zm_310) (zm_r zm_310)) (by decide +kernel) rfl) (q := 1004) (by decide +kernel) (by decide +kernel) (by decide +kernel) (z_eok z_kl_ok rfl zd_310 zx_310)
theorem zd_311 : z_db (zm_b zm_311) (zm_c zm_311) = true := by decide +kernel
theorem zx_311 : z_xb z_Ms z_kl zm_311 ((zm_c zm_311).zip [0, 9034, 0, 0, 1046, 0, 0]) = true := by decide +kernel
theorem zo_311 : zMok z_Ms zm_311 := z_mok (by decide +kernel) (z_win 1 45 (w := .code (zm_y zm_311) (zm_b zm_311) (zm_L zm_311) (zm_r zm_311)) (by decide +kernel) rfl) (q := 1004) (by decide +kernel) (by decide +kernel) (by decide +kernel) (z_eok z_kl_ok rfl zd_311 zx_311)
