/-! methods 312 to 316 -/
theorem zd_312 : z_db (zm_b zm_312) (zm_c zm_312) = true := by decide +kernel
theorem zx_312 : z_xb z_Ms z_kl zm_312 ((zm_c zm_312).zip [0, 0, 0, 0, 0, 0, 0, 0]) = true := by decide +kernel
theorem zo_312 : zMok z_Ms zm_312 := z_mok (by decide +kernel) (z_win 3 24 (w := .code (zm_y zm_312) (zm_b zm_312) (zm_L zm_312) (zm_r zm_312)) (by decide +kernel) rfl) (q := 1005) (by decide +kernel) (by decide +kernel) (by decide +kernel) (z_eok z_kl_ok rfl zd_312 zx_312)
theorem zd_313 : z_db (zm_b zm_313) (zm_c zm_313) = true := by decide +kernel
theorem zx_313 : z_xb z_Ms z_kl zm_313 ((zm_c zm_313).zip [0, 0, 0, 1063, 0, 0, 0, 0, 0, 0, 0]) = true := by decide +kernel
theorem zo_313 : zMok z_Ms zm_313 := z_mok (by decide +kernel) (z_win 1 62 (w := .code (zm_y zm_313) (zm_b zm_313) (zm_L zm_313) (zm_r zm_313)) (by decide +kernel) rfl) (q := 1005) (by decide +kernel) (by decide +kernel) (by decide +kernel) (z_eok z_kl_ok rfl zd_313 zx_313)
theorem zd_314 : z_db (zm_b zm_314) (zm_c zm_314) = true := by decide +kernel
theorem zx_314 : z_xb z_Ms z_kl zm_314 ((zm_c zm_314).zip [0, 3022, 0, 0, 0, 3025, 0, 0, 0, 0, 3028, 0, 0, 0, 0, 0, 0, 0, 0, 0, 0, 3029, 0]) = true := by decide +kernel
theorem zo_314 : zMok z_Ms zm_314 := z_mok (by decide +kernel) (z_win 3 21 (w := .code (zm_y zm_314) (zm_b zm_314) (zm_L zm_314) (zm_r zm_314)) (by decide +kernel) rfl) (q := 1005) (by decide +kernel) (by decide +kernel) (by decide +kernel) (z_eok z_kl_ok rfl zd_314 zx_314)
theorem zd_315 : z_db (zm_b zm_315) (zm_c zm_315) = true := by decide +kernel
theorem zx_315 : z_xb z_Ms z_kl zm_315 ((zm_c zm_315).zip [0, 0, 0, 0, 0, 0, 0, 0, 0, 0, 0, 0, 0, 0, 0, 0, 0, 0, 0]) = true := by decide +kernel
theorem zo_315 : zMok z_Ms zm_315 := z_mok (by decide +kernel) (z_win 3 31 (w := .code (zm_y zm_315) (zm_b zm_315) (zm_L zm_315) (zm_r zm_315)) (by decide +kernel) rfl) (q := 1005) (by decide +kernel) (by decide +kernel) (by decide +kernel) (z_eok z_kl_ok rfl zd_315 zx_315)
theorem zd_316 : z_db (zm_b zm_316) (zm_c zm_316) = true := by decide +kernel
theorem zx_316 : z_xb z_Ms z_kl zm_316 ((zm_c zm_316).zip [0, 0, 0, 0, 0, 0, 0]) = true := by decide +kernel
theorem zo_316 : zMok z_Ms zm_316 := z_mok (by decide +kernel) (z_win 1 70 (w := .code (zm_y zm_316) (zm_b zm_316) (zm_L zm_316) (zm_r zm_316)) (by decide +kernel) rfl) (q := 1006) (by decide +kernel) (by decide +kernel) (by decide +kernel) (z_eok z_kl_ok rfl zd_316 zx_316)
