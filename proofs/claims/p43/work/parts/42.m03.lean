/-! methods 72 to 95 -/
theorem zd_72 : z_db (zm_b zm_72) (zm_c zm_72) = true := by decide +kernel
theorem zx_72 : z_xb z_Ms z_kl zm_72 ((zm_c zm_72).zip [0, 0, 6037, 0, 0, 6046, 0, 0, 6017, 0, 6046, 0, 7054, 0]) = true := by decide +kernel
theorem zo_72 : zMok z_Ms zm_72 := z_mok (by decide +kernel) (z_win 7 53 (w := .code (zm_y zm_72) (zm_b zm_72) (zm_L zm_72) (zm_r zm_72)) (by decide +kernel) rfl) (q := 1016) (by decide +kernel) (by decide +kernel) (by decide +kernel) (z_eok z_kl_ok rfl zd_72 zx_72)
theorem zd_73 : z_db (zm_b zm_73) (zm_c zm_73) = true := by decide +kernel
theorem zx_73 : z_xb z_Ms z_kl zm_73 ((zm_c zm_73).zip [0, 0, 0, 0, 0, 0, 0, 0, 0, 0, 0, 0, 0, 0, 0, 0, 0]) = true := by decide +kernel
theorem zo_73 : zMok z_Ms zm_73 := z_mok (by decide +kernel) (z_win 8 111 (w := .code (zm_y zm_73) (zm_b zm_73) (zm_L zm_73) (zm_r zm_73)) (by decide +kernel) rfl) (q := 1016) (by decide +kernel) (by decide +kernel) (by decide +kernel) (z_eok z_kl_ok rfl zd_73 zx_73)
theorem zd_74 : z_db (zm_b zm_74) (zm_c zm_74) = true := by decide +kernel
theorem zx_74 : z_xb z_Ms z_kl zm_74 ((zm_c zm_74).zip [0, 6053, 0, 0, 0, 0, 0, 0, 0, 0, 0, 6053, 0, 0, 0, 0, 0, 0, 0, 7147, 0, 0, 0, 6053, 0, 0, 0, 0, 0, 0, 0, 7151, 0, 0, 0, 6053, 0, 0, 6053, 0, 0, 0, 0, 0, 0, 0, 0, 0, 0, 0]) = true := by decide +kernel
theorem zo_74 : zMok z_Ms zm_74 := z_mok (by decide +kernel) (z_win 8 54 (w := .code (zm_y zm_74) (zm_b zm_74) (zm_L zm_74) (zm_r zm_74)) (by decide +kernel) rfl) (q := 1016) (by decide +kernel) (by decide +kernel) (by decide +kernel) (z_eok z_kl_ok rfl zd_74 zx_74)
theorem zd_75 : z_db (zm_b zm_75) (zm_c zm_75) = true := by decide +kernel
theorem zx_75 : z_xb z_Ms z_kl zm_75 ((zm_c zm_75).zip [0, 0, 7159, 0, 0, 0, 0, 7142, 0, 0, 6003, 0, 0, 0, 0, 7179, 0, 0, 0]) = true := by decide +kernel
theorem zo_75 : zMok z_Ms zm_75 := z_mok (by decide +kernel) (z_win 7 178 (w := .code (zm_y zm_75) (zm_b zm_75) (zm_L zm_75) (zm_r zm_75)) (by decide +kernel) rfl) (q := 1016) (by decide +kernel) (by decide +kernel) (by decide +kernel) (z_eok z_kl_ok rfl zd_75 zx_75)
theorem zd_76 : z_db (zm_b zm_76) (zm_c zm_76) = true := by decide +kernel
theorem zx_76 : z_xb z_Ms z_kl zm_76 ((zm_c zm_76).zip [0, 0, 0, 0, 6072, 0, 0, 6069, 0, 0, 0, 0, 0, 6070, 0, 0, 0, 0, 6070, 0, 0, 0, 0, 0, 0, 6066, 0, 0, 0, 0, 0, 0, 7167, 0, 6067, 0, 0, 0, 0, 0, 0, 0, 0, 0, 0, 6066, 0, 0, 7179, 0, 6067, 0, 0, 0, 0, 0, 0, 0, 0, 0, 6068, 0, 0, 0, 0, 0, 0, 0, 0, 0, 0, 0, 0, 0, 0]) = true := by decide +kernel
theorem zo_76 : zMok z_Ms zm_76 := z_mok (by decide +kernel) (z_win 9 4 (w := .code (zm_y zm_76) (zm_b zm_76) (zm_L zm_76) (zm_r zm_76)) (by decide +kernel) rfl) (q := 1016) (by decide +kernel) (by decide +kernel) (by decide +kernel) (z_eok z_kl_ok rfl zd_76 zx_76)
theorem zd_77 : z_db (zm_b zm_77) (zm_c zm_77) = true := by decide +kernel
theorem zx_77 : z_xb z_Ms z_kl zm_77 ((zm_c zm_77).zip [0, 0, 0, 0, 0, 6028, 0, 0, 0, 6045, 0, 0, 0, 0, 0, 0, 0, 0, 0, 0, 0, 0, 7171, 0, 0, 0]) = true := by decide +kernel
theorem zo_77 : zMok z_Ms zm_77 := z_mok (by decide +kernel) (z_win 7 182 (w := .code (zm_y zm_77) (zm_b zm_77) (zm_L zm_77) (zm_r zm_77)) (by decide +kernel) rfl) (q := 1016) (by decide +kernel) (by decide +kernel) (by decide +kernel) (z_eok z_kl_ok rfl zd_77 zx_77)
theorem zd_78 : z_db (zm_b zm_78) (zm_c zm_78) = true := by decide +kernel
theorem zx_78 : z_xb z_Ms z_kl zm_78 ((zm_c zm_78).zip [0, 0, 8035, 0, 0, 0, 7138, 0, 0, 6053, 0, 0, 0, 0, 0, 0, 0, 0, 0, 8019, 0, 0, 0, 0, 7213, 0, 0, 6053, 0, 0, 0, 0, 0, 0, 0]) = true := by decide +kernel
theorem zo_78 : zMok z_Ms zm_78 := z_mok (by decide +kernel) (z_win 8 34 (w := .code (zm_y zm_78) (zm_b zm_78) (zm_L zm_78) (zm_r zm_78)) (by decide +kernel) rfl) (q := 1016) (by decide +kernel) (by decide +kernel) (by decide +kernel) (z_eok z_kl_ok rfl zd_78 zx_78)
theorem zd_79 : z_db (zm_b zm_79) (zm_c zm_79) = true := by decide +kernel
theorem zx_79 : z_xb z_Ms z_kl zm_79 ((zm_c zm_79).zip [0, 0, 6049, 0, 0, 6048, 0, 0, 0, 7098, 0, 0, 0, 7022, 0, 0, 6049, 0, 0, 0, 0, 7102, 0, 0, 7118, 0, 0, 0]) = true := by decide +kernel
theorem zo_79 : zMok z_Ms zm_79 := z_mok (by decide +kernel) (z_win 7 97 (w := .code (zm_y zm_79) (zm_b zm_79) (zm_L zm_79) (zm_r zm_79)) (by decide +kernel) rfl) (q := 1016) (by decide +kernel) (by decide +kernel) (by decide +kernel) (z_eok z_kl_ok rfl zd_79 zx_79)
theorem zd_80 : z_db (zm_b zm_80) (zm_c zm_80) = true := by decide +kernel
theorem zx_80 : z_xb z_Ms z_kl zm_80 ((zm_c zm_80).zip [0, 8019, 0, 0, 7229, 0, 0, 0, 7229, 0, 0, 0, 0, 8023, 0, 0, 0, 0, 0, 0, 0, 8023, 0, 0, 0, 0, 0, 0]) = true := by decide +kernel
theorem zo_80 : zMok z_Ms zm_80 := z_mok (by decide +kernel) (z_win 8 18 (w := .code (zm_y zm_80) (zm_b zm_80) (zm_L zm_80) (zm_r zm_80)) (by decide +kernel) rfl) (q := 1016) (by decide +kernel) (by decide +kernel) (by decide +kernel) (z_eok z_kl_ok rfl zd_80 zx_80)
theorem zd_81 : z_db (zm_b zm_81) (zm_c zm_81) = true := by decide +kernel
theorem zx_81 : z_xb z_Ms z_kl zm_81 ((zm_c zm_81).zip [0, 7210, 0, 0, 0, 7229, 0, 0, 0]) = true := by decide +kernel
theorem zo_81 : zMok z_Ms zm_81 := z_mok (by decide +kernel) (z_win 7 228 (w := .code (zm_y zm_81) (zm_b zm_81) (zm_L zm_81) (zm_r zm_81)) (by decide +kernel) rfl) (q := 1016) (by decide +kernel) (by decide +kernel) (by decide +kernel) (z_eok z_kl_ok rfl zd_81 zx_81)
theorem zd_82 : z_db (zm_b zm_82) (zm_c zm_82) = true := by decide +kernel
theorem zx_82 : z_xb z_Ms z_kl zm_82 ((zm_c zm_82).zip [0, 7221, 0, 0, 0, 7233, 0]) = true := by decide +kernel
theorem zo_82 : zMok z_Ms zm_82 := z_mok (by decide +kernel) (z_win 7 232 (w := .code (zm_y zm_82) (zm_b zm_82) (zm_L zm_82) (zm_r zm_82)) (by decide +kernel) rfl) (q := 1016) (by decide +kernel) (by decide +kernel) (by decide +kernel) (z_eok z_kl_ok rfl zd_82 zx_82)
theorem zd_83 : z_db (zm_b zm_83) (zm_c zm_83) = true := by decide +kernel
theorem zx_83 : z_xb z_Ms z_kl zm_83 ((zm_c zm_83).zip [0, 6040, 0, 6047, 0, 0, 0, 6041, 0, 6047, 0, 0, 0, 0, 6047, 0, 0, 6047, 0]) = true := by decide +kernel
theorem zo_83 : zMok z_Ms zm_83 := z_mok (by decide +kernel) (z_win 7 117 (w := .code (zm_y zm_83) (zm_b zm_83) (zm_L zm_83) (zm_r zm_83)) (by decide +kernel) rfl) (q := 1016) (by decide +kernel) (by decide +kernel) (by decide +kernel) (z_eok z_kl_ok rfl zd_83 zx_83)
theorem zd_84 : z_db (zm_b zm_84) (zm_c zm_84) = true := by decide +kernel
theorem zx_84 : z_xb z_Ms z_kl zm_84 ((zm_c zm_84).zip [0, 0, 0, 0, 6008, 0, 0, 0, 0, 0, 6008, 0, 0]) = true := by decide +kernel
theorem zo_84 : zMok z_Ms zm_84 := z_mok (by decide +kernel) (z_win 9 33 (w := .code (zm_y zm_84) (zm_b zm_84) (zm_L zm_84) (zm_r zm_84)) (by decide +kernel) rfl) (q := 1016) (by decide +kernel) (by decide +kernel) (by decide +kernel) (z_eok z_kl_ok rfl zd_84 zx_84)
theorem zd_85 : z_db (zm_b zm_85) (zm_c zm_85) = true := by decide +kernel
theorem zx_85 : z_xb z_Ms z_kl zm_85 ((zm_c zm_85).zip [0, 0, 0, 0, 0, 0, 6056, 0, 0, 6057, 0, 0, 0, 0, 0, 0, 6056, 0, 0, 6057, 0, 0, 0, 0, 6053, 0, 0, 0, 0, 6053, 0, 0, 0, 0, 0, 0]) = true := by decide +kernel
theorem zo_85 : zMok z_Ms zm_85 := z_mok (by decide +kernel) (z_win 8 62 (w := .code (zm_y zm_85) (zm_b zm_85) (zm_L zm_85) (zm_r zm_85)) (by decide +kernel) rfl) (q := 1016) (by decide +kernel) (by decide +kernel) (by decide +kernel) (z_eok z_kl_ok rfl zd_85 zx_85)
theorem zd_86 : z_db (zm_b zm_86) (zm_c zm_86) = true := by decide +kernel
theorem zx_86 : z_xb z_Ms z_kl zm_86 ((zm_c zm_86).zip [0, 6010, 0, 0, 0, 0, 6010, 0, 0, 6011, 0]) = true := by decide +kernel
theorem zo_86 : zMok z_Ms zm_86 := z_mok (by decide +kernel) (z_win 7 45 (w := .code (zm_y zm_86) (zm_b zm_86) (zm_L zm_86) (zm_r zm_86)) (by decide +kernel) rfl) (q := 1016) (by decide +kernel) (by decide +kernel) (by decide +kernel) (z_eok z_kl_ok rfl zd_86 zx_86)
theorem zd_87 : z_db (zm_b zm_87) (zm_c zm_87) = true := by decide +kernel
theorem zx_87 : z_xb z_Ms z_kl zm_87 ((zm_c zm_87).zip [0, 0, 0, 6003, 0, 0, 7142, 0, 7146, 0, 0, 0, 0, 0, 0, 0, 0, 0, 7142, 0, 0, 0, 0, 0, 7142, 0, 0, 0, 0, 8188, 0, 0, 0, 8188, 0, 0, 0, 0, 0, 0, 0, 0, 0, 8192, 0, 0, 0, 8192, 0, 0, 0, 0, 0, 0, 0, 0, 0, 0, 0, 0, 0, 0, 0, 0, 0, 0, 0, 0, 0, 0, 8188, 0]) = true := by decide +kernel
theorem zo_87 : zMok z_Ms zm_87 := z_mok (by decide +kernel) (z_win 8 187 (w := .code (zm_y zm_87) (zm_b zm_87) (zm_L zm_87) (zm_r zm_87)) (by decide +kernel) rfl) (q := 1016) (by decide +kernel) (by decide +kernel) (by decide +kernel) (z_eok z_kl_ok rfl zd_87 zx_87)
theorem zd_88 : z_db (zm_b zm_88) (zm_c zm_88) = true := by decide +kernel
theorem zx_88 : z_xb z_Ms z_kl zm_88 ((zm_c zm_88).zip [0, 0, 0, 6010, 0, 0, 0, 0, 0, 6011, 0, 0, 0]) = true := by decide +kernel
theorem zo_88 : zMok z_Ms zm_88 := z_mok (by decide +kernel) (z_win 7 133 (w := .code (zm_y zm_88) (zm_b zm_88) (zm_L zm_88) (zm_r zm_88)) (by decide +kernel) rfl) (q := 1016) (by decide +kernel) (by decide +kernel) (by decide +kernel) (z_eok z_kl_ok rfl zd_88 zx_88)
theorem zd_89 : z_db (zm_b zm_89) (zm_c zm_89) = true := by decide +kernel
theorem zx_89 : z_xb z_Ms z_kl zm_89 ((zm_c zm_89).zip [0, 0, 7159, 0, 0, 0, 0, 6003, 0, 0, 0, 0, 0, 0, 0, 0, 0, 7163, 0, 0, 0, 7167, 0, 0, 7167, 0, 0, 0, 0, 0, 0, 8120, 0, 0, 0, 0, 0, 0, 0, 0, 0, 0, 0]) = true := by decide +kernel
theorem zo_89 : zMok z_Ms zm_89 := z_mok (by decide +kernel) (z_win 8 151 (w := .code (zm_y zm_89) (zm_b zm_89) (zm_L zm_89) (zm_r zm_89)) (by decide +kernel) rfl) (q := 1016) (by decide +kernel) (by decide +kernel) (by decide +kernel) (z_eok z_kl_ok rfl zd_89 zx_89)
theorem zd_90 : z_db (zm_b zm_90) (zm_c zm_90) = true := by decide +kernel
theorem zx_90 : z_xb z_Ms z_kl zm_90 ((zm_c zm_90).zip [0, 6008, 0, 0, 0, 0, 0, 0, 0, 0, 0, 0, 0, 0, 0, 0, 0, 0, 0, 0, 0, 0, 0, 0, 0, 0, 0, 0, 0, 0, 0, 0, 0, 0, 0, 0, 6006, 0, 6008, 0, 0, 0, 0, 0, 0, 0, 0, 0, 0, 0, 0, 0, 0, 0, 0, 0, 6008, 0, 0, 6008, 0, 6008, 0]) = true := by decide +kernel
theorem zo_90 : zMok z_Ms zm_90 := z_mok (by decide +kernel) (z_win 9 29 (w := .code (zm_y zm_90) (zm_b zm_90) (zm_L zm_90) (zm_r zm_90)) (by decide +kernel) rfl) (q := 1016) (by decide +kernel) (by decide +kernel) (by decide +kernel) (z_eok z_kl_ok rfl zd_90 zx_90)
theorem zd_91 : z_db (zm_b zm_91) (zm_c zm_91) = true := by decide +kernel
theorem zx_91 : z_xb z_Ms z_kl zm_91 ((zm_c zm_91).zip [0, 0, 0, 0, 0, 0, 6063, 0, 0, 0, 0, 0, 0, 0, 0, 0, 8124, 0, 0, 0, 0, 6063, 0, 0, 0, 0, 0, 6063, 0, 0, 0, 0, 0, 0, 0, 8124, 0, 0, 0, 0, 6063, 0, 0, 0, 0, 6064, 0, 0, 0, 6064, 0, 6065, 0]) = true := by decide +kernel
theorem zo_91 : zMok z_Ms zm_91 := z_mok (by decide +kernel) (z_win 8 179 (w := .code (zm_y zm_91) (zm_b zm_91) (zm_L zm_91) (zm_r zm_91)) (by decide +kernel) rfl) (q := 1016) (by decide +kernel) (by decide +kernel) (by decide +kernel) (z_eok z_kl_ok rfl zd_91 zx_91)
theorem zd_92 : z_db (zm_b zm_92) (zm_c zm_92) = true := by decide +kernel
theorem zx_92 : z_xb z_Ms z_kl zm_92 ((zm_c zm_92).zip [0, 6027, 0, 0, 6045, 0, 0, 0, 0, 0]) = true := by decide +kernel
theorem zo_92 : zMok z_Ms zm_92 := z_mok (by decide +kernel) (z_win 7 174 (w := .code (zm_y zm_92) (zm_b zm_92) (zm_L zm_92) (zm_r zm_92)) (by decide +kernel) rfl) (q := 1016) (by decide +kernel) (by decide +kernel) (by decide +kernel) (z_eok z_kl_ok rfl zd_92 zx_92)
theorem zd_93 : z_db (zm_b zm_93) (zm_c zm_93) = true := by decide +kernel
theorem zx_93 : z_xb z_Ms z_kl zm_93 ((zm_c zm_93).zip [0, 0, 0, 0, 0, 0, 7163, 0, 0, 0, 0, 9001, 0, 0, 0, 0, 0, 0, 0, 0, 0, 0, 0]) = true := by decide +kernel
theorem zo_93 : zMok z_Ms zm_93 := z_mok (by decide +kernel) (z_win 9 0 (w := .code (zm_y zm_93) (zm_b zm_93) (zm_L zm_93) (zm_r zm_93)) (by decide +kernel) rfl) (q := 1016) (by decide +kernel) (by decide +kernel) (by decide +kernel) (z_eok z_kl_ok rfl zd_93 zx_93)
theorem zd_94 : z_db (zm_b zm_94) (zm_c zm_94) = true := by decide +kernel
theorem zx_94 : z_xb z_Ms z_kl zm_94 ((zm_c zm_94).zip [0, 0, 7159, 0, 0, 6053, 0, 0, 0, 7167, 0, 0, 0, 0, 0, 0, 0, 8019, 0, 6053, 0, 0, 0, 7167, 0, 0, 0, 0, 0, 0, 7167, 0, 8023, 0, 0, 0, 0, 0, 0, 0]) = true := by decide +kernel
theorem zo_94 : zMok z_Ms zm_94 := z_mok (by decide +kernel) (z_win 8 30 (w := .code (zm_y zm_94) (zm_b zm_94) (zm_L zm_94) (zm_r zm_94)) (by decide +kernel) rfl) (q := 1016) (by decide +kernel) (by decide +kernel) (by decide +kernel) (z_eok z_kl_ok rfl zd_94 zx_94)
theorem zd_95 : z_db (zm_b zm_95) (zm_c zm_95) = true := by decide +kernel
theorem zx_95 : z_xb z_Ms z_kl zm_95 ((zm_c zm_95).zip [0, 7022, 0, 0, 0, 0, 6014, 0, 0, 0, 7038, 0, 0, 0, 0, 0, 0, 6012, 7042, 0, 6016, 0, 0, 7022, 0, 0, 6221, 0, 0]) = true := by decide +kernel
theorem zo_95 : zMok z_Ms zm_95 := z_mok (by decide +kernel) (z_win 7 61 (w := .code (zm_y zm_95) (zm_b zm_95) (zm_L zm_95) (zm_r zm_95)) (by decide +kernel) rfl) (q := 1016) (by decide +kernel) (by decide +kernel) (by decide +kernel) (z_eok z_kl_ok rfl zd_95 zx_95)
