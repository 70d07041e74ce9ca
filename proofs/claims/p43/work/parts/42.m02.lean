/-! methods 48 to 71 -/
theorem zd_48 : z_db (zm_b zm_48) (zm_c zm_48) = true := by decide +kernel
theorem zx_48 : z_xb z_Ms z_kl zm_48 ((zm_c zm_48).zip [0, 2175, 0, 3199, 0, 0, 0, 0, 0, 0, 0, 0, 0, 2175, 2110, 0, 0, 2175, 0, 0, 5037, 0, 0, 0, 0, 0, 0, 0, 0, 0, 0, 0]) = true := by decide +kernel
theorem zo_48 : zMok z_Ms zm_48 := z_mok (by decide +kernel) (z_win 5 36 (w := .code (zm_y zm_48) (zm_b zm_48) (zm_L zm_48) (zm_r zm_48)) (by decide +kernel) rfl) (q := 1001) (by decide +kernel) (by decide +kernel) (by decide +kernel) (z_eok z_kl_ok rfl zd_48 zx_48)
theorem zd_49 : z_db (zm_b zm_49) (zm_c zm_49) = true := by decide +kernel
theorem zx_49 : z_xb z_Ms z_kl zm_49 ((zm_c zm_49).zip [0, 2165, 4143, 0]) = true := by decide +kernel
theorem zo_49 : zMok z_Ms zm_49 := z_mok (by decide +kernel) (z_win 4 142 (w := .code (zm_y zm_49) (zm_b zm_49) (zm_L zm_49) (zm_r zm_49)) (by decide +kernel) rfl) (q := 1001) (by decide +kernel) (by decide +kernel) (by decide +kernel) (z_eok z_kl_ok rfl zd_49 zx_49)
theorem zd_50 : z_db (zm_b zm_50) (zm_c zm_50) = true := by decide +kernel
theorem zx_50 : z_xb z_Ms z_kl zm_50 ((zm_c zm_50).zip [0, 2169, 0, 5159, 0]) = true := by decide +kernel
theorem zo_50 : zMok z_Ms zm_50 := z_mok (by decide +kernel) (z_win 5 158 (w := .code (zm_y zm_50) (zm_b zm_50) (zm_L zm_50) (zm_r zm_50)) (by decide +kernel) rfl) (q := 1001) (by decide +kernel) (by decide +kernel) (by decide +kernel) (z_eok z_kl_ok rfl zd_50 zx_50)
theorem zd_51 : z_db (zm_b zm_51) (zm_c zm_51) = true := by decide +kernel
theorem zx_51 : z_xb z_Ms z_kl zm_51 ((zm_c zm_51).zip [0, 2175, 0, 3199, 0, 0, 0, 0, 2166, 0, 2175, 0, 2165, 3212, 3236, 0, 2166, 0, 4070, 0]) = true := by decide +kernel
theorem zo_51 : zMok z_Ms zm_51 := z_mok (by decide +kernel) (z_win 4 69 (w := .code (zm_y zm_51) (zm_b zm_51) (zm_L zm_51) (zm_r zm_51)) (by decide +kernel) rfl) (q := 1001) (by decide +kernel) (by decide +kernel) (by decide +kernel) (z_eok z_kl_ok rfl zd_51 zx_51)
theorem zd_52 : z_db (zm_b zm_52) (zm_c zm_52) = true := by decide +kernel
theorem zx_52 : z_xb z_Ms z_kl zm_52 ((zm_c zm_52).zip [0, 4038, 0, 0, 0, 0, 0, 0, 3185, 0, 0, 2167, 0, 2175, 0, 2165, 3212, 0, 0, 4159, 0]) = true := by decide +kernel
theorem zo_52 : zMok z_Ms zm_52 := z_mok (by decide +kernel) (z_win 4 158 (w := .code (zm_y zm_52) (zm_b zm_52) (zm_L zm_52) (zm_r zm_52)) (by decide +kernel) rfl) (q := 1001) (by decide +kernel) (by decide +kernel) (by decide +kernel) (z_eok z_kl_ok rfl zd_52 zx_52)
theorem zd_53 : z_db (zm_b zm_53) (zm_c zm_53) = true := by decide +kernel
theorem zx_53 : z_xb z_Ms z_kl zm_53 ((zm_c zm_53).zip [0, 5234, 0, 0, 1120, 6006, 0, 0, 1120, 6007, 0, 0, 6011, 0, 0, 1179, 6017, 0, 0, 1179, 6018, 0, 0, 1179, 6019, 0, 0, 1179, 6020, 0, 0, 1179, 6021, 0, 0, 1179, 6022, 0, 0, 1179, 6023, 0, 0, 1179, 6024, 0, 0, 1179, 6025, 0, 0, 1179, 6026, 0, 0, 1179, 6027, 0, 0, 1179, 6028, 0, 0, 1179, 6029, 0, 0, 1179, 6030, 0, 0, 1179, 6031, 0, 0, 1179, 6032, 0, 0, 1179, 6033, 0, 0, 2045, 6034, 0, 0, 2045, 6035, 0, 0, 2045, 6036, 0, 0, 1121, 6037, 0, 0, 1121, 6038, 0, 0, 1121, 6039, 0, 0, 1179, 6040, 0, 0, 1179, 6041, 0, 0, 1179, 6042, 0, 0, 1179, 6043, 0, 0, 1179, 6044, 0, 0, 1179, 6053, 0, 0, 1179, 6054, 0, 0, 1179, 6055, 0, 0, 1179, 6056, 0, 0, 1179, 6059, 0, 0, 1179, 6060, 0, 0, 1179, 6063, 0, 0, 1179, 6066, 0, 0, 1179, 6067, 0, 0, 1179, 6068, 0, 0, 1179, 6069, 0, 0, 1179, 6070, 0, 0, 1179, 6071, 0, 0, 1179, 6074, 0, 0, 2045, 6075, 0, 5235, 0, 5239, 0]) = true := by decide +kernel
theorem zo_53 : zMok z_Ms zm_53 := z_mok (by decide +kernel) (z_win 5 233 (w := .code (zm_y zm_53) (zm_b zm_53) (zm_L zm_53) (zm_r zm_53)) (by decide +kernel) rfl) (q := 1016) (by decide +kernel) (by decide +kernel) (by decide +kernel) (z_eok z_kl_ok rfl zd_53 zx_53)
theorem zd_54 : z_db (zm_b zm_54) (zm_c zm_54) = true := by decide +kernel
theorem zx_54 : z_xb z_Ms z_kl zm_54 ((zm_c zm_54).zip [0, 0, 0, 7163, 0, 0, 7142, 0, 0, 6019, 0, 6045, 0, 0, 0, 6053, 0, 0, 0, 0, 6053, 0, 0, 0, 0, 6057, 0, 0, 6058, 0, 0, 6072, 0, 0, 6073, 0, 0, 6008, 0, 0, 6020, 0, 6045, 0, 0, 0, 6061, 0, 0, 0]) = true := by decide +kernel
theorem zo_54 : zMok z_Ms zm_54 := z_mok (by decide +kernel) (z_win 9 25 (w := .code (zm_y zm_54) (zm_b zm_54) (zm_L zm_54) (zm_r zm_54)) (by decide +kernel) rfl) (q := 1016) (by decide +kernel) (by decide +kernel) (by decide +kernel) (z_eok z_kl_ok rfl zd_54 zx_54)
theorem zd_55 : z_db (zm_b zm_55) (zm_c zm_55) = true := by decide +kernel
theorem zx_55 : z_xb z_Ms z_kl zm_55 ((zm_c zm_55).zip [0, 0, 0, 7034, 7062, 0, 0, 0, 7070, 0]) = true := by decide +kernel
theorem zo_55 : zMok z_Ms zm_55 := z_mok (by decide +kernel) (z_win 7 81 (w := .code (zm_y zm_55) (zm_b zm_55) (zm_L zm_55) (zm_r zm_55)) (by decide +kernel) rfl) (q := 1016) (by decide +kernel) (by decide +kernel) (by decide +kernel) (z_eok z_kl_ok rfl zd_55 zx_55)
theorem zd_56 : z_db (zm_b zm_56) (zm_c zm_56) = true := by decide +kernel
theorem zx_56 : z_xb z_Ms z_kl zm_56 ((zm_c zm_56).zip [0, 0, 0, 0, 7142, 0, 0, 0, 0, 7179, 0, 0, 0, 7179, 0, 0, 0, 0, 0, 0, 0]) = true := by decide +kernel
theorem zo_56 : zMok z_Ms zm_56 := z_mok (by decide +kernel) (z_win 8 159 (w := .code (zm_y zm_56) (zm_b zm_56) (zm_L zm_56) (zm_r zm_56)) (by decide +kernel) rfl) (q := 1016) (by decide +kernel) (by decide +kernel) (by decide +kernel) (z_eok z_kl_ok rfl zd_56 zx_56)
theorem zd_57 : z_db (zm_b zm_57) (zm_c zm_57) = true := by decide +kernel
theorem zx_57 : z_xb z_Ms z_kl zm_57 ((zm_c zm_57).zip [0, 0, 7159, 0, 0, 0, 7159, 0, 0, 0, 7167, 0, 0, 7167, 0, 0, 0, 0, 0]) = true := by decide +kernel
theorem zo_57 : zMok z_Ms zm_57 := z_mok (by decide +kernel) (z_win 8 119 (w := .code (zm_y zm_57) (zm_b zm_57) (zm_L zm_57) (zm_r zm_57)) (by decide +kernel) rfl) (q := 1016) (by decide +kernel) (by decide +kernel) (by decide +kernel) (z_eok z_kl_ok rfl zd_57 zx_57)
theorem zd_58 : z_db (zm_b zm_58) (zm_c zm_58) = true := by decide +kernel
theorem zx_58 : z_xb z_Ms z_kl zm_58 ((zm_c zm_58).zip [0, 0, 9009, 0, 0, 0, 0, 6003, 0, 0, 0, 0, 0, 0, 0, 0, 0, 0, 0, 7142, 0, 0, 0, 0, 9010, 0, 0, 0, 9010, 0, 0, 0, 0, 0, 0, 0, 0, 0, 0, 0, 0, 9010, 0]) = true := by decide +kernel
theorem zo_58 : zMok z_Ms zm_58 := z_mok (by decide +kernel) (z_win 9 8 (w := .code (zm_y zm_58) (zm_b zm_58) (zm_L zm_58) (zm_r zm_58)) (by decide +kernel) rfl) (q := 1016) (by decide +kernel) (by decide +kernel) (by decide +kernel) (z_eok z_kl_ok rfl zd_58 zx_58)
theorem zd_59 : z_db (zm_b zm_59) (zm_c zm_59) = true := by decide +kernel
theorem zx_59 : z_xb z_Ms z_kl zm_59 ((zm_c zm_59).zip [0, 0, 0, 6024, 0, 0, 6045, 0, 0, 0, 6051, 7171, 0, 0, 0, 0, 6025, 0, 0, 6045, 0, 0, 0, 6051, 7171, 0, 0, 0, 0, 6031, 0, 0, 6045, 0, 0, 6052, 0, 0, 0, 0, 6053, 0, 0, 6051, 0, 0, 0, 0, 6053, 0, 0, 0, 0, 0]) = true := by decide +kernel
theorem zo_59 : zMok z_Ms zm_59 := z_mok (by decide +kernel) (z_win 7 202 (w := .code (zm_y zm_59) (zm_b zm_59) (zm_L zm_59) (zm_r zm_59)) (by decide +kernel) rfl) (q := 1016) (by decide +kernel) (by decide +kernel) (by decide +kernel) (z_eok z_kl_ok rfl zd_59 zx_59)
theorem zd_60 : z_db (zm_b zm_60) (zm_c zm_60) = true := by decide +kernel
theorem zx_60 : z_xb z_Ms z_kl zm_60 ((zm_c zm_60).zip [0, 0, 0, 6003, 0, 0, 6075, 0, 0, 0, 0, 0, 0, 0, 0, 0, 0, 0, 6053, 0, 0, 6074, 0, 0, 0, 0, 0, 0, 0, 0, 0, 0, 0, 6057, 0, 0, 6058, 0, 6053, 0, 0, 0]) = true := by decide +kernel
theorem zo_60 : zMok z_Ms zm_60 := z_mok (by decide +kernel) (z_win 9 21 (w := .code (zm_y zm_60) (zm_b zm_60) (zm_L zm_60) (zm_r zm_60)) (by decide +kernel) rfl) (q := 1016) (by decide +kernel) (by decide +kernel) (by decide +kernel) (z_eok z_kl_ok rfl zd_60 zx_60)
theorem zd_61 : z_db (zm_b zm_61) (zm_c zm_61) = true := by decide +kernel
theorem zx_61 : z_xb z_Ms z_kl zm_61 ((zm_c zm_61).zip [0, 7122, 0, 0, 0, 0, 0, 7126, 0, 0, 7038, 0, 0, 0, 6042, 0, 6049, 0, 0, 0, 0, 0, 0, 6042, 0, 6049, 0, 0, 0, 0, 0, 0, 0, 6049, 0, 0, 6049, 0, 6042, 0, 6049, 0, 0, 0, 0, 0, 6048, 0, 0, 6048, 0, 0, 6043, 0, 6049, 0, 0, 7114, 0, 0, 0, 0, 0, 0, 0, 0, 0, 0, 0, 0, 0, 0, 0, 0, 0, 6012, 6225, 7098, 0, 6221, 0, 0, 0, 0, 6049, 0, 0, 6049, 0, 6042, 0, 6049, 0, 0, 0, 0, 0, 6048, 0, 0, 6048, 0, 0, 0, 7106, 7062, 0, 0]) = true := by decide +kernel
theorem zo_61 : zMok z_Ms zm_61 := z_mok (by decide +kernel) (z_win 7 121 (w := .code (zm_y zm_61) (zm_b zm_61) (zm_L zm_61) (zm_r zm_61)) (by decide +kernel) rfl) (q := 1016) (by decide +kernel) (by decide +kernel) (by decide +kernel) (z_eok z_kl_ok rfl zd_61 zx_61)
theorem zd_62 : z_db (zm_b zm_62) (zm_c zm_62) = true := by decide +kernel
theorem zx_62 : z_xb z_Ms z_kl zm_62 ((zm_c zm_62).zip [0, 0, 7159, 0, 0, 0, 0, 6003, 0, 0, 0, 0, 0, 0, 0, 0, 0, 7163, 0, 0, 0, 7167, 0, 0, 7167, 0, 0, 0, 0, 0, 0, 0, 0, 8120, 0, 0, 0, 0, 0, 8120, 0, 0, 0, 0, 0, 0, 0]) = true := by decide +kernel
theorem zo_62 : zMok z_Ms zm_62 := z_mok (by decide +kernel) (z_win 8 135 (w := .code (zm_y zm_62) (zm_b zm_62) (zm_L zm_62) (zm_r zm_62)) (by decide +kernel) rfl) (q := 1016) (by decide +kernel) (by decide +kernel) (by decide +kernel) (z_eok z_kl_ok rfl zd_62 zx_62)
theorem zd_63 : z_db (zm_b zm_63) (zm_c zm_63) = true := by decide +kernel
theorem zx_63 : z_xb z_Ms z_kl zm_63 ((zm_c zm_63).zip [0, 0, 0, 0, 0, 0, 0, 0, 0, 0, 0, 0, 0, 0, 0, 0]) = true := by decide +kernel
theorem zo_63 : zMok z_Ms zm_63 := z_mok (by decide +kernel) (z_win 8 7 (w := .code (zm_y zm_63) (zm_b zm_63) (zm_L zm_63) (zm_r zm_63)) (by decide +kernel) rfl) (q := 1016) (by decide +kernel) (by decide +kernel) (by decide +kernel) (z_eok z_kl_ok rfl zd_63 zx_63)
theorem zd_64 : z_db (zm_b zm_64) (zm_c zm_64) = true := by decide +kernel
theorem zx_64 : z_xb z_Ms z_kl zm_64 ((zm_c zm_64).zip [0, 0, 7147, 0, 0, 7151, 0, 0, 0, 7147, 0, 0, 0, 7151, 0, 0]) = true := by decide +kernel
theorem zo_64 : zMok z_Ms zm_64 := z_mok (by decide +kernel) (z_win 8 195 (w := .code (zm_y zm_64) (zm_b zm_64) (zm_L zm_64) (zm_r zm_64)) (by decide +kernel) rfl) (q := 1016) (by decide +kernel) (by decide +kernel) (by decide +kernel) (z_eok z_kl_ok rfl zd_64 zx_64)
theorem zd_65 : z_db (zm_b zm_65) (zm_c zm_65) = true := by decide +kernel
theorem zx_65 : z_xb z_Ms z_kl zm_65 ((zm_c zm_65).zip [0, 0, 0, 0, 0, 0, 6053, 0, 0, 6059, 0, 0, 0, 0, 0, 0]) = true := by decide +kernel
theorem zo_65 : zMok z_Ms zm_65 := z_mok (by decide +kernel) (z_win 8 85 (w := .code (zm_y zm_65) (zm_b zm_65) (zm_L zm_65) (zm_r zm_65)) (by decide +kernel) rfl) (q := 1016) (by decide +kernel) (by decide +kernel) (by decide +kernel) (z_eok z_kl_ok rfl zd_65 zx_65)
theorem zd_66 : z_db (zm_b zm_66) (zm_c zm_66) = true := by decide +kernel
theorem zx_66 : z_xb z_Ms z_kl zm_66 ((zm_c zm_66).zip [0, 7210, 0, 0, 0, 0, 6003, 0, 0, 0, 0, 0, 0, 0, 0, 0, 7163, 0, 0, 0, 7167, 0, 0, 0, 0, 0, 0, 0, 8140, 0, 0, 0, 8140, 0, 0, 0, 0, 0, 0, 0]) = true := by decide +kernel
theorem zo_66 : zMok z_Ms zm_66 := z_mok (by decide +kernel) (z_win 8 147 (w := .code (zm_y zm_66) (zm_b zm_66) (zm_L zm_66) (zm_r zm_66)) (by decide +kernel) rfl) (q := 1016) (by decide +kernel) (by decide +kernel) (by decide +kernel) (z_eok z_kl_ok rfl zd_66 zx_66)
theorem zd_67 : z_db (zm_b zm_67) (zm_c zm_67) = true := by decide +kernel
theorem zx_67 : z_xb z_Ms z_kl zm_67 ((zm_c zm_67).zip [0, 6017, 0, 6046, 0, 0, 0, 6018, 0, 6046, 0, 0, 0, 6019, 0, 6046, 0, 0, 0, 6020, 0, 6046, 0, 0, 0, 6021, 0, 6046, 0, 0, 0, 6022, 0, 6046, 0, 0, 0, 6023, 0, 6046, 0, 0, 0, 6034, 0, 6046, 0, 0, 0, 6035, 0, 6046, 0, 0, 0, 6036, 0, 6046, 0, 0, 0, 0, 0, 6046, 0, 6047, 0]) = true := by decide +kernel
theorem zo_67 : zMok z_Ms zm_67 := z_mok (by decide +kernel) (z_win 5 238 (w := .code (zm_y zm_67) (zm_b zm_67) (zm_L zm_67) (zm_r zm_67)) (by decide +kernel) rfl) (q := 1016) (by decide +kernel) (by decide +kernel) (by decide +kernel) (z_eok z_kl_ok rfl zd_67 zx_67)
theorem zd_68 : z_db (zm_b zm_68) (zm_c zm_68) = true := by decide +kernel
theorem zx_68 : z_xb z_Ms z_kl zm_68 ((zm_c zm_68).zip [0, 0, 0, 6032, 0, 6045, 0, 0, 0, 0, 6033, 0, 6045, 0, 0, 0, 6040, 0, 0, 0, 0, 0, 0, 0, 6044, 0, 0, 0, 0, 6044, 0, 0, 0, 0, 0, 0, 0, 0, 0, 0, 0, 6229, 0, 0, 6044, 0, 0, 0, 0, 6041, 0, 0, 7199, 0, 0, 0, 0, 0, 6044, 0, 0, 0, 0, 0, 6044, 0, 0, 0, 0, 0, 6044, 0, 0, 7203, 0, 0, 0, 0, 6044, 0, 0, 0]) = true := by decide +kernel
theorem zo_68 : zMok z_Ms zm_68 := z_mok (by decide +kernel) (z_win 7 198 (w := .code (zm_y zm_68) (zm_b zm_68) (zm_L zm_68) (zm_r zm_68)) (by decide +kernel) rfl) (q := 1016) (by decide +kernel) (by decide +kernel) (by decide +kernel) (z_eok z_kl_ok rfl zd_68 zx_68)
theorem zd_69 : z_db (zm_b zm_69) (zm_c zm_69) = true := by decide +kernel
theorem zx_69 : z_xb z_Ms z_kl zm_69 ((zm_c zm_69).zip [0, 0, 6061, 0, 0, 0, 6003, 0, 7146, 0, 7146, 0, 0, 0, 0, 0, 7163, 0, 0, 0, 0, 0, 7163, 0, 0, 0, 7167, 0, 0, 0, 7167, 0, 0, 0, 0, 0, 0, 0, 0, 8120, 0, 0, 0, 0, 0, 8120, 0, 0, 0, 0, 0, 0, 0, 0, 0, 6060, 0, 0, 0, 0, 6060, 0, 0, 0, 0, 0, 6061, 0, 0, 0, 0, 0, 0]) = true := by decide +kernel
theorem zo_69 : zMok z_Ms zm_69 := z_mok (by decide +kernel) (z_win 8 171 (w := .code (zm_y zm_69) (zm_b zm_69) (zm_L zm_69) (zm_r zm_69)) (by decide +kernel) rfl) (q := 1016) (by decide +kernel) (by decide +kernel) (by decide +kernel) (z_eok z_kl_ok rfl zd_69 zx_69)
theorem zd_70 : z_db (zm_b zm_70) (zm_c zm_70) = true := by decide +kernel
theorem zx_70 : z_xb z_Ms z_kl zm_70 ((zm_c zm_70).zip [0, 0, 7138, 0, 0, 0, 0, 6003, 0, 7146, 0, 0, 0, 0, 0, 7147, 0, 0, 0, 7151, 0]) = true := by decide +kernel
theorem zo_70 : zMok z_Ms zm_70 := z_mok (by decide +kernel) (z_win 7 137 (w := .code (zm_y zm_70) (zm_b zm_70) (zm_L zm_70) (zm_r zm_70)) (by decide +kernel) rfl) (q := 1016) (by decide +kernel) (by decide +kernel) (by decide +kernel) (z_eok z_kl_ok rfl zd_70 zx_70)
theorem zd_71 : z_db (zm_b zm_71) (zm_c zm_71) = true := by decide +kernel
theorem zx_71 : z_xb z_Ms z_kl zm_71 ((zm_c zm_71).zip [0, 6053, 0, 0, 0, 0, 0, 0, 0, 0, 6053, 0, 0, 0, 0, 0, 0, 6053, 0, 0, 0, 0, 0, 0, 0, 6053, 0, 0, 0, 0, 0, 6053, 0, 0, 0, 0, 7179, 0]) = true := by decide +kernel
theorem zo_71 : zMok z_Ms zm_71 := z_mok (by decide +kernel) (z_win 7 216 (w := .code (zm_y zm_71) (zm_b zm_71) (zm_L zm_71) (zm_r zm_71)) (by decide +kernel) rfl) (q := 1016) (by decide +kernel) (by decide +kernel) (by decide +kernel) (z_eok z_kl_ok rfl zd_71 zx_71)
