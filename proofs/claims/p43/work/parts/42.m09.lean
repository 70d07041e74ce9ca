/-! methods 216 to 239 -/
theorem zd_216 : z_db (zm_b zm_216) (zm_c zm_216) = true := by decide +kernel
theorem zx_216 : z_xb z_Ms z_kl zm_216 ((zm_c zm_216).zip [0, 1226, 0, 0, 1179, 1227, 0, 0, 1179, 1228, 0, 0, 1179, 1229, 0, 0, 1233, 0]) = true := by decide +kernel
theorem zo_216 : zMok z_Ms zm_216 := z_mok (by decide +kernel) (z_win 1 225 (w := .code (zm_y zm_216) (zm_b zm_216) (zm_L zm_216) (zm_r zm_216)) (by decide +kernel) rfl) (q := 1012) (by decide +kernel) (by decide +kernel) (by decide +kernel) (z_eok z_kl_ok rfl zd_216 zx_216)
theorem zd_217 : z_db (zm_b zm_217) (zm_c zm_217) = true := by decide +kernel
theorem zx_217 : z_xb z_Ms z_kl zm_217 ((zm_c zm_217).zip [0, 0, 0, 0, 0, 0, 0, 0, 2108, 0, 0, 0, 0, 5019, 0, 0, 0, 0, 0, 0, 5020, 0, 0, 0, 0, 0, 0, 0, 0, 0, 0, 0, 0, 0, 0, 0]) = true := by decide +kernel
theorem zo_217 : zMok z_Ms zm_217 := z_mok (by decide +kernel) (z_win 5 18 (w := .code (zm_y zm_217) (zm_b zm_217) (zm_L zm_217) (zm_r zm_217)) (by decide +kernel) rfl) (q := 1012) (by decide +kernel) (by decide +kernel) (by decide +kernel) (z_eok z_kl_ok rfl zd_217 zx_217)
theorem zd_218 : z_db (zm_b zm_218) (zm_c zm_218) = true := by decide +kernel
theorem zx_218 : z_xb z_Ms z_kl zm_218 ((zm_c zm_218).zip [0, 0, 0, 0, 0, 0, 0, 0, 0, 0, 0, 0, 0, 0, 0, 0, 0, 0, 0, 0, 0, 0]) = true := by decide +kernel
theorem zo_218 : zMok z_Ms zm_218 := z_mok (by decide +kernel) (z_win 5 52 (w := .code (zm_y zm_218) (zm_b zm_218) (zm_L zm_218) (zm_r zm_218)) (by decide +kernel) rfl) (q := 1012) (by decide +kernel) (by decide +kernel) (by decide +kernel) (z_eok z_kl_ok rfl zd_218 zx_218)
theorem zd_219 : z_db (zm_b zm_219) (zm_c zm_219) = true := by decide +kernel
theorem zx_219 : z_xb z_Ms z_kl zm_219 ((zm_c zm_219).zip [0, 0, 0, 0, 0, 0, 0, 1229, 0, 0, 0, 0, 1231, 0, 0, 0, 0, 1233, 0, 0, 1229, 0, 0, 0, 1229, 0, 0, 0, 1235, 0]) = true := by decide +kernel
theorem zo_219 : zMok z_Ms zm_219 := z_mok (by decide +kernel) (z_win 5 82 (w := .code (zm_y zm_219) (zm_b zm_219) (zm_L zm_219) (zm_r zm_219)) (by decide +kernel) rfl) (q := 1012) (by decide +kernel) (by decide +kernel) (by decide +kernel) (z_eok z_kl_ok rfl zd_219 zx_219)
theorem zd_220 : z_db (zm_b zm_220) (zm_c zm_220) = true := by decide +kernel
theorem zx_220 : z_xb z_Ms z_kl zm_220 ((zm_c zm_220).zip [0, 0, 0, 0, 2108, 0, 0, 0, 0, 0, 0, 0, 0, 0, 5019, 0, 0, 1227, 0, 0, 5050, 0, 0, 0, 0, 0, 5020, 0, 0, 1227, 0, 0, 5050, 0, 1230, 0, 0, 0, 0, 0, 0]) = true := by decide +kernel
theorem zo_220 : zMok z_Ms zm_220 := z_mok (by decide +kernel) (z_win 5 49 (w := .code (zm_y zm_220) (zm_b zm_220) (zm_L zm_220) (zm_r zm_220)) (by decide +kernel) rfl) (q := 1012) (by decide +kernel) (by decide +kernel) (by decide +kernel) (z_eok z_kl_ok rfl zd_220 zx_220)
theorem zd_221 : z_db (zm_b zm_221) (zm_c zm_221) = true := by decide +kernel
theorem zx_221 : z_xb z_Ms z_kl zm_221 ((zm_c zm_221).zip [0, 0, 0, 0, 1228, 0, 0, 0, 1228, 0, 0, 0, 0, 0, 0, 0, 1231, 0, 0, 1233, 0, 0, 1235, 0, 0, 0, 5006, 0, 0, 0, 0, 5006, 0, 0, 1229, 0, 0, 0, 0, 0, 0, 0, 0, 0, 0, 5078, 0, 0, 0, 5078, 0, 0, 0, 0, 0, 0, 0, 0, 1228, 0, 0, 0, 0, 0, 0, 0, 0, 0, 1228, 0, 0, 0, 5079, 0, 0, 1228, 0, 0, 0, 0, 1229, 0, 0, 0, 0, 1229, 0, 0, 0, 0, 0, 5007, 0, 0, 0, 0, 0, 5006, 0, 0, 0, 0, 5006, 0, 0, 0, 0, 0, 0]) = true := by decide +kernel
theorem zo_221 : zMok z_Ms zm_221 := z_mok (by decide +kernel) (z_win 5 77 (w := .code (zm_y zm_221) (zm_b zm_221) (zm_L zm_221) (zm_r zm_221)) (by decide +kernel) rfl) (q := 1012) (by decide +kernel) (by decide +kernel) (by decide +kernel) (z_eok z_kl_ok rfl zd_221 zx_221)
theorem zd_222 : z_db (zm_b zm_222) (zm_c zm_222) = true := by decide +kernel
theorem zx_222 : z_xb z_Ms z_kl zm_222 ((zm_c zm_222).zip [0, 0, 0, 0, 2108, 0, 0, 0, 0, 5019, 0, 0, 0, 0, 5057, 0, 0, 0, 5057, 0, 0, 0, 0, 0, 0, 5019, 0, 0, 0, 0, 5057, 0, 0, 0, 5057, 0, 0, 0, 0, 0, 0, 0]) = true := by decide +kernel
theorem zo_222 : zMok z_Ms zm_222 := z_mok (by decide +kernel) (z_win 5 56 (w := .code (zm_y zm_222) (zm_b zm_222) (zm_L zm_222) (zm_r zm_222)) (by decide +kernel) rfl) (q := 1012) (by decide +kernel) (by decide +kernel) (by decide +kernel) (z_eok z_kl_ok rfl zd_222 zx_222)
theorem zd_223 : z_db (zm_b zm_223) (zm_c zm_223) = true := by decide +kernel
theorem zx_223 : z_xb z_Ms z_kl zm_223 ((zm_c zm_223).zip [0, 1227, 0, 0, 5050, 0, 0]) = true := by decide +kernel
theorem zo_223 : zMok z_Ms zm_223 := z_mok (by decide +kernel) (z_win 5 60 (w := .code (zm_y zm_223) (zm_b zm_223) (zm_L zm_223) (zm_r zm_223)) (by decide +kernel) rfl) (q := 1012) (by decide +kernel) (by decide +kernel) (by decide +kernel) (z_eok z_kl_ok rfl zd_223 zx_223)
theorem zd_224 : z_db (zm_b zm_224) (zm_c zm_224) = true := by decide +kernel
theorem zx_224 : z_xb z_Ms z_kl zm_224 ((zm_c zm_224).zip [0, 0, 0, 5006, 0, 0, 0, 0, 5006, 0, 0, 0, 0, 0, 1230, 0, 0, 0, 0, 0, 0, 0, 0, 0, 5007, 0, 0, 0, 0, 1230, 0, 0, 0, 5007, 0, 1230, 0, 0, 0, 5006, 0, 0, 0, 0, 5006, 0, 0, 0, 0, 0, 0, 0]) = true := by decide +kernel
theorem zo_224 : zMok z_Ms zm_224 := z_mok (by decide +kernel) (z_win 5 5 (w := .code (zm_y zm_224) (zm_b zm_224) (zm_L zm_224) (zm_r zm_224)) (by decide +kernel) rfl) (q := 1012) (by decide +kernel) (by decide +kernel) (by decide +kernel) (z_eok z_kl_ok rfl zd_224 zx_224)
theorem zd_225 : z_db (zm_b zm_225) (zm_c zm_225) = true := by decide +kernel
theorem zx_225 : z_xb z_Ms z_kl zm_225 ((zm_c zm_225).zip [0, 0, 0, 0, 0, 0, 2108, 0, 0, 0, 0, 5019, 0, 0, 0, 0, 0, 0, 0, 5020, 0, 0, 0, 0, 0, 0]) = true := by decide +kernel
theorem zo_225 : zMok z_Ms zm_225 := z_mok (by decide +kernel) (z_win 5 28 (w := .code (zm_y zm_225) (zm_b zm_225) (zm_L zm_225) (zm_r zm_225)) (by decide +kernel) rfl) (q := 1012) (by decide +kernel) (by decide +kernel) (by decide +kernel) (z_eok z_kl_ok rfl zd_225 zx_225)
theorem zd_226 : z_db (zm_b zm_226) (zm_c zm_226) = true := by decide +kernel
theorem zx_226 : z_xb z_Ms z_kl zm_226 ((zm_c zm_226).zip [0, 1163, 0, 0, 1164, 1180, 0, 0, 0, 0, 1180, 0, 0, 0, 1180, 0, 1164, 0, 1167, 0, 0, 0, 0]) = true := by decide +kernel
theorem zo_226 : zMok z_Ms zm_226 := z_mok (by decide +kernel) (z_win 1 162 (w := .code (zm_y zm_226) (zm_b zm_226) (zm_L zm_226) (zm_r zm_226)) (by decide +kernel) rfl) (q := 1008) (by decide +kernel) (by decide +kernel) (by decide +kernel) (z_eok z_kl_ok rfl zd_226 zx_226)
theorem zd_227 : z_db (zm_b zm_227) (zm_c zm_227) = true := by decide +kernel
theorem zx_227 : z_xb z_Ms z_kl zm_227 ((zm_c zm_227).zip [0, 1182, 0, 1181, 0, 0]) = true := by decide +kernel
theorem zo_227 : zMok z_Ms zm_227 := z_mok (by decide +kernel) (z_win 5 228 (w := .code (zm_y zm_227) (zm_b zm_227) (zm_L zm_227) (zm_r zm_227)) (by decide +kernel) rfl) (q := 1008) (by decide +kernel) (by decide +kernel) (by decide +kernel) (z_eok z_kl_ok rfl zd_227 zx_227)
theorem zd_228 : z_db (zm_b zm_228) (zm_c zm_228) = true := by decide +kernel
theorem zx_228 : z_xb z_Ms z_kl zm_228 ((zm_c zm_228).zip [0, 1181, 0]) = true := by decide +kernel
theorem zo_228 : zMok z_Ms zm_228 := z_mok (by decide +kernel) (z_win 5 224 (w := .code (zm_y zm_228) (zm_b zm_228) (zm_L zm_228) (zm_r zm_228)) (by decide +kernel) rfl) (q := 1008) (by decide +kernel) (by decide +kernel) (by decide +kernel) (z_eok z_kl_ok rfl zd_228 zx_228)
theorem zd_229 : z_db (zm_b zm_229) (zm_c zm_229) = true := by decide +kernel
theorem zx_229 : z_xb z_Ms z_kl zm_229 ((zm_c zm_229).zip [0, 4095, 0, 0, 1181, 0, 0, 0, 0, 1181, 0, 0, 1181, 0, 0, 4096, 0, 0, 1181, 1182, 0, 4095, 0, 4100, 0, 4095, 0]) = true := by decide +kernel
theorem zo_229 : zMok z_Ms zm_229 := z_mok (by decide +kernel) (z_win 4 94 (w := .code (zm_y zm_229) (zm_b zm_229) (zm_L zm_229) (zm_r zm_229)) (by decide +kernel) rfl) (q := 1008) (by decide +kernel) (by decide +kernel) (by decide +kernel) (z_eok z_kl_ok rfl zd_229 zx_229)
theorem zd_230 : z_db (zm_b zm_230) (zm_c zm_230) = true := by decide +kernel
theorem zx_230 : z_xb z_Ms z_kl zm_230 ((zm_c zm_230).zip [0, 1180, 0, 0, 0, 0, 0, 0, 0, 0, 0, 1180, 0, 0, 1180, 0, 0, 0, 0, 0, 0, 0, 0, 1180, 0, 0, 0, 0]) = true := by decide +kernel
theorem zo_230 : zMok z_Ms zm_230 := z_mok (by decide +kernel) (z_win 4 99 (w := .code (zm_y zm_230) (zm_b zm_230) (zm_L zm_230) (zm_r zm_230)) (by decide +kernel) rfl) (q := 1008) (by decide +kernel) (by decide +kernel) (by decide +kernel) (z_eok z_kl_ok rfl zd_230 zx_230)
theorem zd_231 : z_db (zm_b zm_231) (zm_c zm_231) = true := by decide +kernel
theorem zx_231 : z_xb z_Ms z_kl zm_231 ((zm_c zm_231).zip [0, 1180, 0, 1181, 0, 0, 1181, 0, 1180, 0, 0, 0, 1181, 0, 0, 0, 0]) = true := by decide +kernel
theorem zo_231 : zMok z_Ms zm_231 := z_mok (by decide +kernel) (z_win 3 215 (w := .code (zm_y zm_231) (zm_b zm_231) (zm_L zm_231) (zm_r zm_231)) (by decide +kernel) rfl) (q := 1008) (by decide +kernel) (by decide +kernel) (by decide +kernel) (z_eok z_kl_ok rfl zd_231 zx_231)
theorem zd_232 : z_db (zm_b zm_232) (zm_c zm_232) = true := by decide +kernel
theorem zx_232 : z_xb z_Ms z_kl zm_232 ((zm_c zm_232).zip [0, 0, 1181, 0, 0, 1182, 0, 1180, 0, 0, 0, 4100, 0]) = true := by decide +kernel
theorem zo_232 : zMok z_Ms zm_232 := z_mok (by decide +kernel) (z_win 5 212 (w := .code (zm_y zm_232) (zm_b zm_232) (zm_L zm_232) (zm_r zm_232)) (by decide +kernel) rfl) (q := 1008) (by decide +kernel) (by decide +kernel) (by decide +kernel) (z_eok z_kl_ok rfl zd_232 zx_232)
theorem zd_233 : z_db (zm_b zm_233) (zm_c zm_233) = true := by decide +kernel
theorem zx_233 : z_xb z_Ms z_kl zm_233 ((zm_c zm_233).zip [0, 0, 1181, 0, 0, 1182, 0, 1180, 0, 0, 0, 3168, 0]) = true := by decide +kernel
theorem zo_233 : zMok z_Ms zm_233 := z_mok (by decide +kernel) (z_win 3 167 (w := .code (zm_y zm_233) (zm_b zm_233) (zm_L zm_233) (zm_r zm_233)) (by decide +kernel) rfl) (q := 1008) (by decide +kernel) (by decide +kernel) (by decide +kernel) (z_eok z_kl_ok rfl zd_233 zx_233)
theorem zd_234 : z_db (zm_b zm_234) (zm_c zm_234) = true := by decide +kernel
theorem zx_234 : z_xb z_Ms z_kl zm_234 ((zm_c zm_234).zip [0, 1181, 0, 0, 0, 0, 0, 1181, 0, 0, 1181, 0, 0]) = true := by decide +kernel
theorem zo_234 : zMok z_Ms zm_234 := z_mok (by decide +kernel) (z_win 4 146 (w := .code (zm_y zm_234) (zm_b zm_234) (zm_L zm_234) (zm_r zm_234)) (by decide +kernel) rfl) (q := 1008) (by decide +kernel) (by decide +kernel) (by decide +kernel) (z_eok z_kl_ok rfl zd_234 zx_234)
theorem zd_235 : z_db (zm_b zm_235) (zm_c zm_235) = true := by decide +kernel
theorem zx_235 : z_xb z_Ms z_kl zm_235 ((zm_c zm_235).zip [0, 1181, 0, 1182, 0, 0, 0, 0, 0, 1181, 0, 0, 1181, 0, 0]) = true := by decide +kernel
theorem zo_235 : zMok z_Ms zm_235 := z_mok (by decide +kernel) (z_win 4 154 (w := .code (zm_y zm_235) (zm_b zm_235) (zm_L zm_235) (zm_r zm_235)) (by decide +kernel) rfl) (q := 1008) (by decide +kernel) (by decide +kernel) (by decide +kernel) (z_eok z_kl_ok rfl zd_235 zx_235)
theorem zd_236 : z_db (zm_b zm_236) (zm_c zm_236) = true := by decide +kernel
theorem zx_236 : z_xb z_Ms z_kl zm_236 ((zm_c zm_236).zip [0, 1034, 0, 1035, 0, 1037, 1122, 0, 0, 1121, 1123, 0, 0, 1121, 1124, 0, 0, 1121, 1125, 0, 0, 1133, 0]) = true := by decide +kernel
theorem zo_236 : zMok z_Ms zm_236 := z_mok (by decide +kernel) (z_win 1 33 (w := .code (zm_y zm_236) (zm_b zm_236) (zm_L zm_236) (zm_r zm_236)) (by decide +kernel) rfl) (q := 1002) (by decide +kernel) (by decide +kernel) (by decide +kernel) (z_eok z_kl_ok rfl zd_236 zx_236)
theorem zd_237 : z_db (zm_b zm_237) (zm_c zm_237) = true := by decide +kernel
theorem zx_237 : z_xb z_Ms z_kl zm_237 ((zm_c zm_237).zip [0, 0, 1131, 0, 0, 1133, 0, 0, 1126, 0, 0, 1127, 0, 0, 1128, 0, 1122, 0, 0, 2230, 0]) = true := by decide +kernel
theorem zo_237 : zMok z_Ms zm_237 := z_mok (by decide +kernel) (z_win 2 229 (w := .code (zm_y zm_237) (zm_b zm_237) (zm_L zm_237) (zm_r zm_237)) (by decide +kernel) rfl) (q := 1002) (by decide +kernel) (by decide +kernel) (by decide +kernel) (z_eok z_kl_ok rfl zd_237 zx_237)
theorem zd_238 : z_db (zm_b zm_238) (zm_c zm_238) = true := by decide +kernel
theorem zx_238 : z_xb z_Ms z_kl zm_238 ((zm_c zm_238).zip [0, 1122, 1097, 0, 0, 0, 0, 0, 0, 0, 0, 0, 0, 0, 0, 0, 0, 0, 0, 0, 0, 0, 0, 0, 0, 0, 0, 0, 0, 0, 0, 0, 0, 0, 0, 0, 0, 0, 0, 0, 0, 0, 0, 0, 0, 0, 0, 0, 0, 0, 0, 0, 0, 0, 0, 0]) = true := by decide +kernel
theorem zo_238 : zMok z_Ms zm_238 := z_mok (by decide +kernel) (z_win 3 155 (w := .code (zm_y zm_238) (zm_b zm_238) (zm_L zm_238) (zm_r zm_238)) (by decide +kernel) rfl) (q := 1002) (by decide +kernel) (by decide +kernel) (by decide +kernel) (z_eok z_kl_ok rfl zd_238 zx_238)
theorem zd_239 : z_db (zm_b zm_239) (zm_c zm_239) = true := by decide +kernel
theorem zx_239 : z_xb z_Ms z_kl zm_239 ((zm_c zm_239).zip [0, 1122, 1097, 0, 0, 0, 3088, 0, 0, 0, 0, 0, 2103, 0, 0, 0, 1123, 0, 0, 0, 1123, 0, 0, 0, 1122, 1102, 0, 0, 0, 0, 1129, 0, 0, 0, 0, 0, 0, 3079, 0]) = true := by decide +kernel
theorem zo_239 : zMok z_Ms zm_239 := z_mok (by decide +kernel) (z_win 3 111 (w := .code (zm_y zm_239) (zm_b zm_239) (zm_L zm_239) (zm_r zm_239)) (by decide +kernel) rfl) (q := 1002) (by decide +kernel) (by decide +kernel) (by decide +kernel) (z_eok z_kl_ok rfl zd_239 zx_239)
