/-! the kinds of the methods, the classes, what all methods share -/
/-- words of a list, by their places -/
theorem z_wsl {ws : List Cond} {qs : List Nat} (h : (decide (ws.length = qs.length) && (ws.zip qs).all (fun q => z_wb q.2 q.1)) = true) : ∀ w ∈ ws, w ∈ z_WS := by
  simp only [Bool.and_eq_true, decide_eq_true_eq, List.all_eq_true] at h
  intro w hw
  obtain ⟨k, hk⟩ := List.getElem?_of_mem hw
  have hlt : k < ws.length := (List.getElem?_eq_some_iff.mp hk).1
  obtain ⟨q, hq⟩ : ∃ q, qs[k]? = some q := ⟨_, List.getElem?_eq_getElem (by omega)⟩
  exact z_wb_in (h.2 (w, q) (List.mem_of_getElem? (by rw [List.getElem?_zip_eq_some]; exact ⟨hk, hq⟩)))
theorem zk_0 : zKd 1 zm_0 := zKd_ok (q1 := 1024) (q2 := 0) (by decide +kernel)
theorem zk_1 : zKd 0 zm_1 := zKd_ok (q1 := 5214) (q2 := 5215) (by decide +kernel)
theorem zk_2 : zKd 0 zm_2 := zKd_ok (q1 := 5187) (q2 := 5188) (by decide +kernel)
theorem zk_3 : zKd 0 zm_3 := zKd_ok (q1 := 5206) (q2 := 5207) (by decide +kernel)
theorem zk_4 : zKd 0 zm_4 := zKd_ok (q1 := 5009) (q2 := 5010) (by decide +kernel)
theorem zk_5 : zKd 0 zm_5 := zKd_ok (q1 := 5030) (q2 := 5031) (by decide +kernel)
theorem zk_6 : zKd 0 zm_6 := zKd_ok (q1 := 5066) (q2 := 5067) (by decide +kernel)
theorem zk_7 : zKd 0 zm_7 := zKd_ok (q1 := 3178) (q2 := 3179) (by decide +kernel)
theorem zk_8 : zKd 0 zm_8 := zKd_ok (q1 := 3225) (q2 := 3226) (by decide +kernel)
theorem zk_9 : zKd 0 zm_9 := zKd_ok (q1 := 4116) (q2 := 4117) (by decide +kernel)
theorem zk_10 : zKd 0 zm_10 := zKd_ok (q1 := 4088) (q2 := 4089) (by decide +kernel)
theorem zk_11 : zKd 0 zm_11 := zKd_ok (q1 := 4075) (q2 := 4076) (by decide +kernel)
theorem zk_12 : zKd 0 zm_12 := zKd_ok (q1 := 2215) (q2 := 2216) (by decide +kernel)
theorem zk_13 : zKd 0 zm_13 := zKd_ok (q1 := 5094) (q2 := 5095) (by decide +kernel)
theorem zk_14 : zKd 0 zm_14 := zKd_ok (q1 := 3174) (q2 := 3175) (by decide +kernel)
theorem zk_15 : zKd 0 zm_15 := zKd_ok (q1 := 5136) (q2 := 5137) (by decide +kernel)
theorem zk_16 : zKd 0 zm_16 := zKd_ok (q1 := 2207) (q2 := 2208) (by decide +kernel)
theorem zk_17 : zKd 0 zm_17 := zKd_ok (q1 := 5173) (q2 := 5174) (by decide +kernel)
theorem zk_18 : zKd 0 zm_18 := zKd_ok (q1 := 4112) (q2 := 4113) (by decide +kernel)
theorem zk_19 : zKd 0 zm_19 := zKd_ok (q1 := 5152) (q2 := 5153) (by decide +kernel)
theorem zk_20 : zKd 0 zm_20 := zKd_ok (q1 := 3229) (q2 := 3230) (by decide +kernel)
theorem zk_21 : zKd 0 zm_21 := zKd_ok (q1 := 5123) (q2 := 5124) (by decide +kernel)
theorem zk_22 : zKd 0 zm_22 := zKd_ok (q1 := 5106) (q2 := 5107) (by decide +kernel)
theorem zk_23 : zKd 0 zm_23 := zKd_ok (q1 := 5201) (q2 := 5202) (by decide +kernel)
theorem zk_24 : zKd 2 zm_24 := zKd_ok (q1 := 5013) (q2 := 0) (by decide +kernel)
theorem zk_25 : zKd 2 zm_25 := zKd_ok (q1 := 4039) (q2 := 0) (by decide +kernel)
theorem zk_26 : zKd 0 zm_26 := zKd_ok (q1 := 5164) (q2 := 5165) (by decide +kernel)
theorem zk_27 : zKd 0 zm_27 := zKd_ok (q1 := 5063) (q2 := 30) (by decide +kernel)
theorem zk_28 : zKd 0 zm_28 := zKd_ok (q1 := 5140) (q2 := 5141) (by decide +kernel)
theorem zk_29 : zKd 2 zm_29 := zKd_ok (q1 := 5088) (q2 := 0) (by decide +kernel)
theorem zk_30 : zKd 0 zm_30 := zKd_ok (q1 := 4167) (q2 := 4168) (by decide +kernel)
theorem zk_31 : zKd 0 zm_31 := zKd_ok (q1 := 5084) (q2 := 5085) (by decide +kernel)
theorem zk_32 : zKd 0 zm_32 := zKd_ok (q1 := 5132) (q2 := 5133) (by decide +kernel)
theorem zk_33 : zKd 0 zm_33 := zKd_ok (q1 := 4235) (q2 := 4236) (by decide +kernel)
theorem zk_34 : zKd 0 zm_34 := zKd_ok (q1 := 3196) (q2 := 3197) (by decide +kernel)
theorem zk_35 : zKd 0 zm_35 := zKd_ok (q1 := 4180) (q2 := 4181) (by decide +kernel)
theorem zk_36 : zKd 0 zm_36 := zKd_ok (q1 := 2212) (q2 := 0) (by decide +kernel)
theorem zk_37 : zKd 0 zm_37 := zKd_ok (q1 := 4148) (q2 := 4149) (by decide +kernel)
theorem zk_38 : zKd 0 zm_38 := zKd_ok (q1 := 5043) (q2 := 5044) (by decide +kernel)
theorem zk_39 : zKd 0 zm_39 := zKd_ok (q1 := 2219) (q2 := 2220) (by decide +kernel)
theorem zk_40 : zKd 0 zm_40 := zKd_ok (q1 := 5071) (q2 := 5072) (by decide +kernel)
theorem zk_41 : zKd 0 zm_41 := zKd_ok (q1 := 4172) (q2 := 4173) (by decide +kernel)
theorem zk_42 : zKd 0 zm_42 := zKd_ok (q1 := 4124) (q2 := 4125) (by decide +kernel)
theorem zk_43 : zKd 0 zm_43 := zKd_ok (q1 := 5144) (q2 := 5145) (by decide +kernel)
theorem zk_44 : zKd 0 zm_44 := zKd_ok (q1 := 4210) (q2 := 4211) (by decide +kernel)
theorem zk_45 : zKd 0 zm_45 := zKd_ok (q1 := 5022) (q2 := 5023) (by decide +kernel)
theorem zk_46 : zKd 0 zm_46 := zKd_ok (q1 := 4035) (q2 := 4036) (by decide +kernel)
theorem zk_47 : zKd 0 zm_47 := zKd_ok (q1 := 5119) (q2 := 5120) (by decide +kernel)
theorem zk_48 : zKd 0 zm_48 := zKd_ok (q1 := 5034) (q2 := 5035) (by decide +kernel)
theorem zk_49 : zKd 0 zm_49 := zKd_ok (q1 := 4140) (q2 := 4141) (by decide +kernel)
theorem zk_50 : zKd 0 zm_50 := zKd_ok (q1 := 5156) (q2 := 5157) (by decide +kernel)
theorem zk_51 : zKd 0 zm_51 := zKd_ok (q1 := 4067) (q2 := 4068) (by decide +kernel)
theorem zk_52 : zKd 0 zm_52 := zKd_ok (q1 := 4156) (q2 := 4157) (by decide +kernel)
theorem zk_53 : zKd 1 zm_53 := zKd_ok (q1 := 5232) (q2 := 0) (by decide +kernel)
theorem zk_54 : zKd 0 zm_54 := zKd_ok (q1 := 9023) (q2 := 9024) (by decide +kernel)
theorem zk_55 : zKd 0 zm_55 := zKd_ok (q1 := 7080) (q2 := 53) (by decide +kernel)
theorem zk_56 : zKd 0 zm_56 := zKd_ok (q1 := 8158) (q2 := 99) (by decide +kernel)
theorem zk_57 : zKd 0 zm_57 := zKd_ok (q1 := 8118) (q2 := 94) (by decide +kernel)
theorem zk_58 : zKd 0 zm_58 := zKd_ok (q1 := 9006) (q2 := 9007) (by decide +kernel)
theorem zk_59 : zKd 0 zm_59 := zKd_ok (q1 := 7201) (q2 := 78) (by decide +kernel)
theorem zk_60 : zKd 0 zm_60 := zKd_ok (q1 := 9019) (q2 := 9020) (by decide +kernel)
theorem zk_61 : zKd 0 zm_61 := zKd_ok (q1 := 7120) (q2 := 63) (by decide +kernel)
theorem zk_62 : zKd 0 zm_62 := zKd_ok (q1 := 8133) (q2 := 8134) (by decide +kernel)
theorem zk_63 : zKd 2 zm_63 := zKd_ok (q1 := 8006) (q2 := 0) (by decide +kernel)
theorem zk_64 : zKd 0 zm_64 := zKd_ok (q1 := 8194) (q2 := 103) (by decide +kernel)
theorem zk_65 : zKd 0 zm_65 := zKd_ok (q1 := 8084) (q2 := 92) (by decide +kernel)
theorem zk_66 : zKd 0 zm_66 := zKd_ok (q1 := 8145) (q2 := 8146) (by decide +kernel)
theorem zk_67 : zKd 0 zm_67 := zKd_ok (q1 := 5237) (q2 := 35) (by decide +kernel)
theorem zk_68 : zKd 0 zm_68 := zKd_ok (q1 := 7197) (q2 := 77) (by decide +kernel)
theorem zk_69 : zKd 0 zm_69 := zKd_ok (q1 := 8169) (q2 := 8170) (by decide +kernel)
theorem zk_70 : zKd 0 zm_70 := zKd_ok (q1 := 7135) (q2 := 7136) (by decide +kernel)
theorem zk_71 : zKd 0 zm_71 := zKd_ok (q1 := 7215) (q2 := 79) (by decide +kernel)
theorem zk_72 : zKd 0 zm_72 := zKd_ok (q1 := 7052) (q2 := 46) (by decide +kernel)
theorem zk_73 : zKd 2 zm_73 := zKd_ok (q1 := 8110) (q2 := 0) (by decide +kernel)
theorem zk_74 : zKd 0 zm_74 := zKd_ok (q1 := 8053) (q2 := 89) (by decide +kernel)
theorem zk_75 : zKd 0 zm_75 := zKd_ok (q1 := 7176) (q2 := 7177) (by decide +kernel)
theorem zk_76 : zKd 0 zm_76 := zKd_ok (q1 := 9003) (q2 := 108) (by decide +kernel)
theorem zk_77 : zKd 0 zm_77 := zKd_ok (q1 := 7181) (q2 := 74) (by decide +kernel)
theorem zk_78 : zKd 0 zm_78 := zKd_ok (q1 := 8032) (q2 := 8033) (by decide +kernel)
theorem zk_79 : zKd 0 zm_79 := zKd_ok (q1 := 7096) (q2 := 57) (by decide +kernel)
theorem zk_80 : zKd 0 zm_80 := zKd_ok (q1 := 8016) (q2 := 8017) (by decide +kernel)
theorem zk_81 : zKd 0 zm_81 := zKd_ok (q1 := 7226) (q2 := 7227) (by decide +kernel)
theorem zk_82 : zKd 0 zm_82 := zKd_ok (q1 := 7231) (q2 := 81) (by decide +kernel)
theorem zk_83 : zKd 0 zm_83 := zKd_ok (q1 := 7116) (q2 := 62) (by decide +kernel)
theorem zk_84 : zKd 0 zm_84 := zKd_ok (q1 := 9031) (q2 := 9032) (by decide +kernel)
theorem zk_85 : zKd 0 zm_85 := zKd_ok (q1 := 8061) (q2 := 90) (by decide +kernel)
theorem zk_86 : zKd 0 zm_86 := zKd_ok (q1 := 7044) (q2 := 44) (by decide +kernel)
theorem zk_87 : zKd 0 zm_87 := zKd_ok (q1 := 8185) (q2 := 8186) (by decide +kernel)
theorem zk_88 : zKd 0 zm_88 := zKd_ok (q1 := 7131) (q2 := 7132) (by decide +kernel)
theorem zk_89 : zKd 0 zm_89 := zKd_ok (q1 := 8149) (q2 := 8150) (by decide +kernel)
theorem zk_90 : zKd 0 zm_90 := zKd_ok (q1 := 9027) (q2 := 9028) (by decide +kernel)
theorem zk_91 : zKd 0 zm_91 := zKd_ok (q1 := 8178) (q2 := 101) (by decide +kernel)
theorem zk_92 : zKd 0 zm_92 := zKd_ok (q1 := 7173) (q2 := 73) (by decide +kernel)
theorem zk_93 : zKd 0 zm_93 := zKd_ok (q1 := 8238) (q2 := 8239) (by decide +kernel)
theorem zk_94 : zKd 0 zm_94 := zKd_ok (q1 := 8028) (q2 := 8029) (by decide +kernel)
theorem zk_95 : zKd 0 zm_95 := zKd_ok (q1 := 7060) (q2 := 48) (by decide +kernel)
theorem zk_96 : zKd 0 zm_96 := zKd_ok (q1 := 8225) (q2 := 8226) (by decide +kernel)
theorem zk_97 : zKd 0 zm_97 := zKd_ok (q1 := 8049) (q2 := 88) (by decide +kernel)
theorem zk_98 : zKd 0 zm_98 := zKd_ok (q1 := 6223) (q2 := 37) (by decide +kernel)
theorem zk_99 : zKd 0 zm_99 := zKd_ok (q1 := 8045) (q2 := 87) (by decide +kernel)
theorem zk_100 : zKd 0 zm_100 := zKd_ok (q1 := 7184) (q2 := 7185) (by decide +kernel)
theorem zk_101 : zKd 2 zm_101 := zKd_ok (q1 := 8009) (q2 := 0) (by decide +kernel)
theorem zk_102 : zKd 0 zm_102 := zKd_ok (q1 := 7056) (q2 := 47) (by decide +kernel)
theorem zk_103 : zKd 0 zm_103 := zKd_ok (q1 := 7149) (q2 := 68) (by decide +kernel)
theorem zk_104 : zKd 0 zm_104 := zKd_ok (q1 := 8091) (q2 := 8092) (by decide +kernel)
theorem zk_105 : zKd 0 zm_105 := zKd_ok (q1 := 8197) (q2 := 8198) (by decide +kernel)
theorem zk_106 : zKd 0 zm_106 := zKd_ok (q1 := 9015) (q2 := 9016) (by decide +kernel)
theorem zk_107 : zKd 2 zm_107 := zKd_ok (q1 := 8076) (q2 := 0) (by decide +kernel)
theorem zk_108 : zKd 0 zm_108 := zKd_ok (q1 := 7128) (q2 := 65) (by decide +kernel)
theorem zk_109 : zKd 0 zm_109 := zKd_ok (q1 := 7140) (q2 := 66) (by decide +kernel)
theorem zk_110 : zKd 2 zm_110 := zKd_ok (q1 := 7017) (q2 := 0) (by decide +kernel)
theorem zk_111 : zKd 0 zm_111 := zKd_ok (q1 := 7032) (q2 := 41) (by decide +kernel)
theorem zk_112 : zKd 0 zm_112 := zKd_ok (q1 := 7024) (q2 := 39) (by decide +kernel)
theorem zk_113 : zKd 2 zm_113 := zKd_ok (q1 := 6004) (q2 := 0) (by decide +kernel)
theorem zk_114 : zKd 2 zm_114 := zKd_ok (q1 := 6233) (q2 := 0) (by decide +kernel)
theorem zk_115 : zKd 2 zm_115 := zKd_ok (q1 := 6230) (q2 := 0) (by decide +kernel)
theorem zk_116 : zKd 0 zm_116 := zKd_ok (q1 := 7161) (q2 := 70) (by decide +kernel)
theorem zk_117 : zKd 0 zm_117 := zKd_ok (q1 := 8037) (q2 := 86) (by decide +kernel)
theorem zk_118 : zKd 2 zm_118 := zKd_ok (q1 := 7020) (q2 := 0) (by decide +kernel)
theorem zk_119 : zKd 0 zm_119 := zKd_ok (q1 := 7108) (q2 := 60) (by decide +kernel)
theorem zk_120 : zKd 2 zm_120 := zKd_ok (q1 := 7211) (q2 := 0) (by decide +kernel)
theorem zk_121 : zKd 0 zm_121 := zKd_ok (q1 := 7036) (q2 := 42) (by decide +kernel)
theorem zk_122 : zKd 0 zm_122 := zKd_ok (q1 := 8021) (q2 := 84) (by decide +kernel)
theorem zk_123 : zKd 0 zm_123 := zKd_ok (q1 := 8080) (q2 := 91) (by decide +kernel)
theorem zk_124 : zKd 0 zm_124 := zKd_ok (q1 := 8202) (q2 := 104) (by decide +kernel)
theorem zk_125 : zKd 0 zm_125 := zKd_ok (q1 := 7144) (q2 := 67) (by decide +kernel)
theorem zk_126 : zKd 0 zm_126 := zKd_ok (q1 := 7084) (q2 := 54) (by decide +kernel)
theorem zk_127 : zKd 0 zm_127 := zKd_ok (q1 := 8233) (q2 := 8234) (by decide +kernel)
theorem zk_128 : zKd 0 zm_128 := zKd_ok (q1 := 7223) (q2 := 80) (by decide +kernel)
theorem zk_129 : zKd 0 zm_129 := zKd_ok (q1 := 8210) (q2 := 106) (by decide +kernel)
theorem zk_130 : zKd 0 zm_130 := zKd_ok (q1 := 8190) (q2 := 102) (by decide +kernel)
theorem zk_131 : zKd 0 zm_131 := zKd_ok (q1 := 8068) (q2 := 8069) (by decide +kernel)
theorem zk_132 : zKd 0 zm_132 := zKd_ok (q1 := 7238) (q2 := 7239) (by decide +kernel)
theorem zk_133 : zKd 0 zm_133 := zKd_ok (q1 := 8181) (q2 := 8182) (by decide +kernel)
theorem zk_134 : zKd 0 zm_134 := zKd_ok (q1 := 7040) (q2 := 43) (by decide +kernel)
theorem zk_135 : zKd 0 zm_135 := zKd_ok (q1 := 9012) (q2 := 109) (by decide +kernel)
theorem zk_136 : zKd 0 zm_136 := zKd_ok (q1 := 8206) (q2 := 105) (by decide +kernel)
theorem zk_137 : zKd 0 zm_137 := zKd_ok (q1 := 7235) (q2 := 82) (by decide +kernel)
theorem zk_138 : zKd 0 zm_138 := zKd_ok (q1 := 8013) (q2 := 83) (by decide +kernel)
theorem zk_139 : zKd 0 zm_139 := zKd_ok (q1 := 7064) (q2 := 49) (by decide +kernel)
theorem zk_140 : zKd 0 zm_140 := zKd_ok (q1 := 8126) (q2 := 96) (by decide +kernel)
theorem zk_141 : zKd 0 zm_141 := zKd_ok (q1 := 7072) (q2 := 51) (by decide +kernel)
theorem zk_142 : zKd 0 zm_142 := zKd_ok (q1 := 8106) (q2 := 8107) (by decide +kernel)
theorem zk_143 : zKd 0 zm_143 := zKd_ok (q1 := 8113) (q2 := 8114) (by decide +kernel)
theorem zk_144 : zKd 0 zm_144 := zKd_ok (q1 := 8122) (q2 := 95) (by decide +kernel)
theorem zk_145 : zKd 0 zm_145 := zKd_ok (q1 := 7165) (q2 := 71) (by decide +kernel)
theorem zk_146 : zKd 0 zm_146 := zKd_ok (q1 := 7156) (q2 := 7157) (by decide +kernel)
theorem zk_147 : zKd 0 zm_147 := zKd_ok (q1 := 8095) (q2 := 8096) (by decide +kernel)
theorem zk_148 : zKd 2 zm_148 := zKd_ok (q1 := 8099) (q2 := 0) (by decide +kernel)
theorem zk_149 : zKd 0 zm_149 := zKd_ok (q1 := 7100) (q2 := 58) (by decide +kernel)
theorem zk_150 : zKd 0 zm_150 := zKd_ok (q1 := 8025) (q2 := 85) (by decide +kernel)
theorem zk_151 : zKd 0 zm_151 := zKd_ok (q1 := 7124) (q2 := 64) (by decide +kernel)
theorem zk_152 : zKd 0 zm_152 := zKd_ok (q1 := 7048) (q2 := 45) (by decide +kernel)
theorem zk_153 : zKd 0 zm_153 := zKd_ok (q1 := 7088) (q2 := 55) (by decide +kernel)
theorem zk_154 : zKd 0 zm_154 := zKd_ok (q1 := 7028) (q2 := 40) (by decide +kernel)
theorem zk_155 : zKd 0 zm_155 := zKd_ok (q1 := 7076) (q2 := 52) (by decide +kernel)
theorem zk_156 : zKd 0 zm_156 := zKd_ok (q1 := 7092) (q2 := 56) (by decide +kernel)
theorem zk_157 : zKd 0 zm_157 := zKd_ok (q1 := 8064) (q2 := 8065) (by decide +kernel)
theorem zk_158 : zKd 0 zm_158 := zKd_ok (q1 := 8161) (q2 := 8162) (by decide +kernel)
theorem zk_159 : zKd 0 zm_159 := zKd_ok (q1 := 8166) (q2 := 100) (by decide +kernel)
theorem zk_160 : zKd 0 zm_160 := zKd_ok (q1 := 6218) (q2 := 6219) (by decide +kernel)
theorem zk_161 : zKd 0 zm_161 := zKd_ok (q1 := 8173) (q2 := 8174) (by decide +kernel)
theorem zk_162 : zKd 0 zm_162 := zKd_ok (q1 := 8087) (q2 := 8088) (by decide +kernel)
theorem zk_163 : zKd 0 zm_163 := zKd_ok (q1 := 8040) (q2 := 8041) (by decide +kernel)
theorem zk_164 : zKd 0 zm_164 := zKd_ok (q1 := 8217) (q2 := 8218) (by decide +kernel)
theorem zk_165 : zKd 0 zm_165 := zKd_ok (q1 := 6227) (q2 := 38) (by decide +kernel)
theorem zk_166 : zKd 0 zm_166 := zKd_ok (q1 := 6001) (q2 := 36) (by decide +kernel)
theorem zk_167 : zKd 0 zm_167 := zKd_ok (q1 := 8002) (q2 := 8003) (by decide +kernel)
theorem zk_168 : zKd 0 zm_168 := zKd_ok (q1 := 8222) (q2 := 107) (by decide +kernel)
theorem zk_169 : zKd 0 zm_169 := zKd_ok (q1 := 7153) (q2 := 69) (by decide +kernel)
theorem zk_170 : zKd 0 zm_170 := zKd_ok (q1 := 8137) (q2 := 8138) (by decide +kernel)
theorem zk_171 : zKd 0 zm_171 := zKd_ok (q1 := 8142) (q2 := 98) (by decide +kernel)
theorem zk_172 : zKd 0 zm_172 := zKd_ok (q1 := 7207) (q2 := 7208) (by decide +kernel)
theorem zk_173 : zKd 0 zm_173 := zKd_ok (q1 := 7169) (q2 := 72) (by decide +kernel)
theorem zk_174 : zKd 0 zm_174 := zKd_ok (q1 := 8213) (q2 := 8214) (by decide +kernel)
theorem zk_175 : zKd 0 zm_175 := zKd_ok (q1 := 8153) (q2 := 8154) (by decide +kernel)
theorem zk_176 : zKd 2 zm_176 := zKd_ok (q1 := 7204) (q2 := 0) (by decide +kernel)
theorem zk_177 : zKd 0 zm_177 := zKd_ok (q1 := 8056) (q2 := 8057) (by decide +kernel)
theorem zk_178 : zKd 0 zm_178 := zKd_ok (q1 := 7104) (q2 := 59) (by decide +kernel)
theorem zk_179 : zKd 0 zm_179 := zKd_ok (q1 := 8229) (q2 := 8230) (by decide +kernel)
theorem zk_180 : zKd 0 zm_180 := zKd_ok (q1 := 7193) (q2 := 76) (by decide +kernel)
theorem zk_181 : zKd 0 zm_181 := zKd_ok (q1 := 7189) (q2 := 75) (by decide +kernel)
theorem zk_182 : zKd 0 zm_182 := zKd_ok (q1 := 7218) (q2 := 7219) (by decide +kernel)
theorem zk_183 : zKd 0 zm_183 := zKd_ok (q1 := 8103) (q2 := 93) (by decide +kernel)
theorem zk_184 : zKd 0 zm_184 := zKd_ok (q1 := 8072) (q2 := 8073) (by decide +kernel)
theorem zk_185 : zKd 0 zm_185 := zKd_ok (q1 := 7112) (q2 := 61) (by decide +kernel)
theorem zk_186 : zKd 0 zm_186 := zKd_ok (q1 := 7068) (q2 := 50) (by decide +kernel)
theorem zk_187 : zKd 0 zm_187 := zKd_ok (q1 := 8130) (q2 := 97) (by decide +kernel)
theorem zk_188 : zKd 1 zm_188 := zKd_ok (q1 := 1193) (q2 := 0) (by decide +kernel)
theorem zk_189 : zKd 0 zm_189 := zKd_ok (q1 := 4031) (q2 := 4032) (by decide +kernel)
theorem zk_190 : zKd 0 zm_190 := zKd_ok (q1 := 3237) (q2 := 3238) (by decide +kernel)
theorem zk_191 : zKd 2 zm_191 := zKd_ok (q1 := 4001) (q2 := 0) (by decide +kernel)
theorem zk_192 : zKd 0 zm_192 := zKd_ok (q1 := 4214) (q2 := 4215) (by decide +kernel)
theorem zk_193 : zKd 0 zm_193 := zKd_ok (q1 := 4227) (q2 := 28) (by decide +kernel)
theorem zk_194 : zKd 0 zm_194 := zKd_ok (q1 := 4083) (q2 := 4084) (by decide +kernel)
theorem zk_195 : zKd 0 zm_195 := zKd_ok (q1 := 4231) (q2 := 29) (by decide +kernel)
theorem zk_196 : zKd 0 zm_196 := zKd_ok (q1 := 4071) (q2 := 4072) (by decide +kernel)
theorem zk_197 : zKd 0 zm_197 := zKd_ok (q1 := 4079) (q2 := 4080) (by decide +kernel)
theorem zk_198 : zKd 1 zm_198 := zKd_ok (q1 := 1206) (q2 := 0) (by decide +kernel)
theorem zk_199 : zKd 0 zm_199 := zKd_ok (q1 := 4194) (q2 := 25) (by decide +kernel)
theorem zk_200 : zKd 0 zm_200 := zKd_ok (q1 := 4176) (q2 := 4177) (by decide +kernel)
theorem zk_201 : zKd 0 zm_201 := zKd_ok (q1 := 4198) (q2 := 26) (by decide +kernel)
theorem zk_202 : zKd 0 zm_202 := zKd_ok (q1 := 5127) (q2 := 5128) (by decide +kernel)
theorem zk_203 : zKd 0 zm_203 := zKd_ok (q1 := 4202) (q2 := 27) (by decide +kernel)
theorem zk_204 : zKd 0 zm_204 := zKd_ok (q1 := 4206) (q2 := 4207) (by decide +kernel)
theorem zk_205 : zKd 0 zm_205 := zKd_ok (q1 := 4184) (q2 := 4185) (by decide +kernel)
theorem zk_206 : zKd 0 zm_206 := zKd_ok (q1 := 4160) (q2 := 4161) (by decide +kernel)
theorem zk_207 : zKd 0 zm_207 := zKd_ok (q1 := 4189) (q2 := 24) (by decide +kernel)
theorem zk_208 : zKd 1 zm_208 := zKd_ok (q1 := 2057) (q2 := 0) (by decide +kernel)
theorem zk_209 : zKd 0 zm_209 := zKd_ok (q1 := 3072) (q2 := 3073) (by decide +kernel)
theorem zk_210 : zKd 2 zm_210 := zKd_ok (q1 := 4021) (q2 := 0) (by decide +kernel)
theorem zk_211 : zKd 2 zm_211 := zKd_ok (q1 := 4028) (q2 := 0) (by decide +kernel)
theorem zk_212 : zKd 0 zm_212 := zKd_ok (q1 := 4025) (q2 := 22) (by decide +kernel)
theorem zk_213 : zKd 0 zm_213 := zKd_ok (q1 := 3145) (q2 := 3146) (by decide +kernel)
theorem zk_214 : zKd 0 zm_214 := zKd_ok (q1 := 4008) (q2 := 4009) (by decide +kernel)
theorem zk_215 : zKd 0 zm_215 := zKd_ok (q1 := 4017) (q2 := 4018) (by decide +kernel)
theorem zk_216 : zKd 1 zm_216 := zKd_ok (q1 := 1224) (q2 := 0) (by decide +kernel)
theorem zk_217 : zKd 0 zm_217 := zKd_ok (q1 := 5016) (q2 := 5017) (by decide +kernel)
theorem zk_218 : zKd 2 zm_218 := zKd_ok (q1 := 5051) (q2 := 0) (by decide +kernel)
theorem zk_219 : zKd 0 zm_219 := zKd_ok (q1 := 5081) (q2 := 31) (by decide +kernel)
theorem zk_220 : zKd 0 zm_220 := zKd_ok (q1 := 5047) (q2 := 5048) (by decide +kernel)
theorem zk_221 : zKd 0 zm_221 := zKd_ok (q1 := 5075) (q2 := 5076) (by decide +kernel)
theorem zk_222 : zKd 0 zm_222 := zKd_ok (q1 := 5054) (q2 := 5055) (by decide +kernel)
theorem zk_223 : zKd 0 zm_223 := zKd_ok (q1 := 5058) (q2 := 5059) (by decide +kernel)
theorem zk_224 : zKd 0 zm_224 := zKd_ok (q1 := 5003) (q2 := 5004) (by decide +kernel)
theorem zk_225 : zKd 0 zm_225 := zKd_ok (q1 := 5026) (q2 := 5027) (by decide +kernel)
theorem zk_226 : zKd 1 zm_226 := zKd_ok (q1 := 1161) (q2 := 0) (by decide +kernel)
theorem zk_227 : zKd 0 zm_227 := zKd_ok (q1 := 5226) (q2 := 5227) (by decide +kernel)
theorem zk_228 : zKd 0 zm_228 := zKd_ok (q1 := 5222) (q2 := 5223) (by decide +kernel)
theorem zk_229 : zKd 0 zm_229 := zKd_ok (q1 := 4092) (q2 := 4093) (by decide +kernel)
theorem zk_230 : zKd 0 zm_230 := zKd_ok (q1 := 4098) (q2 := 23) (by decide +kernel)
theorem zk_231 : zKd 0 zm_231 := zKd_ok (q1 := 3213) (q2 := 3214) (by decide +kernel)
theorem zk_232 : zKd 0 zm_232 := zKd_ok (q1 := 5210) (q2 := 5211) (by decide +kernel)
theorem zk_233 : zKd 0 zm_233 := zKd_ok (q1 := 3165) (q2 := 3166) (by decide +kernel)
theorem zk_234 : zKd 0 zm_234 := zKd_ok (q1 := 4144) (q2 := 4145) (by decide +kernel)
theorem zk_235 : zKd 0 zm_235 := zKd_ok (q1 := 4152) (q2 := 4153) (by decide +kernel)
theorem zk_236 : zKd 1 zm_236 := zKd_ok (q1 := 1032) (q2 := 0) (by decide +kernel)
theorem zk_237 : zKd 0 zm_237 := zKd_ok (q1 := 2228) (q2 := 1) (by decide +kernel)
theorem zk_238 : zKd 0 zm_238 := zKd_ok (q1 := 3154) (q2 := 19) (by decide +kernel)
theorem zk_239 : zKd 0 zm_239 := zKd_ok (q1 := 3110) (q2 := 12) (by decide +kernel)
theorem zk_240 : zKd 0 zm_240 := zKd_ok (q1 := 3094) (q2 := 8) (by decide +kernel)
theorem zk_241 : zKd 0 zm_241 := zKd_ok (q1 := 3086) (q2 := 6) (by decide +kernel)
theorem zk_242 : zKd 0 zm_242 := zKd_ok (q1 := 3102) (q2 := 10) (by decide +kernel)
theorem zk_243 : zKd 0 zm_243 := zKd_ok (q1 := 2223) (q2 := 2224) (by decide +kernel)
theorem zk_244 : zKd 0 zm_244 := zKd_ok (q1 := 3125) (q2 := 13) (by decide +kernel)
theorem zk_245 : zKd 0 zm_245 := zKd_ok (q1 := 3077) (q2 := 4) (by decide +kernel)
theorem zk_246 : zKd 0 zm_246 := zKd_ok (q1 := 3162) (q2 := 21) (by decide +kernel)
theorem zk_247 : zKd 0 zm_247 := zKd_ok (q1 := 3130) (q2 := 14) (by decide +kernel)
theorem zk_248 : zKd 0 zm_248 := zKd_ok (q1 := 3150) (q2 := 18) (by decide +kernel)
theorem zk_249 : zKd 0 zm_249 := zKd_ok (q1 := 3138) (q2 := 16) (by decide +kernel)
theorem zk_250 : zKd 0 zm_250 := zKd_ok (q1 := 3106) (q2 := 11) (by decide +kernel)
theorem zk_251 : zKd 0 zm_251 := zKd_ok (q1 := 3142) (q2 := 17) (by decide +kernel)
theorem zk_252 : zKd 0 zm_252 := zKd_ok (q1 := 3134) (q2 := 15) (by decide +kernel)
theorem zk_253 : zKd 0 zm_253 := zKd_ok (q1 := 3158) (q2 := 20) (by decide +kernel)
theorem zk_254 : zKd 0 zm_254 := zKd_ok (q1 := 3081) (q2 := 5) (by decide +kernel)
theorem zk_255 : zKd 0 zm_255 := zKd_ok (q1 := 3090) (q2 := 7) (by decide +kernel)
theorem zk_256 : zKd 0 zm_256 := zKd_ok (q1 := 3098) (q2 := 9) (by decide +kernel)
theorem zk_257 : zKd 1 zm_257 := zKd_ok (q1 := 2051) (q2 := 0) (by decide +kernel)
theorem zk_258 : zKd 0 zm_258 := zKd_ok (q1 := 3209) (q2 := 3210) (by decide +kernel)
theorem zk_259 : zKd 0 zm_259 := zKd_ok (q1 := 4239) (q2 := 5000) (by decide +kernel)
theorem zk_260 : zKd 2 zm_260 := zKd_ok (q1 := 3121) (q2 := 0) (by decide +kernel)
theorem zk_261 : zKd 0 zm_261 := zKd_ok (q1 := 3068) (q2 := 3069) (by decide +kernel)
theorem zk_262 : zKd 0 zm_262 := zKd_ok (q1 := 5038) (q2 := 5039) (by decide +kernel)
theorem zk_263 : zKd 0 zm_263 := zKd_ok (q1 := 3182) (q2 := 3183) (by decide +kernel)
theorem zk_264 : zKd 0 zm_264 := zKd_ok (q1 := 3233) (q2 := 3234) (by decide +kernel)
theorem zk_265 : zKd 0 zm_265 := zKd_ok (q1 := 3200) (q2 := 3201) (by decide +kernel)
theorem zk_266 : zKd 0 zm_266 := zKd_ok (q1 := 3204) (q2 := 3205) (by decide +kernel)
theorem zk_267 : zKd 0 zm_267 := zKd_ok (q1 := 5098) (q2 := 5099) (by decide +kernel)
theorem zk_268 : zKd 0 zm_268 := zKd_ok (q1 := 5110) (q2 := 5111) (by decide +kernel)
theorem zk_269 : zKd 0 zm_269 := zKd_ok (q1 := 5115) (q2 := 32) (by decide +kernel)
theorem zk_270 : zKd 0 zm_270 := zKd_ok (q1 := 3113) (q2 := 3114) (by decide +kernel)
theorem zk_271 : zKd 0 zm_271 := zKd_ok (q1 := 3117) (q2 := 3118) (by decide +kernel)
theorem zk_272 : zKd 0 zm_272 := zKd_ok (q1 := 3187) (q2 := 3188) (by decide +kernel)
theorem zk_273 : zKd 0 zm_273 := zKd_ok (q1 := 4134) (q2 := 4135) (by decide +kernel)
theorem zk_274 : zKd 0 zm_274 := zKd_ok (q1 := 3192) (q2 := 3193) (by decide +kernel)
theorem zk_275 : zKd 1 zm_275 := zKd_ok (q1 := 1038) (q2 := 0) (by decide +kernel)
theorem zk_276 : zKd 0 zm_276 := zKd_ok (q1 := 2231) (q2 := 2232) (by decide +kernel)
theorem zk_277 : zKd 0 zm_277 := zKd_ok (q1 := 3007) (q2 := 3) (by decide +kernel)
theorem zk_278 : zKd 0 zm_278 := zKd_ok (q1 := 3003) (q2 := 2) (by decide +kernel)
theorem zk_279 : zKd 0 zm_279 := zKd_ok (q1 := 2238) (q2 := 2239) (by decide +kernel)
theorem zk_280 : zKd 1 zm_280 := zKd_ok (q1 := 2015) (q2 := 0) (by decide +kernel)
theorem zk_281 : zKd 0 zm_281 := zKd_ok (q1 := 5177) (q2 := 5178) (by decide +kernel)
theorem zk_282 : zKd 0 zm_282 := zKd_ok (q1 := 3170) (q2 := 3171) (by decide +kernel)
theorem zk_283 : zKd 0 zm_283 := zKd_ok (q1 := 5168) (q2 := 5169) (by decide +kernel)
theorem zk_284 : zKd 0 zm_284 := zKd_ok (q1 := 5182) (q2 := 33) (by decide +kernel)
theorem zk_285 : zKd 0 zm_285 := zKd_ok (q1 := 5197) (q2 := 34) (by decide +kernel)
theorem zk_286 : zKd 0 zm_286 := zKd_ok (q1 := 5191) (q2 := 5192) (by decide +kernel)
theorem zk_287 : zKd 0 zm_287 := zKd_ok (q1 := 5160) (q2 := 5161) (by decide +kernel)
theorem zk_288 : zKd 0 zm_288 := zKd_ok (q1 := 5148) (q2 := 5149) (by decide +kernel)
theorem zk_289 : zKd 1 zm_289 := zKd_ok (q1 := 1168) (q2 := 0) (by decide +kernel)
theorem zk_290 : zKd 0 zm_290 := zKd_ok (q1 := 4120) (q2 := 4121) (by decide +kernel)
theorem zk_291 : zKd 0 zm_291 := zKd_ok (q1 := 4060) (q2 := 4061) (by decide +kernel)
theorem zk_292 : zKd 0 zm_292 := zKd_ok (q1 := 4055) (q2 := 4056) (by decide +kernel)
theorem zk_293 : zKd 0 zm_293 := zKd_ok (q1 := 4051) (q2 := 4052) (by decide +kernel)
theorem zk_294 : zKd 0 zm_294 := zKd_ok (q1 := 3221) (q2 := 3222) (by decide +kernel)
theorem zk_295 : zKd 0 zm_295 := zKd_ok (q1 := 4129) (q2 := 4130) (by decide +kernel)
theorem zk_296 : zKd 0 zm_296 := zKd_ok (q1 := 4013) (q2 := 4014) (by decide +kernel)
theorem zk_297 : zKd 0 zm_297 := zKd_ok (q1 := 4108) (q2 := 4109) (by decide +kernel)
theorem zk_298 : zKd 0 zm_298 := zKd_ok (q1 := 5218) (q2 := 5219) (by decide +kernel)
theorem zk_299 : zKd 0 zm_299 := zKd_ok (q1 := 4047) (q2 := 4048) (by decide +kernel)
theorem zk_300 : zKd 0 zm_300 := zKd_ok (q1 := 4101) (q2 := 4102) (by decide +kernel)
theorem zk_301 : zKd 0 zm_301 := zKd_ok (q1 := 3217) (q2 := 3218) (by decide +kernel)
theorem zk_302 : zKd 0 zm_302 := zKd_ok (q1 := 4042) (q2 := 4043) (by decide +kernel)
theorem zk_303 : zKd 0 zm_303 := zKd_ok (q1 := 1172) (q2 := 1173) (by decide +kernel)
theorem zk_304 : zKd 2 zm_304 := zKd_ok (q1 := 4220) (q2 := 0) (by decide +kernel)
theorem zk_305 : zKd 0 zm_305 := zKd_ok (q1 := 1053) (q2 := 1054) (by decide +kernel)
theorem zk_306 : zKd 2 zm_306 := zKd_ok (q1 := 1064) (q2 := 0) (by decide +kernel)
theorem zk_307 : zKd 0 zm_307 := zKd_ok (q1 := 1047) (q2 := 1048) (by decide +kernel)
theorem zk_308 : zKd 0 zm_308 := zKd_ok (q1 := 3011) (q2 := 3012) (by decide +kernel)
theorem zk_309 : zKd 0 zm_309 := zKd_ok (q1 := 3015) (q2 := 3016) (by decide +kernel)
theorem zk_310 : zKd 0 zm_310 := zKd_ok (q1 := 1057) (q2 := 1058) (by decide +kernel)
theorem zk_311 : zKd 0 zm_311 := zKd_ok (q1 := 1043) (q2 := 1044) (by decide +kernel)
theorem zk_312 : zKd 2 zm_312 := zKd_ok (q1 := 3023) (q2 := 0) (by decide +kernel)
theorem zk_313 : zKd 2 zm_313 := zKd_ok (q1 := 1061) (q2 := 0) (by decide +kernel)
theorem zk_314 : zKd 2 zm_314 := zKd_ok (q1 := 3020) (q2 := 0) (by decide +kernel)
theorem zk_315 : zKd 2 zm_315 := zKd_ok (q1 := 3030) (q2 := 0) (by decide +kernel)
theorem zk_316 : zKd 2 zm_316 := zKd_ok (q1 := 1069) (q2 := 0) (by decide +kernel)
def z_pr0 : List (zM × Nat) := [(zm_0, 1), (zm_1, 0), (zm_2, 0), (zm_3, 0), (zm_4, 0), (zm_5, 0), (zm_6, 0), (zm_7, 0), (zm_8, 0), (zm_9, 0), (zm_10, 0), (zm_11, 0), (zm_12, 0), (zm_13, 0), (zm_14, 0), (zm_15, 0)]
theorem zkc_0 : ∀ q ∈ z_pr0, zKd q.2 q.1 := List.forall_mem_cons.mpr ⟨zk_0, List.forall_mem_cons.mpr ⟨zk_1, List.forall_mem_cons.mpr ⟨zk_2, List.forall_mem_cons.mpr ⟨zk_3, List.forall_mem_cons.mpr ⟨zk_4, List.forall_mem_cons.mpr ⟨zk_5, List.forall_mem_cons.mpr ⟨zk_6, List.forall_mem_cons.mpr ⟨zk_7, List.forall_mem_cons.mpr ⟨zk_8, List.forall_mem_cons.mpr ⟨zk_9, List.forall_mem_cons.mpr ⟨zk_10, List.forall_mem_cons.mpr ⟨zk_11, List.forall_mem_cons.mpr ⟨zk_12, List.forall_mem_cons.mpr ⟨zk_13, List.forall_mem_cons.mpr ⟨zk_14, List.forall_mem_cons.mpr ⟨zk_15, fun _ h => absurd h List.not_mem_nil⟩⟩⟩⟩⟩⟩⟩⟩⟩⟩⟩⟩⟩⟩⟩⟩
def z_pr1 : List (zM × Nat) := [(zm_16, 0), (zm_17, 0), (zm_18, 0), (zm_19, 0), (zm_20, 0), (zm_21, 0), (zm_22, 0), (zm_23, 0), (zm_24, 2), (zm_25, 2), (zm_26, 0), (zm_27, 0), (zm_28, 0), (zm_29, 2), (zm_30, 0), (zm_31, 0)]
theorem zkc_1 : ∀ q ∈ z_pr1, zKd q.2 q.1 := List.forall_mem_cons.mpr ⟨zk_16, List.forall_mem_cons.mpr ⟨zk_17, List.forall_mem_cons.mpr ⟨zk_18, List.forall_mem_cons.mpr ⟨zk_19, List.forall_mem_cons.mpr ⟨zk_20, List.forall_mem_cons.mpr ⟨zk_21, List.forall_mem_cons.mpr ⟨zk_22, List.forall_mem_cons.mpr ⟨zk_23, List.forall_mem_cons.mpr ⟨zk_24, List.forall_mem_cons.mpr ⟨zk_25, List.forall_mem_cons.mpr ⟨zk_26, List.forall_mem_cons.mpr ⟨zk_27, List.forall_mem_cons.mpr ⟨zk_28, List.forall_mem_cons.mpr ⟨zk_29, List.forall_mem_cons.mpr ⟨zk_30, List.forall_mem_cons.mpr ⟨zk_31, fun _ h => absurd h List.not_mem_nil⟩⟩⟩⟩⟩⟩⟩⟩⟩⟩⟩⟩⟩⟩⟩⟩
def z_pr2 : List (zM × Nat) := [(zm_32, 0), (zm_33, 0), (zm_34, 0), (zm_35, 0), (zm_36, 0), (zm_37, 0), (zm_38, 0), (zm_39, 0), (zm_40, 0), (zm_41, 0), (zm_42, 0), (zm_43, 0), (zm_44, 0), (zm_45, 0), (zm_46, 0), (zm_47, 0)]
theorem zkc_2 : ∀ q ∈ z_pr2, zKd q.2 q.1 := List.forall_mem_cons.mpr ⟨zk_32, List.forall_mem_cons.mpr ⟨zk_33, List.forall_mem_cons.mpr ⟨zk_34, List.forall_mem_cons.mpr ⟨zk_35, List.forall_mem_cons.mpr ⟨zk_36, List.forall_mem_cons.mpr ⟨zk_37, List.forall_mem_cons.mpr ⟨zk_38, List.forall_mem_cons.mpr ⟨zk_39, List.forall_mem_cons.mpr ⟨zk_40, List.forall_mem_cons.mpr ⟨zk_41, List.forall_mem_cons.mpr ⟨zk_42, List.forall_mem_cons.mpr ⟨zk_43, List.forall_mem_cons.mpr ⟨zk_44, List.forall_mem_cons.mpr ⟨zk_45, List.forall_mem_cons.mpr ⟨zk_46, List.forall_mem_cons.mpr ⟨zk_47, fun _ h => absurd h List.not_mem_nil⟩⟩⟩⟩⟩⟩⟩⟩⟩⟩⟩⟩⟩⟩⟩⟩
def z_pr3 : List (zM × Nat) := [(zm_48, 0), (zm_49, 0), (zm_50, 0), (zm_51, 0), (zm_52, 0), (zm_53, 1), (zm_54, 0), (zm_55, 0), (zm_56, 0), (zm_57, 0), (zm_58, 0), (zm_59, 0), (zm_60, 0), (zm_61, 0), (zm_62, 0), (zm_63, 2)]
theorem zkc_3 : ∀ q ∈ z_pr3, zKd q.2 q.1 := List.forall_mem_cons.mpr ⟨zk_48, List.forall_mem_cons.mpr ⟨zk_49, List.forall_mem_cons.mpr ⟨zk_50, List.forall_mem_cons.mpr ⟨zk_51, List.forall_mem_cons.mpr ⟨zk_52, List.forall_mem_cons.mpr ⟨zk_53, List.forall_mem_cons.mpr ⟨zk_54, List.forall_mem_cons.mpr ⟨zk_55, List.forall_mem_cons.mpr ⟨zk_56, List.forall_mem_cons.mpr ⟨zk_57, List.forall_mem_cons.mpr ⟨zk_58, List.forall_mem_cons.mpr ⟨zk_59, List.forall_mem_cons.mpr ⟨zk_60, List.forall_mem_cons.mpr ⟨zk_61, List.forall_mem_cons.mpr ⟨zk_62, List.forall_mem_cons.mpr ⟨zk_63, fun _ h => absurd h List.not_mem_nil⟩⟩⟩⟩⟩⟩⟩⟩⟩⟩⟩⟩⟩⟩⟩⟩
def z_pr4 : List (zM × Nat) := [(zm_64, 0), (zm_65, 0), (zm_66, 0), (zm_67, 0), (zm_68, 0), (zm_69, 0), (zm_70, 0), (zm_71, 0), (zm_72, 0), (zm_73, 2), (zm_74, 0), (zm_75, 0), (zm_76, 0), (zm_77, 0), (zm_78, 0), (zm_79, 0)]
theorem zkc_4 : ∀ q ∈ z_pr4, zKd q.2 q.1 := List.forall_mem_cons.mpr ⟨zk_64, List.forall_mem_cons.mpr ⟨zk_65, List.forall_mem_cons.mpr ⟨zk_66, List.forall_mem_cons.mpr ⟨zk_67, List.forall_mem_cons.mpr ⟨zk_68, List.forall_mem_cons.mpr ⟨zk_69, List.forall_mem_cons.mpr ⟨zk_70, List.forall_mem_cons.mpr ⟨zk_71, List.forall_mem_cons.mpr ⟨zk_72, List.forall_mem_cons.mpr ⟨zk_73, List.forall_mem_cons.mpr ⟨zk_74, List.forall_mem_cons.mpr ⟨zk_75, List.forall_mem_cons.mpr ⟨zk_76, List.forall_mem_cons.mpr ⟨zk_77, List.forall_mem_cons.mpr ⟨zk_78, List.forall_mem_cons.mpr ⟨zk_79, fun _ h => absurd h List.not_mem_nil⟩⟩⟩⟩⟩⟩⟩⟩⟩⟩⟩⟩⟩⟩⟩⟩
def z_pr5 : List (zM × Nat) := [(zm_80, 0), (zm_81, 0), (zm_82, 0), (zm_83, 0), (zm_84, 0), (zm_85, 0), (zm_86, 0), (zm_87, 0), (zm_88, 0), (zm_89, 0), (zm_90, 0), (zm_91, 0), (zm_92, 0), (zm_93, 0), (zm_94, 0), (zm_95, 0)]
theorem zkc_5 : ∀ q ∈ z_pr5, zKd q.2 q.1 := List.forall_mem_cons.mpr ⟨zk_80, List.forall_mem_cons.mpr ⟨zk_81, List.forall_mem_cons.mpr ⟨zk_82, List.forall_mem_cons.mpr ⟨zk_83, List.forall_mem_cons.mpr ⟨zk_84, List.forall_mem_cons.mpr ⟨zk_85, List.forall_mem_cons.mpr ⟨zk_86, List.forall_mem_cons.mpr ⟨zk_87, List.forall_mem_cons.mpr ⟨zk_88, List.forall_mem_cons.mpr ⟨zk_89, List.forall_mem_cons.mpr ⟨zk_90, List.forall_mem_cons.mpr ⟨zk_91, List.forall_mem_cons.mpr ⟨zk_92, List.forall_mem_cons.mpr ⟨zk_93, List.forall_mem_cons.mpr ⟨zk_94, List.forall_mem_cons.mpr ⟨zk_95, fun _ h => absurd h List.not_mem_nil⟩⟩⟩⟩⟩⟩⟩⟩⟩⟩⟩⟩⟩⟩⟩⟩
def z_pr6 : List (zM × Nat) := [(zm_96, 0), (zm_97, 0), (zm_98, 0), (zm_99, 0), (zm_100, 0), (zm_101, 2), (zm_102, 0), (zm_103, 0), (zm_104, 0), (zm_105, 0), (zm_106, 0), (zm_107, 2), (zm_108, 0), (zm_109, 0), (zm_110, 2), (zm_111, 0)]
theorem zkc_6 : ∀ q ∈ z_pr6, zKd q.2 q.1 := List.forall_mem_cons.mpr ⟨zk_96, List.forall_mem_cons.mpr ⟨zk_97, List.forall_mem_cons.mpr ⟨zk_98, List.forall_mem_cons.mpr ⟨zk_99, List.forall_mem_cons.mpr ⟨zk_100, List.forall_mem_cons.mpr ⟨zk_101, List.forall_mem_cons.mpr ⟨zk_102, List.forall_mem_cons.mpr ⟨zk_103, List.forall_mem_cons.mpr ⟨zk_104, List.forall_mem_cons.mpr ⟨zk_105, List.forall_mem_cons.mpr ⟨zk_106, List.forall_mem_cons.mpr ⟨zk_107, List.forall_mem_cons.mpr ⟨zk_108, List.forall_mem_cons.mpr ⟨zk_109, List.forall_mem_cons.mpr ⟨zk_110, List.forall_mem_cons.mpr ⟨zk_111, fun _ h => absurd h List.not_mem_nil⟩⟩⟩⟩⟩⟩⟩⟩⟩⟩⟩⟩⟩⟩⟩⟩
def z_pr7 : List (zM × Nat) := [(zm_112, 0), (zm_113, 2), (zm_114, 2), (zm_115, 2), (zm_116, 0), (zm_117, 0), (zm_118, 2), (zm_119, 0), (zm_120, 2), (zm_121, 0), (zm_122, 0), (zm_123, 0), (zm_124, 0), (zm_125, 0), (zm_126, 0), (zm_127, 0)]
theorem zkc_7 : ∀ q ∈ z_pr7, zKd q.2 q.1 := List.forall_mem_cons.mpr ⟨zk_112, List.forall_mem_cons.mpr ⟨zk_113, List.forall_mem_cons.mpr ⟨zk_114, List.forall_mem_cons.mpr ⟨zk_115, List.forall_mem_cons.mpr ⟨zk_116, List.forall_mem_cons.mpr ⟨zk_117, List.forall_mem_cons.mpr ⟨zk_118, List.forall_mem_cons.mpr ⟨zk_119, List.forall_mem_cons.mpr ⟨zk_120, List.forall_mem_cons.mpr ⟨zk_121, List.forall_mem_cons.mpr ⟨zk_122, List.forall_mem_cons.mpr ⟨zk_123, List.forall_mem_cons.mpr ⟨zk_124, List.forall_mem_cons.mpr ⟨zk_125, List.forall_mem_cons.mpr ⟨zk_126, List.forall_mem_cons.mpr ⟨zk_127, fun _ h => absurd h List.not_mem_nil⟩⟩⟩⟩⟩⟩⟩⟩⟩⟩⟩⟩⟩⟩⟩⟩
def z_pr8 : List (zM × Nat) := [(zm_128, 0), (zm_129, 0), (zm_130, 0), (zm_131, 0), (zm_132, 0), (zm_133, 0), (zm_134, 0), (zm_135, 0), (zm_136, 0), (zm_137, 0), (zm_138, 0), (zm_139, 0), (zm_140, 0), (zm_141, 0), (zm_142, 0), (zm_143, 0)]
theorem zkc_8 : ∀ q ∈ z_pr8, zKd q.2 q.1 := List.forall_mem_cons.mpr ⟨zk_128, List.forall_mem_cons.mpr ⟨zk_129, List.forall_mem_cons.mpr ⟨zk_130, List.forall_mem_cons.mpr ⟨zk_131, List.forall_mem_cons.mpr ⟨zk_132, List.forall_mem_cons.mpr ⟨zk_133, List.forall_mem_cons.mpr ⟨zk_134, List.forall_mem_cons.mpr ⟨zk_135, List.forall_mem_cons.mpr ⟨zk_136, List.forall_mem_cons.mpr ⟨zk_137, List.forall_mem_cons.mpr ⟨zk_138, List.forall_mem_cons.mpr ⟨zk_139, List.forall_mem_cons.mpr ⟨zk_140, List.forall_mem_cons.mpr ⟨zk_141, List.forall_mem_cons.mpr ⟨zk_142, List.forall_mem_cons.mpr ⟨zk_143, fun _ h => absurd h List.not_mem_nil⟩⟩⟩⟩⟩⟩⟩⟩⟩⟩⟩⟩⟩⟩⟩⟩
def z_pr9 : List (zM × Nat) := [(zm_144, 0), (zm_145, 0), (zm_146, 0), (zm_147, 0), (zm_148, 2), (zm_149, 0), (zm_150, 0), (zm_151, 0), (zm_152, 0), (zm_153, 0), (zm_154, 0), (zm_155, 0), (zm_156, 0), (zm_157, 0), (zm_158, 0), (zm_159, 0)]
theorem zkc_9 : ∀ q ∈ z_pr9, zKd q.2 q.1 := List.forall_mem_cons.mpr ⟨zk_144, List.forall_mem_cons.mpr ⟨zk_145, List.forall_mem_cons.mpr ⟨zk_146, List.forall_mem_cons.mpr ⟨zk_147, List.forall_mem_cons.mpr ⟨zk_148, List.forall_mem_cons.mpr ⟨zk_149, List.forall_mem_cons.mpr ⟨zk_150, List.forall_mem_cons.mpr ⟨zk_151, List.forall_mem_cons.mpr ⟨zk_152, List.forall_mem_cons.mpr ⟨zk_153, List.forall_mem_cons.mpr ⟨zk_154, List.forall_mem_cons.mpr ⟨zk_155, List.forall_mem_cons.mpr ⟨zk_156, List.forall_mem_cons.mpr ⟨zk_157, List.forall_mem_cons.mpr ⟨zk_158, List.forall_mem_cons.mpr ⟨zk_159, fun _ h => absurd h List.not_mem_nil⟩⟩⟩⟩⟩⟩⟩⟩⟩⟩⟩⟩⟩⟩⟩⟩
def z_pr10 : List (zM × Nat) := [(zm_160, 0), (zm_161, 0), (zm_162, 0), (zm_163, 0), (zm_164, 0), (zm_165, 0), (zm_166, 0), (zm_167, 0), (zm_168, 0), (zm_169, 0), (zm_170, 0), (zm_171, 0), (zm_172, 0), (zm_173, 0), (zm_174, 0), (zm_175, 0)]
theorem zkc_10 : ∀ q ∈ z_pr10, zKd q.2 q.1 := List.forall_mem_cons.mpr ⟨zk_160, List.forall_mem_cons.mpr ⟨zk_161, List.forall_mem_cons.mpr ⟨zk_162, List.forall_mem_cons.mpr ⟨zk_163, List.forall_mem_cons.mpr ⟨zk_164, List.forall_mem_cons.mpr ⟨zk_165, List.forall_mem_cons.mpr ⟨zk_166, List.forall_mem_cons.mpr ⟨zk_167, List.forall_mem_cons.mpr ⟨zk_168, List.forall_mem_cons.mpr ⟨zk_169, List.forall_mem_cons.mpr ⟨zk_170, List.forall_mem_cons.mpr ⟨zk_171, List.forall_mem_cons.mpr ⟨zk_172, List.forall_mem_cons.mpr ⟨zk_173, List.forall_mem_cons.mpr ⟨zk_174, List.forall_mem_cons.mpr ⟨zk_175, fun _ h => absurd h List.not_mem_nil⟩⟩⟩⟩⟩⟩⟩⟩⟩⟩⟩⟩⟩⟩⟩⟩
def z_pr11 : List (zM × Nat) := [(zm_176, 2), (zm_177, 0), (zm_178, 0), (zm_179, 0), (zm_180, 0), (zm_181, 0), (zm_182, 0), (zm_183, 0), (zm_184, 0), (zm_185, 0), (zm_186, 0), (zm_187, 0), (zm_188, 1), (zm_189, 0), (zm_190, 0), (zm_191, 2)]
theorem zkc_11 : ∀ q ∈ z_pr11, zKd q.2 q.1 := List.forall_mem_cons.mpr ⟨zk_176, List.forall_mem_cons.mpr ⟨zk_177, List.forall_mem_cons.mpr ⟨zk_178, List.forall_mem_cons.mpr ⟨zk_179, List.forall_mem_cons.mpr ⟨zk_180, List.forall_mem_cons.mpr ⟨zk_181, List.forall_mem_cons.mpr ⟨zk_182, List.forall_mem_cons.mpr ⟨zk_183, List.forall_mem_cons.mpr ⟨zk_184, List.forall_mem_cons.mpr ⟨zk_185, List.forall_mem_cons.mpr ⟨zk_186, List.forall_mem_cons.mpr ⟨zk_187, List.forall_mem_cons.mpr ⟨zk_188, List.forall_mem_cons.mpr ⟨zk_189, List.forall_mem_cons.mpr ⟨zk_190, List.forall_mem_cons.mpr ⟨zk_191, fun _ h => absurd h List.not_mem_nil⟩⟩⟩⟩⟩⟩⟩⟩⟩⟩⟩⟩⟩⟩⟩⟩
def z_pr12 : List (zM × Nat) := [(zm_192, 0), (zm_193, 0), (zm_194, 0), (zm_195, 0), (zm_196, 0), (zm_197, 0), (zm_198, 1), (zm_199, 0), (zm_200, 0), (zm_201, 0), (zm_202, 0), (zm_203, 0), (zm_204, 0), (zm_205, 0), (zm_206, 0), (zm_207, 0)]
theorem zkc_12 : ∀ q ∈ z_pr12, zKd q.2 q.1 := List.forall_mem_cons.mpr ⟨zk_192, List.forall_mem_cons.mpr ⟨zk_193, List.forall_mem_cons.mpr ⟨zk_194, List.forall_mem_cons.mpr ⟨zk_195, List.forall_mem_cons.mpr ⟨zk_196, List.forall_mem_cons.mpr ⟨zk_197, List.forall_mem_cons.mpr ⟨zk_198, List.forall_mem_cons.mpr ⟨zk_199, List.forall_mem_cons.mpr ⟨zk_200, List.forall_mem_cons.mpr ⟨zk_201, List.forall_mem_cons.mpr ⟨zk_202, List.forall_mem_cons.mpr ⟨zk_203, List.forall_mem_cons.mpr ⟨zk_204, List.forall_mem_cons.mpr ⟨zk_205, List.forall_mem_cons.mpr ⟨zk_206, List.forall_mem_cons.mpr ⟨zk_207, fun _ h => absurd h List.not_mem_nil⟩⟩⟩⟩⟩⟩⟩⟩⟩⟩⟩⟩⟩⟩⟩⟩
def z_pr13 : List (zM × Nat) := [(zm_208, 1), (zm_209, 0), (zm_210, 2), (zm_211, 2), (zm_212, 0), (zm_213, 0), (zm_214, 0), (zm_215, 0), (zm_216, 1), (zm_217, 0), (zm_218, 2), (zm_219, 0), (zm_220, 0), (zm_221, 0), (zm_222, 0), (zm_223, 0)]
theorem zkc_13 : ∀ q ∈ z_pr13, zKd q.2 q.1 := List.forall_mem_cons.mpr ⟨zk_208, List.forall_mem_cons.mpr ⟨zk_209, List.forall_mem_cons.mpr ⟨zk_210, List.forall_mem_cons.mpr ⟨zk_211, List.forall_mem_cons.mpr ⟨zk_212, List.forall_mem_cons.mpr ⟨zk_213, List.forall_mem_cons.mpr ⟨zk_214, List.forall_mem_cons.mpr ⟨zk_215, List.forall_mem_cons.mpr ⟨zk_216, List.forall_mem_cons.mpr ⟨zk_217, List.forall_mem_cons.mpr ⟨zk_218, List.forall_mem_cons.mpr ⟨zk_219, List.forall_mem_cons.mpr ⟨zk_220, List.forall_mem_cons.mpr ⟨zk_221, List.forall_mem_cons.mpr ⟨zk_222, List.forall_mem_cons.mpr ⟨zk_223, fun _ h => absurd h List.not_mem_nil⟩⟩⟩⟩⟩⟩⟩⟩⟩⟩⟩⟩⟩⟩⟩⟩
def z_pr14 : List (zM × Nat) := [(zm_224, 0), (zm_225, 0), (zm_226, 1), (zm_227, 0), (zm_228, 0), (zm_229, 0), (zm_230, 0), (zm_231, 0), (zm_232, 0), (zm_233, 0), (zm_234, 0), (zm_235, 0), (zm_236, 1), (zm_237, 0), (zm_238, 0), (zm_239, 0)]
theorem zkc_14 : ∀ q ∈ z_pr14, zKd q.2 q.1 := List.forall_mem_cons.mpr ⟨zk_224, List.forall_mem_cons.mpr ⟨zk_225, List.forall_mem_cons.mpr ⟨zk_226, List.forall_mem_cons.mpr ⟨zk_227, List.forall_mem_cons.mpr ⟨zk_228, List.forall_mem_cons.mpr ⟨zk_229, List.forall_mem_cons.mpr ⟨zk_230, List.forall_mem_cons.mpr ⟨zk_231, List.forall_mem_cons.mpr ⟨zk_232, List.forall_mem_cons.mpr ⟨zk_233, List.forall_mem_cons.mpr ⟨zk_234, List.forall_mem_cons.mpr ⟨zk_235, List.forall_mem_cons.mpr ⟨zk_236, List.forall_mem_cons.mpr ⟨zk_237, List.forall_mem_cons.mpr ⟨zk_238, List.forall_mem_cons.mpr ⟨zk_239, fun _ h => absurd h List.not_mem_nil⟩⟩⟩⟩⟩⟩⟩⟩⟩⟩⟩⟩⟩⟩⟩⟩
def z_pr15 : List (zM × Nat) := [(zm_240, 0), (zm_241, 0), (zm_242, 0), (zm_243, 0), (zm_244, 0), (zm_245, 0), (zm_246, 0), (zm_247, 0), (zm_248, 0), (zm_249, 0), (zm_250, 0), (zm_251, 0), (zm_252, 0), (zm_253, 0), (zm_254, 0), (zm_255, 0)]
theorem zkc_15 : ∀ q ∈ z_pr15, zKd q.2 q.1 := List.forall_mem_cons.mpr ⟨zk_240, List.forall_mem_cons.mpr ⟨zk_241, List.forall_mem_cons.mpr ⟨zk_242, List.forall_mem_cons.mpr ⟨zk_243, List.forall_mem_cons.mpr ⟨zk_244, List.forall_mem_cons.mpr ⟨zk_245, List.forall_mem_cons.mpr ⟨zk_246, List.forall_mem_cons.mpr ⟨zk_247, List.forall_mem_cons.mpr ⟨zk_248, List.forall_mem_cons.mpr ⟨zk_249, List.forall_mem_cons.mpr ⟨zk_250, List.forall_mem_cons.mpr ⟨zk_251, List.forall_mem_cons.mpr ⟨zk_252, List.forall_mem_cons.mpr ⟨zk_253, List.forall_mem_cons.mpr ⟨zk_254, List.forall_mem_cons.mpr ⟨zk_255, fun _ h => absurd h List.not_mem_nil⟩⟩⟩⟩⟩⟩⟩⟩⟩⟩⟩⟩⟩⟩⟩⟩
def z_pr16 : List (zM × Nat) := [(zm_256, 0), (zm_257, 1), (zm_258, 0), (zm_259, 0), (zm_260, 2), (zm_261, 0), (zm_262, 0), (zm_263, 0), (zm_264, 0), (zm_265, 0), (zm_266, 0), (zm_267, 0), (zm_268, 0), (zm_269, 0), (zm_270, 0), (zm_271, 0)]
theorem zkc_16 : ∀ q ∈ z_pr16, zKd q.2 q.1 := List.forall_mem_cons.mpr ⟨zk_256, List.forall_mem_cons.mpr ⟨zk_257, List.forall_mem_cons.mpr ⟨zk_258, List.forall_mem_cons.mpr ⟨zk_259, List.forall_mem_cons.mpr ⟨zk_260, List.forall_mem_cons.mpr ⟨zk_261, List.forall_mem_cons.mpr ⟨zk_262, List.forall_mem_cons.mpr ⟨zk_263, List.forall_mem_cons.mpr ⟨zk_264, List.forall_mem_cons.mpr ⟨zk_265, List.forall_mem_cons.mpr ⟨zk_266, List.forall_mem_cons.mpr ⟨zk_267, List.forall_mem_cons.mpr ⟨zk_268, List.forall_mem_cons.mpr ⟨zk_269, List.forall_mem_cons.mpr ⟨zk_270, List.forall_mem_cons.mpr ⟨zk_271, fun _ h => absurd h List.not_mem_nil⟩⟩⟩⟩⟩⟩⟩⟩⟩⟩⟩⟩⟩⟩⟩⟩
def z_pr17 : List (zM × Nat) := [(zm_272, 0), (zm_273, 0), (zm_274, 0), (zm_275, 1), (zm_276, 0), (zm_277, 0), (zm_278, 0), (zm_279, 0), (zm_280, 1), (zm_281, 0), (zm_282, 0), (zm_283, 0), (zm_284, 0), (zm_285, 0), (zm_286, 0), (zm_287, 0)]
theorem zkc_17 : ∀ q ∈ z_pr17, zKd q.2 q.1 := List.forall_mem_cons.mpr ⟨zk_272, List.forall_mem_cons.mpr ⟨zk_273, List.forall_mem_cons.mpr ⟨zk_274, List.forall_mem_cons.mpr ⟨zk_275, List.forall_mem_cons.mpr ⟨zk_276, List.forall_mem_cons.mpr ⟨zk_277, List.forall_mem_cons.mpr ⟨zk_278, List.forall_mem_cons.mpr ⟨zk_279, List.forall_mem_cons.mpr ⟨zk_280, List.forall_mem_cons.mpr ⟨zk_281, List.forall_mem_cons.mpr ⟨zk_282, List.forall_mem_cons.mpr ⟨zk_283, List.forall_mem_cons.mpr ⟨zk_284, List.forall_mem_cons.mpr ⟨zk_285, List.forall_mem_cons.mpr ⟨zk_286, List.forall_mem_cons.mpr ⟨zk_287, fun _ h => absurd h List.not_mem_nil⟩⟩⟩⟩⟩⟩⟩⟩⟩⟩⟩⟩⟩⟩⟩⟩
def z_pr18 : List (zM × Nat) := [(zm_288, 0), (zm_289, 1), (zm_290, 0), (zm_291, 0), (zm_292, 0), (zm_293, 0), (zm_294, 0), (zm_295, 0), (zm_296, 0), (zm_297, 0), (zm_298, 0), (zm_299, 0), (zm_300, 0), (zm_301, 0), (zm_302, 0), (zm_303, 0)]
theorem zkc_18 : ∀ q ∈ z_pr18, zKd q.2 q.1 := List.forall_mem_cons.mpr ⟨zk_288, List.forall_mem_cons.mpr ⟨zk_289, List.forall_mem_cons.mpr ⟨zk_290, List.forall_mem_cons.mpr ⟨zk_291, List.forall_mem_cons.mpr ⟨zk_292, List.forall_mem_cons.mpr ⟨zk_293, List.forall_mem_cons.mpr ⟨zk_294, List.forall_mem_cons.mpr ⟨zk_295, List.forall_mem_cons.mpr ⟨zk_296, List.forall_mem_cons.mpr ⟨zk_297, List.forall_mem_cons.mpr ⟨zk_298, List.forall_mem_cons.mpr ⟨zk_299, List.forall_mem_cons.mpr ⟨zk_300, List.forall_mem_cons.mpr ⟨zk_301, List.forall_mem_cons.mpr ⟨zk_302, List.forall_mem_cons.mpr ⟨zk_303, fun _ h => absurd h List.not_mem_nil⟩⟩⟩⟩⟩⟩⟩⟩⟩⟩⟩⟩⟩⟩⟩⟩
def z_pr19 : List (zM × Nat) := [(zm_304, 2), (zm_305, 0), (zm_306, 2), (zm_307, 0), (zm_308, 0), (zm_309, 0), (zm_310, 0), (zm_311, 0), (zm_312, 2), (zm_313, 2), (zm_314, 2), (zm_315, 2), (zm_316, 2)]
theorem zkc_19 : ∀ q ∈ z_pr19, zKd q.2 q.1 := List.forall_mem_cons.mpr ⟨zk_304, List.forall_mem_cons.mpr ⟨zk_305, List.forall_mem_cons.mpr ⟨zk_306, List.forall_mem_cons.mpr ⟨zk_307, List.forall_mem_cons.mpr ⟨zk_308, List.forall_mem_cons.mpr ⟨zk_309, List.forall_mem_cons.mpr ⟨zk_310, List.forall_mem_cons.mpr ⟨zk_311, List.forall_mem_cons.mpr ⟨zk_312, List.forall_mem_cons.mpr ⟨zk_313, List.forall_mem_cons.mpr ⟨zk_314, List.forall_mem_cons.mpr ⟨zk_315, List.forall_mem_cons.mpr ⟨zk_316, fun _ h => absurd h List.not_mem_nil⟩⟩⟩⟩⟩⟩⟩⟩⟩⟩⟩⟩⟩
def z_prs : List (zM × Nat) := z_pr0 ++ (z_pr1 ++ (z_pr2 ++ (z_pr3 ++ (z_pr4 ++ (z_pr5 ++ (z_pr6 ++ (z_pr7 ++ (z_pr8 ++ (z_pr9 ++ (z_pr10 ++ (z_pr11 ++ (z_pr12 ++ (z_pr13 ++ (z_pr14 ++ (z_pr15 ++ (z_pr16 ++ (z_pr17 ++ (z_pr18 ++ (z_pr19)))))))))))))))))))
theorem zkc : ∀ q ∈ z_prs, zKd q.2 q.1 := List.forall_mem_append.mpr ⟨zkc_0, List.forall_mem_append.mpr ⟨zkc_1, List.forall_mem_append.mpr ⟨zkc_2, List.forall_mem_append.mpr ⟨zkc_3, List.forall_mem_append.mpr ⟨zkc_4, List.forall_mem_append.mpr ⟨zkc_5, List.forall_mem_append.mpr ⟨zkc_6, List.forall_mem_append.mpr ⟨zkc_7, List.forall_mem_append.mpr ⟨zkc_8, List.forall_mem_append.mpr ⟨zkc_9, List.forall_mem_append.mpr ⟨zkc_10, List.forall_mem_append.mpr ⟨zkc_11, List.forall_mem_append.mpr ⟨zkc_12, List.forall_mem_append.mpr ⟨zkc_13, List.forall_mem_append.mpr ⟨zkc_14, List.forall_mem_append.mpr ⟨zkc_15, List.forall_mem_append.mpr ⟨zkc_16, List.forall_mem_append.mpr ⟨zkc_17, List.forall_mem_append.mpr ⟨zkc_18, zkc_19⟩⟩⟩⟩⟩⟩⟩⟩⟩⟩⟩⟩⟩⟩⟩⟩⟩⟩⟩
def z_kl : List Nat := [1, 0, 0, 0, 0, 0, 0, 0, 0, 0, 0, 0, 0, 0, 0, 0, 0, 0, 0, 0, 0, 0, 0, 0, 2, 2, 0, 0, 0, 2, 0, 0, 0, 0, 0, 0, 0, 0, 0, 0, 0, 0, 0, 0, 0, 0, 0, 0, 0, 0, 0, 0, 0, 1, 0, 0, 0, 0, 0, 0, 0, 0, 0, 2, 0, 0, 0, 0, 0, 0, 0, 0, 0, 2, 0, 0, 0, 0, 0, 0, 0, 0, 0, 0, 0, 0, 0, 0, 0, 0, 0, 0, 0, 0, 0, 0, 0, 0, 0, 0, 0, 2, 0, 0, 0, 0, 0, 2, 0, 0, 2, 0, 0, 2, 2, 2, 0, 0, 2, 0, 2, 0, 0, 0, 0, 0, 0, 0, 0, 0, 0, 0, 0, 0, 0, 0, 0, 0, 0, 0, 0, 0, 0, 0, 0, 0, 0, 0, 2, 0, 0, 0, 0, 0, 0, 0, 0, 0, 0, 0, 0, 0, 0, 0, 0, 0, 0, 0, 0, 0, 0, 0, 0, 0, 0, 0, 2, 0, 0, 0, 0, 0, 0, 0, 0, 0, 0, 0, 1, 0, 0, 2, 0, 0, 0, 0, 0, 0, 1, 0, 0, 0, 0, 0, 0, 0, 0, 0, 1, 0, 2, 2, 0, 0, 0, 0, 1, 0, 2, 0, 0, 0, 0, 0, 0, 0, 1, 0, 0, 0, 0, 0, 0, 0, 0, 0, 1, 0, 0, 0, 0, 0, 0, 0, 0, 0, 0, 0, 0, 0, 0, 0, 0, 0, 0, 0, 0, 1, 0, 0, 2, 0, 0, 0, 0, 0, 0, 0, 0, 0, 0, 0, 0, 0, 0, 1, 0, 0, 0, 0, 1, 0, 0, 0, 0, 0, 0, 0, 0, 1, 0, 0, 0, 0, 0, 0, 0, 0, 0, 0, 0, 0, 0, 0, 2, 0, 2, 0, 0, 0, 0, 0, 2, 2, 2, 2, 2]
set_option maxRecDepth 100000 in
theorem z_prs_1 : z_prs.map Prod.fst = z_Ms := rfl
theorem z_prs_2 : z_prs.map Prod.snd = z_kl := by decide +kernel
theorem z_kl_ok : ∀ (k : Nat) (N : zM) (kd : Nat), z_Ms[k]? = some N → z_kl[k]? = some kd → zKd kd N := by
  intro k N kd h1 h2
  rw [← z_prs_1, List.getElem?_map] at h1
  rw [← z_prs_2, List.getElem?_map] at h2
  cases e : z_prs[k]? with
  | none => rw [e] at h1; cases h1
  | some q =>
    rw [e] at h1 h2
    cases h1
    cases h2
    exact zkc q (List.mem_of_getElem? e)
theorem zw_0 : ∀ w ∈ u_ws (z_cw 0).1 (z_cw 0).2.1 (z_cw 0).2.2, w ∈ z_WS := z_wsl (qs := [1198, 1200]) (by decide +kernel)
theorem zcl_0 : (∀ w ∈ u_ws (z_cw 0).1 (z_cw 0).2.1 (z_cw 0).2.2, w ∈ z_WS) ∧ (∀ k, k < (z_cw 0).2.2 → parseFieldDescriptor ((z_cw 0).2.1 k).2.2.1 = some (z_ty 0 k)) ∧ (∀ a, a < (z_cw 0).2.2 → ∀ b, b < (z_cw 0).2.2 → a ≠ b → ((z_cw 0).2.1 a).2.1 ≠ ((z_cw 0).2.1 b).2.1) ∧ Cond.instantiable (z_cw 0).1 (z_cw 0).2.2 ∈ z_WS ∧ Cond.initialized (z_cw 0).1 ∈ z_WS ∧ z_N 0 = (z_cw 0).2.2 := ⟨zw_0, tyX0_ok, nmX0, z_wb_in (q := 1191) (by decide +kernel), z_wb_in (q := 1010) (by decide +kernel), rfl⟩
theorem zw_1 : ∀ w ∈ u_ws (z_cw 1).1 (z_cw 1).2.1 (z_cw 1).2.2, w ∈ z_WS := z_wsl (qs := [1214, 1216, 1218]) (by decide +kernel)
theorem zcl_1 : (∀ w ∈ u_ws (z_cw 1).1 (z_cw 1).2.1 (z_cw 1).2.2, w ∈ z_WS) ∧ (∀ k, k < (z_cw 1).2.2 → parseFieldDescriptor ((z_cw 1).2.1 k).2.2.1 = some (z_ty 1 k)) ∧ (∀ a, a < (z_cw 1).2.2 → ∀ b, b < (z_cw 1).2.2 → a ≠ b → ((z_cw 1).2.1 a).2.1 ≠ ((z_cw 1).2.1 b).2.1) ∧ Cond.instantiable (z_cw 1).1 (z_cw 1).2.2 ∈ z_WS ∧ Cond.initialized (z_cw 1).1 ∈ z_WS ∧ z_N 1 = (z_cw 1).2.2 := ⟨zw_1, tyX1_ok, nmX1, z_wb_in (q := 1204) (by decide +kernel), z_wb_in (q := 1011) (by decide +kernel), rfl⟩
theorem zw_2 : ∀ w ∈ u_ws (z_cw 2).1 (z_cw 2).2.1 (z_cw 2).2.2, w ∈ z_WS := z_wsl (qs := [2066, 2068, 2070, 2072, 2074, 2076]) (by decide +kernel)
theorem zcl_2 : (∀ w ∈ u_ws (z_cw 2).1 (z_cw 2).2.1 (z_cw 2).2.2, w ∈ z_WS) ∧ (∀ k, k < (z_cw 2).2.2 → parseFieldDescriptor ((z_cw 2).2.1 k).2.2.1 = some (z_ty 2 k)) ∧ (∀ a, a < (z_cw 2).2.2 → ∀ b, b < (z_cw 2).2.2 → a ≠ b → ((z_cw 2).2.1 a).2.1 ≠ ((z_cw 2).2.1 b).2.1) ∧ Cond.instantiable (z_cw 2).1 (z_cw 2).2.2 ∈ z_WS ∧ Cond.initialized (z_cw 2).1 ∈ z_WS ∧ z_N 2 = (z_cw 2).2.2 := ⟨zw_2, tyX2_ok, nmX2, z_wb_in (q := 2055) (by decide +kernel), z_wb_in (q := 1015) (by decide +kernel), rfl⟩
theorem zw_3 : ∀ w ∈ u_ws (z_cw 3).1 (z_cw 3).2.1 (z_cw 3).2.2, w ∈ z_WS := z_wsl (qs := [1237, 1239, 2001, 2003, 2005, 2007, 2009]) (by decide +kernel)
theorem zcl_3 : (∀ w ∈ u_ws (z_cw 3).1 (z_cw 3).2.1 (z_cw 3).2.2, w ∈ z_WS) ∧ (∀ k, k < (z_cw 3).2.2 → parseFieldDescriptor ((z_cw 3).2.1 k).2.2.1 = some (z_ty 3 k)) ∧ (∀ a, a < (z_cw 3).2.2 → ∀ b, b < (z_cw 3).2.2 → a ≠ b → ((z_cw 3).2.1 a).2.1 ≠ ((z_cw 3).2.1 b).2.1) ∧ Cond.instantiable (z_cw 3).1 (z_cw 3).2.2 ∈ z_WS ∧ Cond.initialized (z_cw 3).1 ∈ z_WS ∧ z_N 3 = (z_cw 3).2.2 := ⟨zw_3, tyX3_ok, nmX3, z_wb_in (q := 1222) (by decide +kernel), z_wb_in (q := 1012) (by decide +kernel), rfl⟩
theorem zw_4 : ∀ w ∈ u_ws (z_cw 4).1 (z_cw 4).2.1 (z_cw 4).2.2, w ∈ z_WS := z_wsl (qs := [1183, 1185, 1187]) (by decide +kernel)
theorem zcl_4 : (∀ w ∈ u_ws (z_cw 4).1 (z_cw 4).2.1 (z_cw 4).2.2, w ∈ z_WS) ∧ (∀ k, k < (z_cw 4).2.2 → parseFieldDescriptor ((z_cw 4).2.1 k).2.2.1 = some (z_ty 4 k)) ∧ (∀ a, a < (z_cw 4).2.2 → ∀ b, b < (z_cw 4).2.2 → a ≠ b → ((z_cw 4).2.1 a).2.1 ≠ ((z_cw 4).2.1 b).2.1) ∧ Cond.instantiable (z_cw 4).1 (z_cw 4).2.2 ∈ z_WS ∧ Cond.initialized (z_cw 4).1 ∈ z_WS ∧ z_N 4 = (z_cw 4).2.2 := ⟨zw_4, tyX4_ok, nmX4, z_wb_in (q := 1159) (by decide +kernel), z_wb_in (q := 1008) (by decide +kernel), rfl⟩
theorem zw_5 : ∀ w ∈ u_ws (z_cw 5).1 (z_cw 5).2.1 (z_cw 5).2.2, w ∈ z_WS := z_wsl (qs := [1135, 1137, 1139, 1141, 1143, 1145, 1147, 1149, 1151, 1153, 1155]) (by decide +kernel)
theorem zcl_5 : (∀ w ∈ u_ws (z_cw 5).1 (z_cw 5).2.1 (z_cw 5).2.2, w ∈ z_WS) ∧ (∀ k, k < (z_cw 5).2.2 → parseFieldDescriptor ((z_cw 5).2.1 k).2.2.1 = some (z_ty 5 k)) ∧ (∀ a, a < (z_cw 5).2.2 → ∀ b, b < (z_cw 5).2.2 → a ≠ b → ((z_cw 5).2.1 a).2.1 ≠ ((z_cw 5).2.1 b).2.1) ∧ Cond.instantiable (z_cw 5).1 (z_cw 5).2.2 ∈ z_WS ∧ Cond.initialized (z_cw 5).1 ∈ z_WS ∧ z_N 5 = (z_cw 5).2.2 := ⟨zw_5, tyX5_ok, nmX5, z_wb_in (q := 1030) (by decide +kernel), z_wb_in (q := 1002) (by decide +kernel), rfl⟩
theorem zw_6 : ∀ w ∈ u_ws (z_cw 6).1 (z_cw 6).2.1 (z_cw 6).2.2, w ∈ z_WS := z_wsl (qs := [2130, 2132, 2134, 2136, 2138, 2140, 2142, 2144, 2146, 2148, 2150, 2152, 2154, 2156, 2158, 2160]) (by decide +kernel)
theorem zcl_6 : (∀ w ∈ u_ws (z_cw 6).1 (z_cw 6).2.1 (z_cw 6).2.2, w ∈ z_WS) ∧ (∀ k, k < (z_cw 6).2.2 → parseFieldDescriptor ((z_cw 6).2.1 k).2.2.1 = some (z_ty 6 k)) ∧ (∀ a, a < (z_cw 6).2.2 → ∀ b, b < (z_cw 6).2.2 → a ≠ b → ((z_cw 6).2.1 a).2.1 ≠ ((z_cw 6).2.1 b).2.1) ∧ Cond.instantiable (z_cw 6).1 (z_cw 6).2.2 ∈ z_WS ∧ Cond.initialized (z_cw 6).1 ∈ z_WS ∧ z_N 6 = (z_cw 6).2.2 := ⟨zw_6, tyX6_ok, nmX6, z_wb_in (q := 2049) (by decide +kernel), z_wb_in (q := 1014) (by decide +kernel), rfl⟩
theorem zw_7 : ∀ w ∈ u_ws (z_cw 7).1 (z_cw 7).2.1 (z_cw 7).2.2, w ∈ z_WS := z_wsl (qs := [1103, 1105, 1107, 1109, 1111, 1113, 1115, 1117]) (by decide +kernel)
theorem zcl_7 : (∀ w ∈ u_ws (z_cw 7).1 (z_cw 7).2.1 (z_cw 7).2.2, w ∈ z_WS) ∧ (∀ k, k < (z_cw 7).2.2 → parseFieldDescriptor ((z_cw 7).2.1 k).2.2.1 = some (z_ty 7 k)) ∧ (∀ a, a < (z_cw 7).2.2 → ∀ b, b < (z_cw 7).2.2 → a ≠ b → ((z_cw 7).2.1 a).2.1 ≠ ((z_cw 7).2.1 b).2.1) ∧ Cond.instantiable (z_cw 7).1 (z_cw 7).2.2 ∈ z_WS ∧ Cond.initialized (z_cw 7).1 ∈ z_WS ∧ z_N 7 = (z_cw 7).2.2 := ⟨zw_7, tyX7_ok, nmX7, z_wb_in (q := 1036) (by decide +kernel), z_wb_in (q := 1003) (by decide +kernel), rfl⟩
theorem zw_8 : ∀ w ∈ u_ws (z_cw 8).1 (z_cw 8).2.1 (z_cw 8).2.2, w ∈ z_WS := z_wsl (qs := [2028, 2030, 2032, 2034, 2036, 2038, 2040, 2042]) (by decide +kernel)
theorem zcl_8 : (∀ w ∈ u_ws (z_cw 8).1 (z_cw 8).2.1 (z_cw 8).2.2, w ∈ z_WS) ∧ (∀ k, k < (z_cw 8).2.2 → parseFieldDescriptor ((z_cw 8).2.1 k).2.2.1 = some (z_ty 8 k)) ∧ (∀ a, a < (z_cw 8).2.2 → ∀ b, b < (z_cw 8).2.2 → a ≠ b → ((z_cw 8).2.1 a).2.1 ≠ ((z_cw 8).2.1 b).2.1) ∧ Cond.instantiable (z_cw 8).1 (z_cw 8).2.2 ∈ z_WS ∧ Cond.initialized (z_cw 8).1 ∈ z_WS ∧ z_N 8 = (z_cw 8).2.2 := ⟨zw_8, tyX8_ok, nmX8, z_wb_in (q := 2013) (by decide +kernel), z_wb_in (q := 1013) (by decide +kernel), rfl⟩
theorem zw_9 : ∀ w ∈ u_ws (z_cw 9).1 (z_cw 9).2.1 (z_cw 9).2.2, w ∈ z_WS := z_wsl (qs := [1176]) (by decide +kernel)
theorem zcl_9 : (∀ w ∈ u_ws (z_cw 9).1 (z_cw 9).2.1 (z_cw 9).2.2, w ∈ z_WS) ∧ (∀ k, k < (z_cw 9).2.2 → parseFieldDescriptor ((z_cw 9).2.1 k).2.2.1 = some (z_ty 9 k)) ∧ (∀ a, a < (z_cw 9).2.2 → ∀ b, b < (z_cw 9).2.2 → a ≠ b → ((z_cw 9).2.1 a).2.1 ≠ ((z_cw 9).2.1 b).2.1) ∧ Cond.instantiable (z_cw 9).1 (z_cw 9).2.2 ∈ z_WS ∧ Cond.initialized (z_cw 9).1 ∈ z_WS ∧ z_N 9 = (z_cw 9).2.2 := ⟨zw_9, tyX9_ok, nmX9, z_wb_in (q := 1166) (by decide +kernel), z_wb_in (q := 1009) (by decide +kernel), rfl⟩
theorem zw_10 : ∀ w ∈ u_ws (z_cw 10).1 (z_cw 10).2.1 (z_cw 10).2.2, w ∈ z_WS := z_wsl (qs := [2177, 2179, 2181, 2183, 2185, 2187, 2189, 2191, 2193, 2195, 2197, 2199, 2201, 2203]) (by decide +kernel)
theorem zcl_10 : (∀ w ∈ u_ws (z_cw 10).1 (z_cw 10).2.1 (z_cw 10).2.2, w ∈ z_WS) ∧ (∀ k, k < (z_cw 10).2.2 → parseFieldDescriptor ((z_cw 10).2.1 k).2.2.1 = some (z_ty 10 k)) ∧ (∀ a, a < (z_cw 10).2.2 → ∀ b, b < (z_cw 10).2.2 → a ≠ b → ((z_cw 10).2.1 a).2.1 ≠ ((z_cw 10).2.1 b).2.1) ∧ Cond.instantiable (z_cw 10).1 (z_cw 10).2.2 ∈ z_WS ∧ Cond.initialized (z_cw 10).1 ∈ z_WS ∧ z_N 10 = (z_cw 10).2.2 := ⟨zw_10, tyX10_ok, nmX10, z_wb_in (q := 1022) (by decide +kernel), z_wb_in (q := 1001) (by decide +kernel), rfl⟩
theorem zw_11 : ∀ w ∈ u_ws (z_cw 11).1 (z_cw 11).2.1 (z_cw 11).2.2, w ∈ z_WS := z_wsl (qs := [6076, 6078, 6080, 6082, 6084, 6086, 6088, 6090, 6092, 6094, 6096, 6098, 6100, 6102, 6104, 6106, 6108, 6110, 6112, 6114, 6116, 6118, 6120, 6122, 6124, 6126, 6128, 6130, 6132, 6134, 6136, 6138, 6140, 6142, 6144, 6146, 6148, 6150, 6152, 6154, 6156, 6158, 6160, 6162, 6164, 6166, 6168, 6170, 6172, 6174, 6176, 6178, 6180, 6182, 6184, 6186, 6188, 6190, 6192, 6194, 6196, 6198, 6200, 6202, 6204, 6206, 6208, 6210, 6212, 6214]) (by decide +kernel)
theorem zcl_11 : (∀ w ∈ u_ws (z_cw 11).1 (z_cw 11).2.1 (z_cw 11).2.2, w ∈ z_WS) ∧ (∀ k, k < (z_cw 11).2.2 → parseFieldDescriptor ((z_cw 11).2.1 k).2.2.1 = some (z_ty 11 k)) ∧ (∀ a, a < (z_cw 11).2.2 → ∀ b, b < (z_cw 11).2.2 → a ≠ b → ((z_cw 11).2.1 a).2.1 ≠ ((z_cw 11).2.1 b).2.1) ∧ Cond.instantiable (z_cw 11).1 (z_cw 11).2.2 ∈ z_WS ∧ Cond.initialized (z_cw 11).1 ∈ z_WS ∧ z_N 11 = (z_cw 11).2.2 := ⟨zw_11, tyX11_ok, nmX11, z_wb_in (q := 5230) (by decide +kernel), z_wb_in (q := 1016) (by decide +kernel), rfl⟩
theorem zcls : zClsOk := by
  intro ci h
  have hlt : ci < 12 := (List.getElem?_eq_some_iff.mp h).1
  rcases (show ci = 0 ∨ ci = 1 ∨ ci = 2 ∨ ci = 3 ∨ ci = 4 ∨ ci = 5 ∨ ci = 6 ∨ ci = 7 ∨ ci = 8 ∨ ci = 9 ∨ ci = 10 ∨ ci = 11 by omega) with rfl | rfl | rfl | rfl | rfl | rfl | rfl | rfl | rfl | rfl | rfl | rfl
  · exact zcl_0
  · exact zcl_1
  · exact zcl_2
  · exact zcl_3
  · exact zcl_4
  · exact zcl_5
  · exact zcl_6
  · exact zcl_7
  · exact zcl_8
  · exact zcl_9
  · exact zcl_10
  · exact zcl_11
theorem zcom : zComOk := ⟨z_wb_in (q := 1027) (by decide +kernel), z_wb_in (q := 1028) (by decide +kernel), z_wb_in (q := 4106) (by decide +kernel), z_wb_in (q := 4105) (by decide +kernel), z_wb_in (q := 1019) (by decide +kernel), z_wb_in (q := 1017) (by decide +kernel), ⟨z_wb_in (q := 2235) (by decide +kernel), z_wb_in (q := 2236) (by decide +kernel)⟩, ⟨z_wb_in (q := 3026) (by decide +kernel), z_wb_in (q := 3027) (by decide +kernel)⟩, ⟨z_wb_in (q := 5091) (by decide +kernel), z_wb_in (q := 5092) (by decide +kernel)⟩⟩
