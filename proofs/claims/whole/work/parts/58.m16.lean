set_option maxRecDepth 20000 in
theorem lx_X8_193 : Cond.constantLong RX8 193 4025 ∈ wsA := mA 1118 rfl rfl
set_option maxRecDepth 20000 in
theorem lx_X8_195 : Cond.constantLong RX8 195 31 ∈ wsA := mA 1119 rfl rfl
set_option maxRecDepth 20000 in
theorem lk_X8_result : Cond.code yX8_result cX8_result 1 (some .int) ∈ wsA := mA 993 rfl rfl
theorem ly_X8_result : k_y yX8_result 0 := ⟨by decide +kernel, by decide +kernel, by decide +kernel⟩
set_option maxRecDepth 20000 in
theorem lm_X8_result : Cond.instanceMethod yX8_result ∈ wsA := mA 991 rfl rfl
set_option maxRecDepth 20000 in
theorem le_X8_result : Cond.selects (yX8_result).cls yX8_result yX8_result ∈ wsA := mA 992 rfl rfl
set_option maxRecDepth 20000 in
theorem Lv_X8_197 : k_LV RX8 197 yX8_result cX8_result 1 (some .int) 0 := ⟨mA 1120 rfl rfl, lm_X8_result, le_X8_result, li_BarcodeWandModel, lk_X8_result, ly_X8_result⟩
set_option maxRecDepth 20000 in
theorem lk_X8_reason : Cond.code yX8_reason cX8_reason 2 (some .int) ∈ wsA := mA 997 rfl rfl
theorem ly_X8_reason : k_y yX8_reason 1 := ⟨by decide +kernel, by decide +kernel, by decide +kernel⟩
set_option maxRecDepth 20000 in
theorem lm_X8_reason : Cond.instanceMethod yX8_reason ∈ wsA := mA 995 rfl rfl
set_option maxRecDepth 20000 in
theorem le_X8_reason : Cond.selects (yX8_reason).cls yX8_reason yX8_reason ∈ wsA := mA 996 rfl rfl
set_option maxRecDepth 20000 in
theorem Lv_X8_200 : k_LV RX8 200 yX8_reason cX8_reason 2 (some .int) 1 := ⟨mA 1121 rfl rfl, lm_X8_reason, le_X8_reason, li_BarcodeWandModel, lk_X8_reason, ly_X8_reason⟩
set_option maxRecDepth 20000 in
theorem lk_X8_leastTolerance : Cond.code yX8_leastTolerance cX8_leastTolerance 2 (some .int) ∈ wsA := mA 1049 rfl rfl
theorem ly_X8_leastTolerance : k_y yX8_leastTolerance 0 := ⟨by decide +kernel, by decide +kernel, by decide +kernel⟩
set_option maxRecDepth 20000 in
theorem lm_X8_leastTolerance : Cond.instanceMethod yX8_leastTolerance ∈ wsA := mA 1047 rfl rfl
set_option maxRecDepth 20000 in
theorem le_X8_leastTolerance : Cond.selects (yX8_leastTolerance).cls yX8_leastTolerance yX8_leastTolerance ∈ wsA := mA 1048 rfl rfl
set_option maxRecDepth 20000 in
theorem Lv_X8_204 : k_LV RX8 204 yX8_leastTolerance cX8_leastTolerance 2 (some .int) 0 := ⟨mA 1122 rfl rfl, lm_X8_leastTolerance, le_X8_leastTolerance, li_BarcodeWandModel, lk_X8_leastTolerance, ly_X8_leastTolerance⟩
theorem dX8_digest_0 : decode cX8_digest 0 = .ok (.ldc2_w 193, 3) := by decide +kernel
theorem dX8_digest_3 : decode cX8_digest 3 = .ok (.lstore_n 1, 1) := by decide +kernel
theorem dX8_digest_4 : decode cX8_digest 4 = .ok (.ldc2_w 195, 3) := by decide +kernel
theorem dX8_digest_7 : decode cX8_digest 7 = .ok (.lload_n 1, 1) := by decide +kernel
theorem dX8_digest_8 : decode cX8_digest 8 = .ok (.lmul, 1) := by decide +kernel
theorem dX8_digest_9 : decode cX8_digest 9 = .ok (.aload_n 0, 1) := by decide +kernel
theorem dX8_digest_10 : decode cX8_digest 10 = .ok (.invokevirtual 38, 3) := by decide +kernel
theorem dX8_digest_13 : decode cX8_digest 13 = .ok (.i2l, 1) := by decide +kernel
theorem dX8_digest_14 : decode cX8_digest 14 = .ok (.ladd, 1) := by decide +kernel
theorem dX8_digest_15 : decode cX8_digest 15 = .ok (.lstore_n 1, 1) := by decide +kernel
theorem dX8_digest_16 : decode cX8_digest 16 = .ok (.ldc2_w 195, 3) := by decide +kernel
theorem dX8_digest_19 : decode cX8_digest 19 = .ok (.lload_n 1, 1) := by decide +kernel
theorem dX8_digest_20 : decode cX8_digest 20 = .ok (.lmul, 1) := by decide +kernel
theorem dX8_digest_21 : decode cX8_digest 21 = .ok (.aload_n 0, 1) := by decide +kernel
theorem dX8_digest_22 : decode cX8_digest 22 = .ok (.getfield 7, 3) := by decide +kernel
theorem dX8_digest_25 : decode cX8_digest 25 = .ok (.bipush 51, 2) := by decide +kernel
theorem dX8_digest_27 : decode cX8_digest 27 = .ok (.iaload, 1) := by decide +kernel
theorem dX8_digest_28 : decode cX8_digest 28 = .ok (.i2l, 1) := by decide +kernel
theorem dX8_digest_29 : decode cX8_digest 29 = .ok (.ladd, 1) := by decide +kernel
theorem dX8_digest_30 : decode cX8_digest 30 = .ok (.lstore_n 1, 1) := by decide +kernel
theorem dX8_digest_31 : decode cX8_digest 31 = .ok (.ldc2_w 195, 3) := by decide +kernel
theorem dX8_digest_34 : decode cX8_digest 34 = .ok (.lload_n 1, 1) := by decide +kernel
theorem dX8_digest_35 : decode cX8_digest 35 = .ok (.lmul, 1) := by decide +kernel
theorem dX8_digest_36 : decode cX8_digest 36 = .ok (.aload_n 0, 1) := by decide +kernel
theorem dX8_digest_37 : decode cX8_digest 37 = .ok (.invokevirtual 197, 3) := by decide +kernel
theorem dX8_digest_40 : decode cX8_digest 40 = .ok (.i2l, 1) := by decide +kernel
theorem dX8_digest_41 : decode cX8_digest 41 = .ok (.ladd, 1) := by decide +kernel
theorem dX8_digest_42 : decode cX8_digest 42 = .ok (.lstore_n 1, 1) := by decide +kernel
theorem dX8_digest_43 : decode cX8_digest 43 = .ok (.ldc2_w 195, 3) := by decide +kernel
theorem dX8_digest_46 : decode cX8_digest 46 = .ok (.lload_n 1, 1) := by decide +kernel
theorem dX8_digest_47 : decode cX8_digest 47 = .ok (.lmul, 1) := by decide +kernel
theorem dX8_digest_48 : decode cX8_digest 48 = .ok (.aload_n 0, 1) := by decide +kernel
theorem dX8_digest_49 : decode cX8_digest 49 = .ok (.iconst 0, 1) := by decide +kernel
theorem dX8_digest_50 : decode cX8_digest 50 = .ok (.invokevirtual 200, 3) := by decide +kernel
theorem dX8_digest_53 : decode cX8_digest 53 = .ok (.i2l, 1) := by decide +kernel
theorem dX8_digest_54 : decode cX8_digest 54 = .ok (.ladd, 1) := by decide +kernel
theorem dX8_digest_55 : decode cX8_digest 55 = .ok (.lstore_n 1, 1) := by decide +kernel
theorem dX8_digest_56 : decode cX8_digest 56 = .ok (.ldc2_w 195, 3) := by decide +kernel
theorem dX8_digest_59 : decode cX8_digest 59 = .ok (.lload_n 1, 1) := by decide +kernel
theorem dX8_digest_60 : decode cX8_digest 60 = .ok (.lmul, 1) := by decide +kernel
theorem dX8_digest_61 : decode cX8_digest 61 = .ok (.aload_n 0, 1) := by decide +kernel
theorem dX8_digest_62 : decode cX8_digest 62 = .ok (.iconst 1, 1) := by decide +kernel
theorem dX8_digest_63 : decode cX8_digest 63 = .ok (.invokevirtual 200, 3) := by decide +kernel
theorem dX8_digest_66 : decode cX8_digest 66 = .ok (.i2l, 1) := by decide +kernel
theorem dX8_digest_67 : decode cX8_digest 67 = .ok (.ladd, 1) := by decide +kernel
theorem dX8_digest_68 : decode cX8_digest 68 = .ok (.lstore_n 1, 1) := by decide +kernel
theorem dX8_digest_69 : decode cX8_digest 69 = .ok (.ldc2_w 195, 3) := by decide +kernel
theorem dX8_digest_72 : decode cX8_digest 72 = .ok (.lload_n 1, 1) := by decide +kernel
theorem dX8_digest_73 : decode cX8_digest 73 = .ok (.lmul, 1) := by decide +kernel
theorem dX8_digest_74 : decode cX8_digest 74 = .ok (.aload_n 0, 1) := by decide +kernel
theorem dX8_digest_75 : decode cX8_digest 75 = .ok (.invokevirtual 204, 3) := by decide +kernel
theorem dX8_digest_78 : decode cX8_digest 78 = .ok (.i2l, 1) := by decide +kernel
theorem dX8_digest_79 : decode cX8_digest 79 = .ok (.ladd, 1) := by decide +kernel
theorem dX8_digest_80 : decode cX8_digest 80 = .ok (.lstore_n 1, 1) := by decide +kernel
theorem dX8_digest_81 : decode cX8_digest 81 = .ok (.ldc2_w 195, 3) := by decide +kernel
theorem dX8_digest_84 : decode cX8_digest 84 = .ok (.lload_n 1, 1) := by decide +kernel
theorem dX8_digest_85 : decode cX8_digest 85 = .ok (.lmul, 1) := by decide +kernel
theorem dX8_digest_86 : decode cX8_digest 86 = .ok (.aload_n 0, 1) := by decide +kernel
theorem dX8_digest_87 : decode cX8_digest 87 = .ok (.getfield 7, 3) := by decide +kernel
theorem dX8_digest_90 : decode cX8_digest 90 = .ok (.bipush 94, 2) := by decide +kernel
theorem dX8_digest_92 : decode cX8_digest 92 = .ok (.iaload, 1) := by decide +kernel
theorem dX8_digest_93 : decode cX8_digest 93 = .ok (.i2l, 1) := by decide +kernel
theorem dX8_digest_94 : decode cX8_digest 94 = .ok (.ladd, 1) := by decide +kernel
theorem dX8_digest_95 : decode cX8_digest 95 = .ok (.lstore_n 1, 1) := by decide +kernel
theorem dX8_digest_96 : decode cX8_digest 96 = .ok (.ldc2_w 195, 3) := by decide +kernel
theorem dX8_digest_99 : decode cX8_digest 99 = .ok (.lload_n 1, 1) := by decide +kernel
theorem dX8_digest_100 : decode cX8_digest 100 = .ok (.lmul, 1) := by decide +kernel
theorem dX8_digest_101 : decode cX8_digest 101 = .ok (.aload_n 0, 1) := by decide +kernel
theorem dX8_digest_102 : decode cX8_digest 102 = .ok (.getfield 7, 3) := by decide +kernel
theorem dX8_digest_105 : decode cX8_digest 105 = .ok (.bipush 125, 2) := by decide +kernel
theorem dX8_digest_107 : decode cX8_digest 107 = .ok (.iaload, 1) := by decide +kernel
theorem dX8_digest_108 : decode cX8_digest 108 = .ok (.i2l, 1) := by decide +kernel
theorem dX8_digest_109 : decode cX8_digest 109 = .ok (.ladd, 1) := by decide +kernel
theorem dX8_digest_110 : decode cX8_digest 110 = .ok (.lstore_n 1, 1) := by decide +kernel
theorem dX8_digest_111 : decode cX8_digest 111 = .ok (.ldc2_w 195, 3) := by decide +kernel
theorem dX8_digest_114 : decode cX8_digest 114 = .ok (.lload_n 1, 1) := by decide +kernel
theorem dX8_digest_115 : decode cX8_digest 115 = .ok (.lmul, 1) := by decide +kernel
theorem dX8_digest_116 : decode cX8_digest 116 = .ok (.aload_n 0, 1) := by decide +kernel
theorem dX8_digest_117 : decode cX8_digest 117 = .ok (.getfield 7, 3) := by decide +kernel
theorem dX8_digest_120 : decode cX8_digest 120 = .ok (.bipush 126, 2) := by decide +kernel
theorem dX8_digest_122 : decode cX8_digest 122 = .ok (.iaload, 1) := by decide +kernel
theorem dX8_digest_123 : decode cX8_digest 123 = .ok (.i2l, 1) := by decide +kernel
theorem dX8_digest_124 : decode cX8_digest 124 = .ok (.ladd, 1) := by decide +kernel
theorem dX8_digest_125 : decode cX8_digest 125 = .ok (.lstore_n 1, 1) := by decide +kernel
theorem dX8_digest_126 : decode cX8_digest 126 = .ok (.iconst 0, 1) := by decide +kernel
theorem dX8_digest_127 : decode cX8_digest 127 = .ok (.istore_n 3, 1) := by decide +kernel
theorem dX8_digest_128 : decode cX8_digest 128 = .ok (.iload_n 3, 1) := by decide +kernel
theorem dX8_digest_129 : decode cX8_digest 129 = .ok (.aload_n 0, 1) := by decide +kernel
theorem dX8_digest_130 : decode cX8_digest 130 = .ok (.invokevirtual 38, 3) := by decide +kernel
theorem dX8_digest_133 : decode cX8_digest 133 = .ok (.if_icmp .ge 52, 3) := by decide +kernel
theorem dX8_digest_136 : decode cX8_digest 136 = .ok (.ldc2_w 195, 3) := by decide +kernel
theorem dX8_digest_139 : decode cX8_digest 139 = .ok (.lload_n 1, 1) := by decide +kernel
theorem dX8_digest_140 : decode cX8_digest 140 = .ok (.lmul, 1) := by decide +kernel
theorem dX8_digest_141 : decode cX8_digest 141 = .ok (.aload_n 0, 1) := by decide +kernel
theorem dX8_digest_142 : decode cX8_digest 142 = .ok (.iload_n 3, 1) := by decide +kernel
theorem dX8_digest_143 : decode cX8_digest 143 = .ok (.invokevirtual 75, 3) := by decide +kernel
theorem dX8_digest_146 : decode cX8_digest 146 = .ok (.i2l, 1) := by decide +kernel
theorem dX8_digest_147 : decode cX8_digest 147 = .ok (.ladd, 1) := by decide +kernel
theorem dX8_digest_148 : decode cX8_digest 148 = .ok (.lstore_n 1, 1) := by decide +kernel
theorem dX8_digest_149 : decode cX8_digest 149 = .ok (.ldc2_w 195, 3) := by decide +kernel
theorem dX8_digest_152 : decode cX8_digest 152 = .ok (.lload_n 1, 1) := by decide +kernel
theorem dX8_digest_153 : decode cX8_digest 153 = .ok (.lmul, 1) := by decide +kernel
theorem dX8_digest_154 : decode cX8_digest 154 = .ok (.aload_n 0, 1) := by decide +kernel
theorem dX8_digest_155 : decode cX8_digest 155 = .ok (.getfield 7, 3) := by decide +kernel
theorem dX8_digest_158 : decode cX8_digest 158 = .ok (.bipush 10, 2) := by decide +kernel
theorem dX8_digest_160 : decode cX8_digest 160 = .ok (.iload_n 3, 1) := by decide +kernel
theorem dX8_digest_161 : decode cX8_digest 161 = .ok (.iadd, 1) := by decide +kernel
theorem dX8_digest_162 : decode cX8_digest 162 = .ok (.iaload, 1) := by decide +kernel
theorem dX8_digest_163 : decode cX8_digest 163 = .ok (.i2l, 1) := by decide +kernel
theorem dX8_digest_164 : decode cX8_digest 164 = .ok (.ladd, 1) := by decide +kernel
theorem dX8_digest_165 : decode cX8_digest 165 = .ok (.lstore_n 1, 1) := by decide +kernel
theorem dX8_digest_166 : decode cX8_digest 166 = .ok (.ldc2_w 195, 3) := by decide +kernel
theorem dX8_digest_169 : decode cX8_digest 169 = .ok (.lload_n 1, 1) := by decide +kernel
theorem dX8_digest_170 : decode cX8_digest 170 = .ok (.lmul, 1) := by decide +kernel
theorem dX8_digest_171 : decode cX8_digest 171 = .ok (.aload_n 0, 1) := by decide +kernel
theorem dX8_digest_172 : decode cX8_digest 172 = .ok (.iload_n 3, 1) := by decide +kernel
theorem dX8_digest_173 : decode cX8_digest 173 = .ok (.invokevirtual 144, 3) := by decide +kernel
theorem dX8_digest_176 : decode cX8_digest 176 = .ok (.i2l, 1) := by decide +kernel
theorem dX8_digest_177 : decode cX8_digest 177 = .ok (.ladd, 1) := by decide +kernel
theorem dX8_digest_178 : decode cX8_digest 178 = .ok (.lstore_n 1, 1) := by decide +kernel
theorem dX8_digest_179 : decode cX8_digest 179 = .ok (.iinc 3 1, 3) := by decide +kernel
theorem dX8_digest_182 : decode cX8_digest 182 = .ok (.goto (-54), 3) := by decide +kernel
theorem dX8_digest_185 : decode cX8_digest 185 = .ok (.iconst 0, 1) := by decide +kernel
theorem dX8_digest_186 : decode cX8_digest 186 = .ok (.istore_n 3, 1) := by decide +kernel
theorem dX8_digest_187 : decode cX8_digest 187 = .ok (.iload_n 3, 1) := by decide +kernel
theorem dX8_digest_188 : decode cX8_digest 188 = .ok (.aload_n 0, 1) := by decide +kernel
theorem dX8_digest_189 : decode cX8_digest 189 = .ok (.getfield 7, 3) := by decide +kernel
theorem dX8_digest_192 : decode cX8_digest 192 = .ok (.bipush 51, 2) := by decide +kernel
theorem dX8_digest_194 : decode cX8_digest 194 = .ok (.iaload, 1) := by decide +kernel
theorem dX8_digest_195 : decode cX8_digest 195 = .ok (.if_icmp .ge 26, 3) := by decide +kernel
theorem dX8_digest_198 : decode cX8_digest 198 = .ok (.ldc2_w 195, 3) := by decide +kernel
theorem dX8_digest_201 : decode cX8_digest 201 = .ok (.lload_n 1, 1) := by decide +kernel
theorem dX8_digest_202 : decode cX8_digest 202 = .ok (.lmul, 1) := by decide +kernel
theorem dX8_digest_203 : decode cX8_digest 203 = .ok (.aload_n 0, 1) := by decide +kernel
theorem dX8_digest_204 : decode cX8_digest 204 = .ok (.getfield 7, 3) := by decide +kernel
theorem dX8_digest_207 : decode cX8_digest 207 = .ok (.bipush 52, 2) := by decide +kernel
theorem dX8_digest_209 : decode cX8_digest 209 = .ok (.iload_n 3, 1) := by decide +kernel
theorem dX8_digest_210 : decode cX8_digest 210 = .ok (.iadd, 1) := by decide +kernel
theorem dX8_digest_211 : decode cX8_digest 211 = .ok (.iaload, 1) := by decide +kernel
theorem dX8_digest_212 : decode cX8_digest 212 = .ok (.i2l, 1) := by decide +kernel
theorem dX8_digest_213 : decode cX8_digest 213 = .ok (.ladd, 1) := by decide +kernel
theorem dX8_digest_214 : decode cX8_digest 214 = .ok (.lstore_n 1, 1) := by decide +kernel
theorem dX8_digest_215 : decode cX8_digest 215 = .ok (.iinc 3 1, 3) := by decide +kernel
theorem dX8_digest_218 : decode cX8_digest 218 = .ok (.goto (-31), 3) := by decide +kernel
theorem dX8_digest_221 : decode cX8_digest 221 = .ok (.iconst 0, 1) := by decide +kernel
theorem dX8_digest_222 : decode cX8_digest 222 = .ok (.istore_n 3, 1) := by decide +kernel
theorem dX8_digest_223 : decode cX8_digest 223 = .ok (.iload_n 3, 1) := by decide +kernel
theorem dX8_digest_224 : decode cX8_digest 224 = .ok (.aload_n 0, 1) := by decide +kernel
theorem dX8_digest_225 : decode cX8_digest 225 = .ok (.getfield 7, 3) := by decide +kernel
theorem dX8_digest_228 : decode cX8_digest 228 = .ok (.bipush 94, 2) := by decide +kernel
theorem dX8_digest_230 : decode cX8_digest 230 = .ok (.iaload, 1) := by decide +kernel
theorem dX8_digest_231 : decode cX8_digest 231 = .ok (.if_icmp .ge 60, 3) := by decide +kernel
theorem dX8_digest_234 : decode cX8_digest 234 = .ok (.ldc2_w 195, 3) := by decide +kernel
theorem dX8_digest_237 : decode cX8_digest 237 = .ok (.lload_n 1, 1) := by decide +kernel
theorem dX8_digest_238 : decode cX8_digest 238 = .ok (.lmul, 1) := by decide +kernel
theorem dX8_digest_239 : decode cX8_digest 239 = .ok (.aload_n 0, 1) := by decide +kernel
theorem dX8_digest_240 : decode cX8_digest 240 = .ok (.getfield 7, 3) := by decide +kernel
theorem dX8_digest_243 : decode cX8_digest 243 = .ok (.bipush 95, 2) := by decide +kernel
theorem dX8_digest_245 : decode cX8_digest 245 = .ok (.iload_n 3, 1) := by decide +kernel
theorem dX8_digest_246 : decode cX8_digest 246 = .ok (.iadd, 1) := by decide +kernel
theorem dX8_digest_247 : decode cX8_digest 247 = .ok (.iaload, 1) := by decide +kernel
theorem dX8_digest_248 : decode cX8_digest 248 = .ok (.i2l, 1) := by decide +kernel
theorem dX8_digest_249 : decode cX8_digest 249 = .ok (.ladd, 1) := by decide +kernel
theorem dX8_digest_250 : decode cX8_digest 250 = .ok (.lstore_n 1, 1) := by decide +kernel
theorem dX8_digest_251 : decode cX8_digest 251 = .ok (.ldc2_w 195, 3) := by decide +kernel
theorem dX8_digest_254 : decode cX8_digest 254 = .ok (.lload_n 1, 1) := by decide +kernel
theorem dX8_digest_255 : decode cX8_digest 255 = .ok (.lmul, 1) := by decide +kernel
theorem dX8_digest_256 : decode cX8_digest 256 = .ok (.aload_n 0, 1) := by decide +kernel
theorem dX8_digest_257 : decode cX8_digest 257 = .ok (.getfield 7, 3) := by decide +kernel
theorem dX8_digest_260 : decode cX8_digest 260 = .ok (.bipush 105, 2) := by decide +kernel
theorem dX8_digest_262 : decode cX8_digest 262 = .ok (.iload_n 3, 1) := by decide +kernel
theorem dX8_digest_263 : decode cX8_digest 263 = .ok (.iadd, 1) := by decide +kernel
theorem dX8_digest_264 : decode cX8_digest 264 = .ok (.iaload, 1) := by decide +kernel
theorem dX8_digest_265 : decode cX8_digest 265 = .ok (.i2l, 1) := by decide +kernel
theorem dX8_digest_266 : decode cX8_digest 266 = .ok (.ladd, 1) := by decide +kernel
theorem dX8_digest_267 : decode cX8_digest 267 = .ok (.lstore_n 1, 1) := by decide +kernel
theorem dX8_digest_268 : decode cX8_digest 268 = .ok (.ldc2_w 195, 3) := by decide +kernel
theorem dX8_digest_271 : decode cX8_digest 271 = .ok (.lload_n 1, 1) := by decide +kernel
theorem dX8_digest_272 : decode cX8_digest 272 = .ok (.lmul, 1) := by decide +kernel
theorem dX8_digest_273 : decode cX8_digest 273 = .ok (.aload_n 0, 1) := by decide +kernel
theorem dX8_digest_274 : decode cX8_digest 274 = .ok (.getfield 7, 3) := by decide +kernel
theorem dX8_digest_277 : decode cX8_digest 277 = .ok (.bipush 115, 2) := by decide +kernel
theorem dX8_digest_279 : decode cX8_digest 279 = .ok (.iload_n 3, 1) := by decide +kernel
theorem dX8_digest_280 : decode cX8_digest 280 = .ok (.iadd, 1) := by decide +kernel
theorem dX8_digest_281 : decode cX8_digest 281 = .ok (.iaload, 1) := by decide +kernel
theorem dX8_digest_282 : decode cX8_digest 282 = .ok (.i2l, 1) := by decide +kernel
theorem dX8_digest_283 : decode cX8_digest 283 = .ok (.ladd, 1) := by decide +kernel
theorem dX8_digest_284 : decode cX8_digest 284 = .ok (.lstore_n 1, 1) := by decide +kernel
theorem dX8_digest_285 : decode cX8_digest 285 = .ok (.iinc 3 1, 3) := by decide +kernel
theorem dX8_digest_288 : decode cX8_digest 288 = .ok (.goto (-65), 3) := by decide +kernel
theorem dX8_digest_291 : decode cX8_digest 291 = .ok (.lload_n 1, 1) := by decide +kernel
theorem dX8_digest_292 : decode cX8_digest 292 = .ok (.lreturn, 1) := by decide +kernel
set_option maxHeartbeats 4000000 in
set_option maxRecDepth 100000 in
theorem c_M_digest (l : Launch) (D : va_G) (mo : Nat) (ms : Nat) (sv : Int32) (mb : Nat) (ty : Int32) (th : Int32) (mk : Nat) (ml : Int32) (mfd : Nat) (mf : Int32) (sp : Int32) (on : Int32) (tw : Int32) (K : ClassId) (sf : Nat → Int32) (lk : Nat → Int32) (fd : Nat → Int32) (x : ST) (hR : RS x sf) (hbx : bST x) (hlx : labW x) (sz : Nat) : k_Ml (S := Int32 × Int32 × (Nat → Int32) × (Nat → Int32)) l D yX8_digest cX8_digest 4 (some .long) 8 0 0 193 [.ref mo] [(mo, .inr (8, [.ref ms, .int sv, .ref mb, .int ty, .int th, .ref mk, .int ml, .ref mfd, .int mf, .int sp, .int on, .int tw])), (ms, .inl (K, 889, .inl sf)), (mk, .inl (K, 41, .inl lk)), (mfd, .inl (K, 9, .inl fd))] [(K, .int)] (fun (r : Int64) (u : Int32 × Int32 × (Nat → Int32) × (Nat → Int32)) => match u with | (ml1, mf1, lk1, fd1) => r = (dgC x (s_k x))) (fun u => match u with | (ml1, mf1, lk1, fd1) => [(mo, .inr (8, [.ref ms, .int sv, .ref mb, .int ty, .int 0, .ref mk, .int ml1, .ref mfd, .int mf1, .int sp, .int on, .int tw])), (ms, .inl (K, 889, .inl sf)), (mk, .inl (K, 41, .inl lk1)), (mfd, .inl (K, 9, .inl fd1))]) (fun u => match u with | (ml1, mf1, lk1, fd1) => []) sz := by
  refine Met.ofW (cc := cX8_digest) (maxL := 4) (ret := (some .long)) (by decide) rfl ?_
  intro p e s m args below meth c s₁ B hml hv
  obtain ⟨rfl, hsz, hP, hK, hD0, hG⟩ := hv
  have hx := B.exec
  have hb := B.bytes
  have hr := B.returns
  have ht : ∀ v9 ∈ wsA, v9.before ([.ref mo] : List Value).toArray s = true := fun v9 h9 => atoms_spec (ws := k_ws yX8_digest cX8_digest 4 (some .long)) B.pre v9 (List.mem_cons_of_mem _ h9)
  have hown : s.vm.findClass RX8 = some m.cls := findClass_of_methodNamed B.named
  have S0 : k_C p s m ([.ref mo] : List Value).toArray c cX8_digest 4 RX8 := ⟨hx, hb, hml, hown, ht⟩
  have hlocks := B.notSynchronized
  subst hsz
  have hD := hD0.self (sz := s.heap.size)
  generalize hAe : va_A [(mo, .inr (8, [.ref ms, .int sv, .ref mb, .int ty, .int th, .ref mk, .int ml, .ref mfd, .int mf, .int sp, .int on, .int tw])), (ms, .inl (K, 889, .inl sf)), (mk, .inl (K, 41, .inl lk)), (mfd, .inl (K, 9, .inl fd))] s.heap.size = A at hD hG ⊢
  have hA : ∀ q : Nat, s.heap.size ≤ q → A q := fun q h => by rw [← hAe]; exact Or.inr h
  have hS : va_S A s.heap s.heap [] := va_S.rf
  have hl := lv_entry ([.ref mo]) (n := 4) (Nat.le_of_ble_eq_true rfl)
  rw [lg_entry_eq]
  generalize (lg_sl ([.ref mo]) ++ List.replicate (4 - (lg_sl ([.ref mo])).length) Slot.unset).toArray = ls at hl ⊢
  have hl : lv_has ls 4 [(0, .ref mo)] := hl
  have hP : va_P D vwCl [(mo, .inr (8, [.ref ms, .int sv, .ref mb, .int ty, .int th, .ref mk, .int ml, .ref mfd, .int mf, .int sp, .int on, .int tw])), (ms, .inl (K, 889, .inl sf)), (mk, .inl (K, 41, .inl lk)), (mfd, .inl (K, 9, .inl fd))] s.heap := hP
  have hR9 := hR
  have hlx9 : labW x := hlx
  obtain ⟨q0, q1, q2, h51, q4, h93, ⟨h94, q7⟩, h125, h126⟩ := hR
  obtain ⟨b1, b2, b3, b4⟩ := bST_le hbx
  obtain ⟨hl1, hl2⟩ := hlx
  refine lv_ldc2 (v := 4025) hx hb hown (ht _ lx_X8_193) dX8_digest_0 ?_
  refine lv_lstore_n (lv' := [(1, .long 4025), (0, .ref mo)]) hx hb dX8_digest_3 rfl hl (by decide) rfl (fun ls hl => ?_)
  refine lv_ldc2 (v := 31) hx hb hown (ht _ lx_X8_195) dX8_digest_4 ?_
  refine lv_lload_n hx hb dX8_digest_7 rfl (lv_at hl 0 rfl) ?_
  refine lv_lmul hx hb dX8_digest_8 ?_
  refine k_nrml (y := 124775) (by decide) ?_
  refine lv_aload_n hx hb dX8_digest_9 rfl (lv_at hl 1 rfl) ?_
  have ct := k_cut_of (wc := [(mo, .inr (8, [.ref ms, .int sv, .ref mb, .int ty, .int th, .ref mk, .int ml, .ref mfd, .int mf, .int sp, .int on, .int tw])), (ms, .inl (K, 889, .inl sf))]) (wr := [(mk, .inl (K, 41, .inl lk)), (mfd, .inl (K, 9, .inl fd))]) (tc := [(K, .int)]) hG hS hA hK hP hD [0, 1] [2, 3] [0] rfl rfl (by decide) (by decide) (by decide) rfl
  refine k_endi (As := [.ref mo]) ct (k_runV (As := []) (rest := [.long 124775]) S0 Lv_X8_38 rfl (ci := 8) (q0 := 0) rfl rfl ct (c_M_many l D mo ms sv mb ty th mk ml mfd mf sp on tw K sf (s_nd x) (by assumption) (by first | assumption | omega) s.heap.size) hl.1 rfl (Nat.le_of_ble_eq_true rfl) rfl dX8_digest_10 ⟨⟨Nat.le_of_ble_eq_true rfl, Nat.le_of_ble_eq_true rfl⟩, Nat.le_of_ble_eq_true rfl, Nat.le_of_ble_eq_true rfl⟩) rfl rfl (fun r_1 _ H locs hw_2 hP hD hK hS => ?_)
  have hK : va_K D vwCl [(K, .int)] s := hK
  have hP : va_P D vwCl [(mk, .inl (K, 41, .inl lk)), (mfd, .inl (K, 9, .inl fd)), (mo, .inr (8, [.ref ms, .int sv, .ref mb, .int ty, .int th, .ref mk, .int ml, .ref mfd, .int mf, .int sp, .int on, .int tw])), (ms, .inl (K, 889, .inl sf))] H := hP
  have hD : va_D A [(mk, .inl (K, 41, .inl lk)), (mfd, .inl (K, 9, .inl fd)), (mo, .inr (8, [.ref ms, .int sv, .ref mb, .int ty, .int th, .ref mk, .int ml, .ref mfd, .int mf, .int sp, .int on, .int tw])), (ms, .inl (K, 889, .inl sf))] := hD
  have hw_2 : r_1 = (nI (lnN (s_nd x))) := hw_2
  have hw_2 := hw_2.symm
  subst hw_2
  refine k_nrm (y := (nI (lnN (s_nd x)))) rfl ?_
  refine k_nrm (y := nI (s_ns x)) (by rw [hl1]) ?_
  refine lv_i2l (v := (nI (s_ns x)).toInt64) hx hb dX8_digest_13 rfl ?_
  refine lv_ladd hx hb dX8_digest_14 ?_
  refine k_nrml (y := (124775 + ((nI (s_ns x)).toInt64))) (rfl) ?_
  refine lv_lstore_n (lv' := [(1, .long (124775 + ((nI (s_ns x)).toInt64))), (0, .ref mo)]) hx hb dX8_digest_15 rfl hl (by decide) rfl (fun ls hl => ?_)
  refine lv_ldc2 (v := 31) hx hb hown (ht _ lx_X8_195) dX8_digest_16 ?_
  refine lv_lload_n hx hb dX8_digest_19 rfl (lv_at hl 0 rfl) ?_
  refine lv_lmul hx hb dX8_digest_20 ?_
  refine k_nrml (y := (31 * (124775 + ((nI (s_ns x)).toInt64)))) (rfl) ?_
  refine lv_aload_n hx hb dX8_digest_21 rfl (lv_at hl 1 rfl) ?_
  refine va_get (D := D) (ci := 8) (v := .ref ms) (C := RX8) (T := TX8) (N := 12) hx hb ht inA_X8 hown hK hP 2 rfl rfl 0 (by decide) (ht _ lf_X8_7) (fun _ h9 => h9) rfl dX8_digest_22 ?_
  refine lv_bipush (v := 51) hx hb dX8_digest_25 (by decide) ?_
  refine va_iald hx hb hK hP 3 0 rfl rfl (by unfold vp_in; decide) dX8_digest_27 ?_
  refine k_nrm (y := (nI (s_tn x))) (show sf (51 : Int32).toNatClampNeg = (nI (s_tn x)) from h51) ?_
  refine lv_i2l (v := (nI (s_tn x)).toInt64) hx hb dX8_digest_28 rfl ?_
  refine lv_ladd hx hb dX8_digest_29 ?_
  refine k_nrml (y := ((31 * (124775 + ((nI (s_ns x)).toInt64))) + ((nI (s_tn x)).toInt64))) (rfl) ?_
  refine lv_lstore_n (lv' := [(1, .long ((31 * (124775 + ((nI (s_ns x)).toInt64))) + ((nI (s_tn x)).toInt64))), (0, .ref mo)]) hx hb dX8_digest_30 rfl hl (by decide) rfl (fun ls hl => ?_)
  refine lv_ldc2 (v := 31) hx hb hown (ht _ lx_X8_195) dX8_digest_31 ?_
  refine lv_lload_n hx hb dX8_digest_34 rfl (lv_at hl 0 rfl) ?_
  refine lv_lmul hx hb dX8_digest_35 ?_
  refine k_nrml (y := (31 * ((31 * (124775 + ((nI (s_ns x)).toInt64))) + ((nI (s_tn x)).toInt64)))) (rfl) ?_
  refine lv_aload_n hx hb dX8_digest_36 rfl (lv_at hl 1 rfl) ?_
  have ct := k_cut_of (wc := [(mo, .inr (8, [.ref ms, .int sv, .ref mb, .int ty, .int th, .ref mk, .int ml, .ref mfd, .int mf, .int sp, .int on, .int tw])), (ms, .inl (K, 889, .inl sf)), (mk, .inl (K, 41, .inl lk)), (mfd, .inl (K, 9, .inl fd))]) (wr := []) (tc := [(K, .int)]) hG hS hA hK hP hD [2, 3, 0, 1] [] [0] rfl rfl (by decide) (by decide) (by decide) rfl
  refine k_endi (As := [.ref mo]) ct (k_runV (As := []) (rest := [.long (31 * ((31 * (124775 + ((nI (s_ns x)).toInt64))) + ((nI (s_tn x)).toInt64)))]) S0 Lv_X8_197 rfl (ci := 8) (q0 := 0) rfl rfl ct (c_M_result l D mo ms sv mb ty th mk ml mfd mf sp on tw K sf lk fd x hR9 (by assumption) H.size) hl.1 rfl (Nat.le_of_ble_eq_true rfl) rfl dX8_digest_37 ⟨⟨Nat.le_of_ble_eq_true rfl, Nat.le_of_ble_eq_true rfl⟩, Nat.le_of_ble_eq_true rfl, Nat.le_of_ble_eq_true rfl⟩) rfl rfl (fun r_3 u H locs hw_8 hP hD hK hS => ?_)
  obtain ⟨ml1v_4, mf1v_5, lk1v_6, fd1v_7⟩ := u
  have hK : va_K D vwCl [(K, .int)] s := hK
  have hP : va_P D vwCl [(mo, .inr (8, [.ref ms, .int sv, .ref mb, .int ty, .int 0, .ref mk, .int ml1v_4, .ref mfd, .int mf1v_5, .int sp, .int on, .int tw])), (ms, .inl (K, 889, .inl sf)), (mk, .inl (K, 41, .inl lk1v_6)), (mfd, .inl (K, 9, .inl fd1v_7))] H := hP
  have hD : va_D A [(mo, .inr (8, [.ref ms, .int sv, .ref mb, .int ty, .int 0, .ref mk, .int ml1v_4, .ref mfd, .int mf1v_5, .int sp, .int on, .int tw])), (ms, .inl (K, 889, .inl sf)), (mk, .inl (K, 41, .inl lk1v_6)), (mfd, .inl (K, 9, .inl fd1v_7))] := hD
  have hw_8 : r_3 = resF (s_tn x) (s_tf x) (s_tol x) := hw_8
  refine k_nrm (y := (resF (s_tn x) (s_tf x) (s_tol x))) hw_8 ?_
  refine lv_i2l (v := (resF (s_tn x) (s_tf x) (s_tol x)).toInt64) hx hb dX8_digest_40 rfl ?_
  refine lv_ladd hx hb dX8_digest_41 ?_
  refine k_nrml (y := ((31 * ((31 * (124775 + ((nI (s_ns x)).toInt64))) + ((nI (s_tn x)).toInt64))) + ((resF (s_tn x) (s_tf x) (s_tol x)).toInt64))) (rfl) ?_
  refine lv_lstore_n (lv' := [(1, .long ((31 * ((31 * (124775 + ((nI (s_ns x)).toInt64))) + ((nI (s_tn x)).toInt64))) + ((resF (s_tn x) (s_tf x) (s_tol x)).toInt64))), (0, .ref mo)]) hx hb dX8_digest_42 rfl hl (by decide) rfl (fun ls hl => ?_)
  refine lv_ldc2 (v := 31) hx hb hown (ht _ lx_X8_195) dX8_digest_43 ?_
  refine lv_lload_n hx hb dX8_digest_46 rfl (lv_at hl 0 rfl) ?_
  refine lv_lmul hx hb dX8_digest_47 ?_
  refine k_nrml (y := (31 * ((31 * ((31 * (124775 + ((nI (s_ns x)).toInt64))) + ((nI (s_tn x)).toInt64))) + ((resF (s_tn x) (s_tf x) (s_tol x)).toInt64)))) (rfl) ?_
  refine lv_aload_n hx hb dX8_digest_48 rfl (lv_at hl 1 rfl) ?_
  refine lv_iconst (v := 0) hx hb dX8_digest_49 (by decide) ?_
  have ct := k_cut_of (wc := [(mo, .inr (8, [.ref ms, .int sv, .ref mb, .int ty, .int 0, .ref mk, .int ml1v_4, .ref mfd, .int mf1v_5, .int sp, .int on, .int tw])), (ms, .inl (K, 889, .inl sf)), (mk, .inl (K, 41, .inl lk1v_6)), (mfd, .inl (K, 9, .inl fd1v_7))]) (wr := []) (tc := [(K, .int)]) hG hS hA hK hP hD [0, 1, 2, 3] [] [0] rfl rfl (by decide) (by decide) (by decide) rfl
  refine k_endi (As := [.ref mo, .int 0]) ct (k_runV (As := [.int 0]) (rest := [.long (31 * ((31 * ((31 * (124775 + ((nI (s_ns x)).toInt64))) + ((nI (s_tn x)).toInt64))) + ((resF (s_tn x) (s_tf x) (s_tol x)).toInt64)))]) S0 Lv_X8_200 rfl (ci := 8) (q0 := 0) rfl rfl ct (c_M_reason l D mo ms sv mb ty 0 mk ml1v_4 mfd mf1v_5 sp on tw K sf lk1v_6 fd1v_7 x 0 hR9 (by assumption) H.size) hl.1 rfl (Nat.le_of_ble_eq_true rfl) rfl dX8_digest_50 ⟨⟨Nat.le_of_ble_eq_true rfl, Nat.le_of_ble_eq_true rfl⟩, Nat.le_of_ble_eq_true rfl, Nat.le_of_ble_eq_true rfl⟩) rfl rfl (fun r_9 u H locs hw_14 hP hD hK hS => ?_)
  obtain ⟨ml1v_10, mf1v_11, lk1v_12, fd1v_13⟩ := u
  have hK : va_K D vwCl [(K, .int)] s := hK
  have hP : va_P D vwCl [(mo, .inr (8, [.ref ms, .int sv, .ref mb, .int ty, .int 0, .ref mk, .int ml1v_10, .ref mfd, .int mf1v_11, .int sp, .int on, .int tw])), (ms, .inl (K, 889, .inl sf)), (mk, .inl (K, 41, .inl lk1v_12)), (mfd, .inl (K, 9, .inl fd1v_13))] H := hP
  have hD : va_D A [(mo, .inr (8, [.ref ms, .int sv, .ref mb, .int ty, .int 0, .ref mk, .int ml1v_10, .ref mfd, .int mf1v_11, .int sp, .int on, .int tw])), (ms, .inl (K, 889, .inl sf)), (mk, .inl (K, 41, .inl lk1v_12)), (mfd, .inl (K, 9, .inl fd1v_13))] := hD
  have hw_14 : r_9 = failF (s_tn x) (lnF (s_tn x) (s_tf x) 0) (s_tol x) := hw_14
  refine k_nrm (y := (failF (s_tn x) (lnF (s_tn x) (s_tf x) 0) (s_tol x))) hw_14 ?_
  refine lv_i2l (v := (failF (s_tn x) (lnF (s_tn x) (s_tf x) 0) (s_tol x)).toInt64) hx hb dX8_digest_53 rfl ?_
  refine lv_ladd hx hb dX8_digest_54 ?_
  refine k_nrml (y := ((31 * ((31 * ((31 * (124775 + ((nI (s_ns x)).toInt64))) + ((nI (s_tn x)).toInt64))) + ((resF (s_tn x) (s_tf x) (s_tol x)).toInt64))) + ((failF (s_tn x) (lnF (s_tn x) (s_tf x) 0) (s_tol x)).toInt64))) (rfl) ?_
  refine lv_lstore_n (lv' := [(1, .long ((31 * ((31 * ((31 * (124775 + ((nI (s_ns x)).toInt64))) + ((nI (s_tn x)).toInt64))) + ((resF (s_tn x) (s_tf x) (s_tol x)).toInt64))) + ((failF (s_tn x) (lnF (s_tn x) (s_tf x) 0) (s_tol x)).toInt64))), (0, .ref mo)]) hx hb dX8_digest_55 rfl hl (by decide) rfl (fun ls hl => ?_)
  refine lv_ldc2 (v := 31) hx hb hown (ht _ lx_X8_195) dX8_digest_56 ?_
  refine lv_lload_n hx hb dX8_digest_59 rfl (lv_at hl 0 rfl) ?_
  refine lv_lmul hx hb dX8_digest_60 ?_
  refine k_nrml (y := (31 * ((31 * ((31 * ((31 * (124775 + ((nI (s_ns x)).toInt64))) + ((nI (s_tn x)).toInt64))) + ((resF (s_tn x) (s_tf x) (s_tol x)).toInt64))) + ((failF (s_tn x) (lnF (s_tn x) (s_tf x) 0) (s_tol x)).toInt64)))) (rfl) ?_
  refine lv_aload_n hx hb dX8_digest_61 rfl (lv_at hl 1 rfl) ?_
  refine lv_iconst (v := 1) hx hb dX8_digest_62 (by decide) ?_
  have ct := k_cut_of (wc := [(mo, .inr (8, [.ref ms, .int sv, .ref mb, .int ty, .int 0, .ref mk, .int ml1v_10, .ref mfd, .int mf1v_11, .int sp, .int on, .int tw])), (ms, .inl (K, 889, .inl sf)), (mk, .inl (K, 41, .inl lk1v_12)), (mfd, .inl (K, 9, .inl fd1v_13))]) (wr := []) (tc := [(K, .int)]) hG hS hA hK hP hD [0, 1, 2, 3] [] [0] rfl rfl (by decide) (by decide) (by decide) rfl
  refine k_endi (As := [.ref mo, .int 1]) ct (k_runV (As := [.int 1]) (rest := [.long (31 * ((31 * ((31 * ((31 * (124775 + ((nI (s_ns x)).toInt64))) + ((nI (s_tn x)).toInt64))) + ((resF (s_tn x) (s_tf x) (s_tol x)).toInt64))) + ((failF (s_tn x) (lnF (s_tn x) (s_tf x) 0) (s_tol x)).toInt64)))]) S0 Lv_X8_200 rfl (ci := 8) (q0 := 0) rfl rfl ct (c_M_reason l D mo ms sv mb ty 0 mk ml1v_10 mfd mf1v_11 sp on tw K sf lk1v_12 fd1v_13 x 1 hR9 (by assumption) H.size) hl.1 rfl (Nat.le_of_ble_eq_true rfl) rfl dX8_digest_63 ⟨⟨Nat.le_of_ble_eq_true rfl, Nat.le_of_ble_eq_true rfl⟩, Nat.le_of_ble_eq_true rfl, Nat.le_of_ble_eq_true rfl⟩) rfl rfl (fun r_15 u H locs hw_20 hP hD hK hS => ?_)
  obtain ⟨ml1v_16, mf1v_17, lk1v_18, fd1v_19⟩ := u
  have hK : va_K D vwCl [(K, .int)] s := hK
  have hP : va_P D vwCl [(mo, .inr (8, [.ref ms, .int sv, .ref mb, .int ty, .int 0, .ref mk, .int ml1v_16, .ref mfd, .int mf1v_17, .int sp, .int on, .int tw])), (ms, .inl (K, 889, .inl sf)), (mk, .inl (K, 41, .inl lk1v_18)), (mfd, .inl (K, 9, .inl fd1v_19))] H := hP
  have hD : va_D A [(mo, .inr (8, [.ref ms, .int sv, .ref mb, .int ty, .int 0, .ref mk, .int ml1v_16, .ref mfd, .int mf1v_17, .int sp, .int on, .int tw])), (ms, .inl (K, 889, .inl sf)), (mk, .inl (K, 41, .inl lk1v_18)), (mfd, .inl (K, 9, .inl fd1v_19))] := hD
  have hw_20 : r_15 = failF (s_tn x) (lnF (s_tn x) (s_tf x) 1) (s_tol x) := hw_20
  refine k_nrm (y := (failF (s_tn x) (lnF (s_tn x) (s_tf x) 1) (s_tol x))) hw_20 ?_
  refine lv_i2l (v := (failF (s_tn x) (lnF (s_tn x) (s_tf x) 1) (s_tol x)).toInt64) hx hb dX8_digest_66 rfl ?_
  refine lv_ladd hx hb dX8_digest_67 ?_
  refine k_nrml (y := ((31 * ((31 * ((31 * ((31 * (124775 + ((nI (s_ns x)).toInt64))) + ((nI (s_tn x)).toInt64))) + ((resF (s_tn x) (s_tf x) (s_tol x)).toInt64))) + ((failF (s_tn x) (lnF (s_tn x) (s_tf x) 0) (s_tol x)).toInt64))) + ((failF (s_tn x) (lnF (s_tn x) (s_tf x) 1) (s_tol x)).toInt64))) (rfl) ?_
  refine lv_lstore_n (lv' := [(1, .long ((31 * ((31 * ((31 * ((31 * (124775 + ((nI (s_ns x)).toInt64))) + ((nI (s_tn x)).toInt64))) + ((resF (s_tn x) (s_tf x) (s_tol x)).toInt64))) + ((failF (s_tn x) (lnF (s_tn x) (s_tf x) 0) (s_tol x)).toInt64))) + ((failF (s_tn x) (lnF (s_tn x) (s_tf x) 1) (s_tol x)).toInt64))), (0, .ref mo)]) hx hb dX8_digest_68 rfl hl (by decide) rfl (fun ls hl => ?_)
  refine lv_ldc2 (v := 31) hx hb hown (ht _ lx_X8_195) dX8_digest_69 ?_
  refine lv_lload_n hx hb dX8_digest_72 rfl (lv_at hl 0 rfl) ?_
  refine lv_lmul hx hb dX8_digest_73 ?_
  refine k_nrml (y := (31 * ((31 * ((31 * ((31 * ((31 * (124775 + ((nI (s_ns x)).toInt64))) + ((nI (s_tn x)).toInt64))) + ((resF (s_tn x) (s_tf x) (s_tol x)).toInt64))) + ((failF (s_tn x) (lnF (s_tn x) (s_tf x) 0) (s_tol x)).toInt64))) + ((failF (s_tn x) (lnF (s_tn x) (s_tf x) 1) (s_tol x)).toInt64)))) (rfl) ?_
  refine lv_aload_n hx hb dX8_digest_74 rfl (lv_at hl 1 rfl) ?_
  have ct := k_cut_of (wc := [(mo, .inr (8, [.ref ms, .int sv, .ref mb, .int ty, .int 0, .ref mk, .int ml1v_16, .ref mfd, .int mf1v_17, .int sp, .int on, .int tw])), (ms, .inl (K, 889, .inl sf)), (mk, .inl (K, 41, .inl lk1v_18)), (mfd, .inl (K, 9, .inl fd1v_19))]) (wr := []) (tc := [(K, .int)]) hG hS hA hK hP hD [0, 1, 2, 3] [] [0] rfl rfl (by decide) (by decide) (by decide) rfl
  refine k_endi (As := [.ref mo]) ct (k_runV (As := []) (rest := [.long (31 * ((31 * ((31 * ((31 * ((31 * (124775 + ((nI (s_ns x)).toInt64))) + ((nI (s_tn x)).toInt64))) + ((resF (s_tn x) (s_tf x) (s_tol x)).toInt64))) + ((failF (s_tn x) (lnF (s_tn x) (s_tf x) 0) (s_tol x)).toInt64))) + ((failF (s_tn x) (lnF (s_tn x) (s_tf x) 1) (s_tol x)).toInt64)))]) S0 Lv_X8_204 rfl (ci := 8) (q0 := 0) rfl rfl ct (c_M_least l D mo ms sv mb ty 0 mk ml1v_16 mfd mf1v_17 sp on tw K sf lk1v_18 fd1v_19 x hR9 (by assumption) H.size) hl.1 rfl (Nat.le_of_ble_eq_true rfl) rfl dX8_digest_75 ⟨⟨Nat.le_of_ble_eq_true rfl, Nat.le_of_ble_eq_true rfl⟩, Nat.le_of_ble_eq_true rfl, Nat.le_of_ble_eq_true rfl⟩) rfl rfl (fun r_21 u H locs hw_26 hP hD hK hS => ?_)
  obtain ⟨ml1v_22, mf1v_23, lk1v_24, fd1v_25⟩ := u
  have hK : va_K D vwCl [(K, .int)] s := hK
  have hP : va_P D vwCl [(mo, .inr (8, [.ref ms, .int sv, .ref mb, .int ty, .int 0, .ref mk, .int ml1v_22, .ref mfd, .int mf1v_23, .int sp, .int on, .int tw])), (ms, .inl (K, 889, .inl sf)), (mk, .inl (K, 41, .inl lk1v_24)), (mfd, .inl (K, 9, .inl fd1v_25))] H := hP
  have hD : va_D A [(mo, .inr (8, [.ref ms, .int sv, .ref mb, .int ty, .int 0, .ref mk, .int ml1v_22, .ref mfd, .int mf1v_23, .int sp, .int on, .int tw])), (ms, .inl (K, 889, .inl sf)), (mk, .inl (K, 41, .inl lk1v_24)), (mfd, .inl (K, 9, .inl fd1v_25))] := hD
  have hw_26 : r_21 = (leaF (s_tn x) (s_tf x)) := hw_26
  have hw_26 := hw_26.symm
  subst hw_26
  refine k_nrm (y := (leaF (s_tn x) (s_tf x))) rfl ?_
  refine lv_i2l (v := (leaF (s_tn x) (s_tf x)).toInt64) hx hb dX8_digest_78 rfl ?_
  refine lv_ladd hx hb dX8_digest_79 ?_
  refine k_nrml (y := ((31 * ((31 * ((31 * ((31 * ((31 * (124775 + ((nI (s_ns x)).toInt64))) + ((nI (s_tn x)).toInt64))) + ((resF (s_tn x) (s_tf x) (s_tol x)).toInt64))) + ((failF (s_tn x) (lnF (s_tn x) (s_tf x) 0) (s_tol x)).toInt64))) + ((failF (s_tn x) (lnF (s_tn x) (s_tf x) 1) (s_tol x)).toInt64))) + ((leaF (s_tn x) (s_tf x)).toInt64))) (rfl) ?_
  refine lv_lstore_n (lv' := [(1, .long ((31 * ((31 * ((31 * ((31 * ((31 * (124775 + ((nI (s_ns x)).toInt64))) + ((nI (s_tn x)).toInt64))) + ((resF (s_tn x) (s_tf x) (s_tol x)).toInt64))) + ((failF (s_tn x) (lnF (s_tn x) (s_tf x) 0) (s_tol x)).toInt64))) + ((failF (s_tn x) (lnF (s_tn x) (s_tf x) 1) (s_tol x)).toInt64))) + ((leaF (s_tn x) (s_tf x)).toInt64))), (0, .ref mo)]) hx hb dX8_digest_80 rfl hl (by decide) rfl (fun ls hl => ?_)
  refine lv_ldc2 (v := 31) hx hb hown (ht _ lx_X8_195) dX8_digest_81 ?_
  refine lv_lload_n hx hb dX8_digest_84 rfl (lv_at hl 0 rfl) ?_
  refine lv_lmul hx hb dX8_digest_85 ?_
  refine k_nrml (y := (31 * ((31 * ((31 * ((31 * ((31 * ((31 * (124775 + ((nI (s_ns x)).toInt64))) + ((nI (s_tn x)).toInt64))) + ((resF (s_tn x) (s_tf x) (s_tol x)).toInt64))) + ((failF (s_tn x) (lnF (s_tn x) (s_tf x) 0) (s_tol x)).toInt64))) + ((failF (s_tn x) (lnF (s_tn x) (s_tf x) 1) (s_tol x)).toInt64))) + ((leaF (s_tn x) (s_tf x)).toInt64)))) (rfl) ?_
  refine lv_aload_n hx hb dX8_digest_86 rfl (lv_at hl 1 rfl) ?_
  refine va_get (D := D) (ci := 8) (v := .ref ms) (C := RX8) (T := TX8) (N := 12) hx hb ht inA_X8 hown hK hP 0 rfl rfl 0 (by decide) (ht _ lf_X8_7) (fun _ h9 => h9) rfl dX8_digest_87 ?_
  refine lv_bipush (v := 94) hx hb dX8_digest_90 (by decide) ?_
  refine va_iald hx hb hK hP 1 0 rfl rfl (by unfold vp_in; decide) dX8_digest_92 ?_
  refine k_nrm (y := (nI (s_k x))) (show sf (94 : Int32).toNatClampNeg = (nI (s_k x)) from h94) ?_
  refine lv_i2l (v := (nI (s_k x)).toInt64) hx hb dX8_digest_93 rfl ?_
  refine lv_ladd hx hb dX8_digest_94 ?_
  refine k_nrml (y := ((31 * ((31 * ((31 * ((31 * ((31 * ((31 * (124775 + ((nI (s_ns x)).toInt64))) + ((nI (s_tn x)).toInt64))) + ((resF (s_tn x) (s_tf x) (s_tol x)).toInt64))) + ((failF (s_tn x) (lnF (s_tn x) (s_tf x) 0) (s_tol x)).toInt64))) + ((failF (s_tn x) (lnF (s_tn x) (s_tf x) 1) (s_tol x)).toInt64))) + ((leaF (s_tn x) (s_tf x)).toInt64))) + ((nI (s_k x)).toInt64))) (rfl) ?_
  refine lv_lstore_n (lv' := [(1, .long ((31 * ((31 * ((31 * ((31 * ((31 * ((31 * (124775 + ((nI (s_ns x)).toInt64))) + ((nI (s_tn x)).toInt64))) + ((resF (s_tn x) (s_tf x) (s_tol x)).toInt64))) + ((failF (s_tn x) (lnF (s_tn x) (s_tf x) 0) (s_tol x)).toInt64))) + ((failF (s_tn x) (lnF (s_tn x) (s_tf x) 1) (s_tol x)).toInt64))) + ((leaF (s_tn x) (s_tf x)).toInt64))) + ((nI (s_k x)).toInt64))), (0, .ref mo)]) hx hb dX8_digest_95 rfl hl (by decide) rfl (fun ls hl => ?_)
  refine lv_ldc2 (v := 31) hx hb hown (ht _ lx_X8_195) dX8_digest_96 ?_
  refine lv_lload_n hx hb dX8_digest_99 rfl (lv_at hl 0 rfl) ?_
  refine lv_lmul hx hb dX8_digest_100 ?_
  refine k_nrml (y := (31 * ((31 * ((31 * ((31 * ((31 * ((31 * ((31 * (124775 + ((nI (s_ns x)).toInt64))) + ((nI (s_tn x)).toInt64))) + ((resF (s_tn x) (s_tf x) (s_tol x)).toInt64))) + ((failF (s_tn x) (lnF (s_tn x) (s_tf x) 0) (s_tol x)).toInt64))) + ((failF (s_tn x) (lnF (s_tn x) (s_tf x) 1) (s_tol x)).toInt64))) + ((leaF (s_tn x) (s_tf x)).toInt64))) + ((nI (s_k x)).toInt64)))) (rfl) ?_
  refine lv_aload_n hx hb dX8_digest_101 rfl (lv_at hl 1 rfl) ?_
  refine va_get (D := D) (ci := 8) (v := .ref ms) (C := RX8) (T := TX8) (N := 12) hx hb ht inA_X8 hown hK hP 0 rfl rfl 0 (by decide) (ht _ lf_X8_7) (fun _ h9 => h9) rfl dX8_digest_102 ?_
  refine lv_bipush (v := 125) hx hb dX8_digest_105 (by decide) ?_
  refine va_iald hx hb hK hP 1 0 rfl rfl (by unfold vp_in; decide) dX8_digest_107 ?_
  refine k_nrm (y := (s_suc x)) (show sf (125 : Int32).toNatClampNeg = (s_suc x) from h125) ?_
  refine lv_i2l (v := (s_suc x).toInt64) hx hb dX8_digest_108 rfl ?_
  refine lv_ladd hx hb dX8_digest_109 ?_
  refine k_nrml (y := ((31 * ((31 * ((31 * ((31 * ((31 * ((31 * ((31 * (124775 + ((nI (s_ns x)).toInt64))) + ((nI (s_tn x)).toInt64))) + ((resF (s_tn x) (s_tf x) (s_tol x)).toInt64))) + ((failF (s_tn x) (lnF (s_tn x) (s_tf x) 0) (s_tol x)).toInt64))) + ((failF (s_tn x) (lnF (s_tn x) (s_tf x) 1) (s_tol x)).toInt64))) + ((leaF (s_tn x) (s_tf x)).toInt64))) + ((nI (s_k x)).toInt64))) + ((s_suc x).toInt64))) (rfl) ?_
  refine lv_lstore_n (lv' := [(1, .long ((31 * ((31 * ((31 * ((31 * ((31 * ((31 * ((31 * (124775 + ((nI (s_ns x)).toInt64))) + ((nI (s_tn x)).toInt64))) + ((resF (s_tn x) (s_tf x) (s_tol x)).toInt64))) + ((failF (s_tn x) (lnF (s_tn x) (s_tf x) 0) (s_tol x)).toInt64))) + ((failF (s_tn x) (lnF (s_tn x) (s_tf x) 1) (s_tol x)).toInt64))) + ((leaF (s_tn x) (s_tf x)).toInt64))) + ((nI (s_k x)).toInt64))) + ((s_suc x).toInt64))), (0, .ref mo)]) hx hb dX8_digest_110 rfl hl (by decide) rfl (fun ls hl => ?_)
  refine lv_ldc2 (v := 31) hx hb hown (ht _ lx_X8_195) dX8_digest_111 ?_
  refine lv_lload_n hx hb dX8_digest_114 rfl (lv_at hl 0 rfl) ?_
  refine lv_lmul hx hb dX8_digest_115 ?_
  refine k_nrml (y := (31 * ((31 * ((31 * ((31 * ((31 * ((31 * ((31 * ((31 * (124775 + ((nI (s_ns x)).toInt64))) + ((nI (s_tn x)).toInt64))) + ((resF (s_tn x) (s_tf x) (s_tol x)).toInt64))) + ((failF (s_tn x) (lnF (s_tn x) (s_tf x) 0) (s_tol x)).toInt64))) + ((failF (s_tn x) (lnF (s_tn x) (s_tf x) 1) (s_tol x)).toInt64))) + ((leaF (s_tn x) (s_tf x)).toInt64))) + ((nI (s_k x)).toInt64))) + ((s_suc x).toInt64)))) (rfl) ?_
  refine lv_aload_n hx hb dX8_digest_116 rfl (lv_at hl 1 rfl) ?_
  refine va_get (D := D) (ci := 8) (v := .ref ms) (C := RX8) (T := TX8) (N := 12) hx hb ht inA_X8 hown hK hP 0 rfl rfl 0 (by decide) (ht _ lf_X8_7) (fun _ h9 => h9) rfl dX8_digest_117 ?_
  refine lv_bipush (v := 126) hx hb dX8_digest_120 (by decide) ?_
  refine va_iald hx hb hK hP 1 0 rfl rfl (by unfold vp_in; decide) dX8_digest_122 ?_
  refine k_nrm (y := (s_fai x)) (show sf (126 : Int32).toNatClampNeg = (s_fai x) from h126) ?_
  refine lv_i2l (v := (s_fai x).toInt64) hx hb dX8_digest_123 rfl ?_
  refine lv_ladd hx hb dX8_digest_124 ?_
  refine k_nrml (y := (dgH x)) (rfl) ?_
  refine lv_lstore_n (lv' := [(1, .long (dgH x)), (0, .ref mo)]) hx hb dX8_digest_125 rfl hl (by decide) rfl (fun ls hl => ?_)
  refine lv_iconst (v := 0) hx hb dX8_digest_126 (by decide) ?_
  refine lv_istore_n (lv' := [(3, .int 0), (1, .long (dgH x)), (0, .ref mo)]) hx hb dX8_digest_127 rfl hl (by decide) rfl (fun ls hl => ?_)
  have hl : lv_has ls 4 [(3, .int (nI 0)), (1, .long (dgH x)), (0, .ref mo)] := hl
  have hl : lv_has ls 4 [(3, .int (nI 0)), (1, .long (dgL x 0)), (0, .ref mo)] := hl
  refine k_loop (ι := Nat × Int32 × Int32 × (Nat → Int32) × (Nat → Int32)) (fun (x9 : Nat × Int32 × Int32 × (Nat → Int32) × (Nat → Int32)) H9 locs9 ls9 => match x9 with | (i, mlq, mfq, lq, fq) => (i ≤ s_ns x) ∧ va_P D vwCl [(mo, .inr (8, [.ref ms, .int sv, .ref mb, .int ty, .int 0, .ref mk, .int mlq, .ref mfd, .int mfq, .int sp, .int on, .int tw])), (ms, .inl (K, 889, .inl sf)), (mk, .inl (K, 41, .inl lq)), (mfd, .inl (K, 9, .inl fq))] H9 ∧ va_D A [(mo, .inr (8, [.ref ms, .int sv, .ref mb, .int ty, .int 0, .ref mk, .int mlq, .ref mfd, .int mfq, .int sp, .int on, .int tw])), (ms, .inl (K, 889, .inl sf)), (mk, .inl (K, 41, .inl lq)), (mfd, .inl (K, 9, .inl fq))] ∧ va_S A s.heap H9 locs9 ∧ lv_has ls9 4 [(3, .int (nI i)), (1, .long (dgL x i)), (0, .ref mo)]) (fun (x9 : Nat × Int32 × Int32 × (Nat → Int32) × (Nat → Int32)) => match x9 with | (i, mlq, mfq, lq, fq) => s_ns x - i) ?_ ((0, ml1v_22, mf1v_23, lk1v_24, fd1v_25)) ⟨(Nat.zero_le _), hP.sub [0, 1, 2, 3] rfl, hD.sub [0, 1, 2, 3] (by decide) rfl, hS, lv_sub hl [0, 1, 2] rfl⟩
  intro x9 H locs ls hF9 ih9
  obtain ⟨i, mlq, mfq, lq, fq⟩ := x9
  obtain ⟨hi, hP, hD, hS, hl⟩ := hF9
  try dsimp only at ih9
  have hP : va_P D vwCl [(mo, .inr (8, [.ref ms, .int sv, .ref mb, .int ty, .int 0, .ref mk, .int mlq, .ref mfd, .int mfq, .int sp, .int on, .int tw])), (ms, .inl (K, 889, .inl sf)), (mk, .inl (K, 41, .inl lq)), (mfd, .inl (K, 9, .inl fq))] H := hP
  have hD : va_D A [(mo, .inr (8, [.ref ms, .int sv, .ref mb, .int ty, .int 0, .ref mk, .int mlq, .ref mfd, .int mfq, .int sp, .int on, .int tw])), (ms, .inl (K, 889, .inl sf)), (mk, .inl (K, 41, .inl lq)), (mfd, .inl (K, 9, .inl fq))] := hD
  have hl : lv_has ls 4 [(3, .int (nI i)), (1, .long (dgL x i)), (0, .ref mo)] := hl
  refine lv_iload_n hx hb dX8_digest_128 rfl (lv_at hl 0 rfl) ?_
  refine lv_aload_n hx hb dX8_digest_129 rfl (lv_at hl 2 rfl) ?_
  have ct := k_cut_of (wc := [(mo, .inr (8, [.ref ms, .int sv, .ref mb, .int ty, .int 0, .ref mk, .int mlq, .ref mfd, .int mfq, .int sp, .int on, .int tw])), (ms, .inl (K, 889, .inl sf))]) (wr := [(mk, .inl (K, 41, .inl lq)), (mfd, .inl (K, 9, .inl fq))]) (tc := [(K, .int)]) hG hS hA hK hP hD [0, 1] [2, 3] [0] rfl rfl (by decide) (by decide) (by decide) rfl
  refine k_endi (As := [.ref mo]) ct (k_runV (As := []) (rest := [.int (nI i)]) S0 Lv_X8_38 rfl (ci := 8) (q0 := 0) rfl rfl ct (c_M_many l D mo ms sv mb ty 0 mk mlq mfd mfq sp on tw K sf (s_nd x) (by assumption) (by first | assumption | omega) H.size) hl.1 rfl (Nat.le_of_ble_eq_true rfl) rfl dX8_digest_130 ⟨⟨Nat.le_of_ble_eq_true rfl, Nat.le_of_ble_eq_true rfl⟩, Nat.le_of_ble_eq_true rfl, Nat.le_of_ble_eq_true rfl⟩) rfl rfl (fun r_27 _ H locs hw_28 hP hD hK hS => ?_)
  have hK : va_K D vwCl [(K, .int)] s := hK
  have hP : va_P D vwCl [(mk, .inl (K, 41, .inl lq)), (mfd, .inl (K, 9, .inl fq)), (mo, .inr (8, [.ref ms, .int sv, .ref mb, .int ty, .int 0, .ref mk, .int mlq, .ref mfd, .int mfq, .int sp, .int on, .int tw])), (ms, .inl (K, 889, .inl sf))] H := hP
  have hD : va_D A [(mk, .inl (K, 41, .inl lq)), (mfd, .inl (K, 9, .inl fq)), (mo, .inr (8, [.ref ms, .int sv, .ref mb, .int ty, .int 0, .ref mk, .int mlq, .ref mfd, .int mfq, .int sp, .int on, .int tw])), (ms, .inl (K, 889, .inl sf))] := hD
  have hw_28 : r_27 = (nI (lnN (s_nd x))) := hw_28
  have hw_28 := hw_28.symm
  subst hw_28
  refine k_nrm (y := (nI (lnN (s_nd x)))) rfl ?_
  refine k_nrm (y := nI (s_ns x)) (by rw [hl1]) ?_
  refine lv_icmp_ge (tgt := 185) hx hb dX8_digest_133 (by decide) (fun c_29 => ?_) (fun c_29 => ?_)
  · have hc9 := c_29
    obtain rfl : s_ns x = i := by rcases Nat.lt_or_ge i (s_ns x) with q9 | q9; exact absurd c_29 (nI_ge q9 (by omega)); omega
    refine lv_iconst (v := 0) hx hb dX8_digest_185 (by decide) ?_
    refine lv_istore_n (lv' := [(3, .int 0), (1, .long (dgL x (s_ns x))), (0, .ref mo)]) hx hb dX8_digest_186 rfl hl (by decide) rfl (fun ls hl => ?_)
    have hl : lv_has ls 4 [(3, .int (nI 0)), (1, .long (dgL x (s_ns x))), (0, .ref mo)] := hl
    have hl : lv_has ls 4 [(3, .int (nI 0)), (1, .long (dgT x 0)), (0, .ref mo)] := hl
    refine k_loop (ι := Nat × Int32 × Int32 × (Nat → Int32) × (Nat → Int32)) (fun (x9 : Nat × Int32 × Int32 × (Nat → Int32) × (Nat → Int32)) H9 locs9 ls9 => match x9 with | (i, mlq, mfq, lq, fq) => (i ≤ s_tn x) ∧ va_P D vwCl [(mo, .inr (8, [.ref ms, .int sv, .ref mb, .int ty, .int 0, .ref mk, .int mlq, .ref mfd, .int mfq, .int sp, .int on, .int tw])), (ms, .inl (K, 889, .inl sf)), (mk, .inl (K, 41, .inl lq)), (mfd, .inl (K, 9, .inl fq))] H9 ∧ va_D A [(mo, .inr (8, [.ref ms, .int sv, .ref mb, .int ty, .int 0, .ref mk, .int mlq, .ref mfd, .int mfq, .int sp, .int on, .int tw])), (ms, .inl (K, 889, .inl sf)), (mk, .inl (K, 41, .inl lq)), (mfd, .inl (K, 9, .inl fq))] ∧ va_S A s.heap H9 locs9 ∧ lv_has ls9 4 [(3, .int (nI i)), (1, .long (dgT x i)), (0, .ref mo)]) (fun (x9 : Nat × Int32 × Int32 × (Nat → Int32) × (Nat → Int32)) => match x9 with | (i, mlq, mfq, lq, fq) => s_tn x - i) ?_ ((0, mlq, mfq, lq, fq)) ⟨(Nat.zero_le _), hP.sub [2, 3, 0, 1] rfl, hD.sub [2, 3, 0, 1] (by decide) rfl, hS, lv_sub hl [0, 1, 2] rfl⟩
    intro x9 H locs ls hF9 ih9
    obtain ⟨i, mlq, mfq, lq, fq⟩ := x9
    obtain ⟨hi, hP, hD, hS, hl⟩ := hF9
    try dsimp only at ih9
    have hP : va_P D vwCl [(mo, .inr (8, [.ref ms, .int sv, .ref mb, .int ty, .int 0, .ref mk, .int mlq, .ref mfd, .int mfq, .int sp, .int on, .int tw])), (ms, .inl (K, 889, .inl sf)), (mk, .inl (K, 41, .inl lq)), (mfd, .inl (K, 9, .inl fq))] H := hP
    have hD : va_D A [(mo, .inr (8, [.ref ms, .int sv, .ref mb, .int ty, .int 0, .ref mk, .int mlq, .ref mfd, .int mfq, .int sp, .int on, .int tw])), (ms, .inl (K, 889, .inl sf)), (mk, .inl (K, 41, .inl lq)), (mfd, .inl (K, 9, .inl fq))] := hD
    have hl : lv_has ls 4 [(3, .int (nI i)), (1, .long (dgT x i)), (0, .ref mo)] := hl
    refine lv_iload_n hx hb dX8_digest_187 rfl (lv_at hl 0 rfl) ?_
    refine lv_aload_n hx hb dX8_digest_188 rfl (lv_at hl 2 rfl) ?_
    refine va_get (D := D) (ci := 8) (v := .ref ms) (C := RX8) (T := TX8) (N := 12) hx hb ht inA_X8 hown hK hP 0 rfl rfl 0 (by decide) (ht _ lf_X8_7) (fun _ h9 => h9) rfl dX8_digest_189 ?_
    refine lv_bipush (v := 51) hx hb dX8_digest_192 (by decide) ?_
    refine va_iald hx hb hK hP 1 0 rfl rfl (by unfold vp_in; decide) dX8_digest_194 ?_
    refine k_nrm (y := (nI (s_tn x))) (show sf (51 : Int32).toNatClampNeg = (nI (s_tn x)) from h51) ?_
    refine lv_icmp_ge (tgt := 221) hx hb dX8_digest_195 (by decide) (fun c_30 => ?_) (fun c_30 => ?_)
    · have hc9 := c_30
      obtain rfl : s_tn x = i := by rcases Nat.lt_or_ge i (s_tn x) with q9 | q9; exact absurd c_30 (nI_ge q9 (by omega)); omega
      refine lv_iconst (v := 0) hx hb dX8_digest_221 (by decide) ?_
      refine lv_istore_n (lv' := [(3, .int 0), (1, .long (dgT x (s_tn x))), (0, .ref mo)]) hx hb dX8_digest_222 rfl hl (by decide) rfl (fun ls hl => ?_)
      have hl : lv_has ls 4 [(3, .int (nI 0)), (1, .long (dgT x (s_tn x))), (0, .ref mo)] := hl
      have hl : lv_has ls 4 [(3, .int (nI 0)), (1, .long (dgC x 0)), (0, .ref mo)] := hl
      refine k_loop (ι := Nat × Int32 × Int32 × (Nat → Int32) × (Nat → Int32)) (fun (x9 : Nat × Int32 × Int32 × (Nat → Int32) × (Nat → Int32)) H9 locs9 ls9 => match x9 with | (i, mlq, mfq, lq, fq) => (i ≤ s_k x) ∧ va_P D vwCl [(mo, .inr (8, [.ref ms, .int sv, .ref mb, .int ty, .int 0, .ref mk, .int mlq, .ref mfd, .int mfq, .int sp, .int on, .int tw])), (ms, .inl (K, 889, .inl sf)), (mk, .inl (K, 41, .inl lq)), (mfd, .inl (K, 9, .inl fq))] H9 ∧ va_D A [(mo, .inr (8, [.ref ms, .int sv, .ref mb, .int ty, .int 0, .ref mk, .int mlq, .ref mfd, .int mfq, .int sp, .int on, .int tw])), (ms, .inl (K, 889, .inl sf)), (mk, .inl (K, 41, .inl lq)), (mfd, .inl (K, 9, .inl fq))] ∧ va_S A s.heap H9 locs9 ∧ lv_has ls9 4 [(3, .int (nI i)), (1, .long (dgC x i)), (0, .ref mo)]) (fun (x9 : Nat × Int32 × Int32 × (Nat → Int32) × (Nat → Int32)) => match x9 with | (i, mlq, mfq, lq, fq) => s_k x - i) ?_ ((0, mlq, mfq, lq, fq)) ⟨(Nat.zero_le _), hP.sub [0, 1, 2, 3] rfl, hD.sub [0, 1, 2, 3] (by decide) rfl, hS, lv_sub hl [0, 1, 2] rfl⟩
      intro x9 H locs ls hF9 ih9
      obtain ⟨i, mlq, mfq, lq, fq⟩ := x9
      obtain ⟨hi, hP, hD, hS, hl⟩ := hF9
      try dsimp only at ih9
      have hP : va_P D vwCl [(mo, .inr (8, [.ref ms, .int sv, .ref mb, .int ty, .int 0, .ref mk, .int mlq, .ref mfd, .int mfq, .int sp, .int on, .int tw])), (ms, .inl (K, 889, .inl sf)), (mk, .inl (K, 41, .inl lq)), (mfd, .inl (K, 9, .inl fq))] H := hP
      have hD : va_D A [(mo, .inr (8, [.ref ms, .int sv, .ref mb, .int ty, .int 0, .ref mk, .int mlq, .ref mfd, .int mfq, .int sp, .int on, .int tw])), (ms, .inl (K, 889, .inl sf)), (mk, .inl (K, 41, .inl lq)), (mfd, .inl (K, 9, .inl fq))] := hD
      have hl : lv_has ls 4 [(3, .int (nI i)), (1, .long (dgC x i)), (0, .ref mo)] := hl
      refine lv_iload_n hx hb dX8_digest_223 rfl (lv_at hl 0 rfl) ?_
      refine lv_aload_n hx hb dX8_digest_224 rfl (lv_at hl 2 rfl) ?_
      refine va_get (D := D) (ci := 8) (v := .ref ms) (C := RX8) (T := TX8) (N := 12) hx hb ht inA_X8 hown hK hP 0 rfl rfl 0 (by decide) (ht _ lf_X8_7) (fun _ h9 => h9) rfl dX8_digest_225 ?_
      refine lv_bipush (v := 94) hx hb dX8_digest_228 (by decide) ?_
      refine va_iald hx hb hK hP 1 0 rfl rfl (by unfold vp_in; decide) dX8_digest_230 ?_
      refine k_nrm (y := (nI (s_k x))) (show sf (94 : Int32).toNatClampNeg = (nI (s_k x)) from h94) ?_
      refine lv_icmp_ge (tgt := 291) hx hb dX8_digest_231 (by decide) (fun c_31 => ?_) (fun c_31 => ?_)
      · have hc9 := c_31
        obtain rfl : s_k x = i := by rcases Nat.lt_or_ge i (s_k x) with q9 | q9; exact absurd c_31 (nI_ge q9 (by omega)); omega
        refine lv_lload_n hx hb dX8_digest_291 rfl (lv_at hl 1 rfl) ?_
        have hP9 : va_P D vwCl [(mo, .inr (8, [.ref ms, .int sv, .ref mb, .int ty, .int 0, .ref mk, .int mlq, .ref mfd, .int mfq, .int sp, .int on, .int tw])), (ms, .inl (K, 889, .inl sf)), (mk, .inl (K, 41, .inl lq)), (mfd, .inl (K, 9, .inl fq))] H := hP.sub [0, 1, 2, 3] rfl
        have hD9 : va_D A [(mo, .inr (8, [.ref ms, .int sv, .ref mb, .int ty, .int 0, .ref mk, .int mlq, .ref mfd, .int mfq, .int sp, .int on, .int tw])), (ms, .inl (K, 889, .inl sf)), (mk, .inl (K, 41, .inl lq)), (mfd, .inl (K, 9, .inl fq))] := hD.sub [0, 1, 2, 3] (by decide) rfl
        have hK9 : va_K D vwCl [] s := hK.sub [] rfl
        exact W.lret (v := (dgC x (s_k x))) hx hb hr (fun t ht9 hW9 => ⟨⟨(dgC x (s_k x)), (mlq, mfq, lq, fq), rfl, by first | rfl | trivial | (simp only [hw_8, hw_14, hw_20, hi, c_29, hi, c_30, hi, c_31, if_true, if_false, reduceIte, and_self]; done) | simp_all, ⟨by rw [ht9]; exact hP9, va_K.moved hW9.alike hK9, hD9⟩⟩, hS.F ht9⟩) hS.2.2 dX8_digest_292
      · have hc9 := c_31
        have hik : i + 1 ≤ s_k x := by rcases Nat.lt_or_ge i (s_k x) with q9 | q9; exact q9; exact absurd (nI_le q9 (by omega)) c_31
        refine lv_ldc2 (v := 31) hx hb hown (ht _ lx_X8_195) dX8_digest_234 ?_
        refine lv_lload_n hx hb dX8_digest_237 rfl (lv_at hl 1 rfl) ?_
        refine lv_lmul hx hb dX8_digest_238 ?_
        refine k_nrml (y := (31 * (dgC x i))) (rfl) ?_
        refine lv_aload_n hx hb dX8_digest_239 rfl (lv_at hl 2 rfl) ?_
        refine va_get (D := D) (ci := 8) (v := .ref ms) (C := RX8) (T := TX8) (N := 12) hx hb ht inA_X8 hown hK hP 0 rfl rfl 0 (by decide) (ht _ lf_X8_7) (fun _ h9 => h9) rfl dX8_digest_240 ?_
        refine lv_bipush (v := 95) hx hb dX8_digest_243 (by decide) ?_
        refine lv_iload_n hx hb dX8_digest_245 rfl (lv_at hl 0 rfl) ?_
        refine lv_iadd hx hb dX8_digest_246 ?_
        refine k_nrm (y := (nI (95 + i))) (nI_add 95 i) ?_
        refine va_iald hx hb hK hP 1 0 rfl rfl (vp_in_nI (by omega) (by decide)) dX8_digest_247 ?_
        refine k_nrm (y := (s_f x i)) (by rw [nI_clamp (by omega)]; exact (q7 i (by omega)).1) ?_
        refine lv_i2l (v := (s_f x i).toInt64) hx hb dX8_digest_248 rfl ?_
        refine lv_ladd hx hb dX8_digest_249 ?_
        refine k_nrml (y := ((31 * (dgC x i)) + ((s_f x i).toInt64))) (rfl) ?_
        refine lv_lstore_n (lv' := [(1, .long ((31 * (dgC x i)) + ((s_f x i).toInt64))), (3, .int (nI i)), (0, .ref mo)]) hx hb dX8_digest_250 rfl hl (by decide) rfl (fun ls hl => ?_)
        refine lv_ldc2 (v := 31) hx hb hown (ht _ lx_X8_195) dX8_digest_251 ?_
        refine lv_lload_n hx hb dX8_digest_254 rfl (lv_at hl 0 rfl) ?_
        refine lv_lmul hx hb dX8_digest_255 ?_
        refine k_nrml (y := (31 * ((31 * (dgC x i)) + ((s_f x i).toInt64)))) (rfl) ?_
        refine lv_aload_n hx hb dX8_digest_256 rfl (lv_at hl 2 rfl) ?_
        refine va_get (D := D) (ci := 8) (v := .ref ms) (C := RX8) (T := TX8) (N := 12) hx hb ht inA_X8 hown hK hP 0 rfl rfl 0 (by decide) (ht _ lf_X8_7) (fun _ h9 => h9) rfl dX8_digest_257 ?_
        refine lv_bipush (v := 105) hx hb dX8_digest_260 (by decide) ?_
        refine lv_iload_n hx hb dX8_digest_262 rfl (lv_at hl 1 rfl) ?_
        refine lv_iadd hx hb dX8_digest_263 ?_
        refine k_nrm (y := (nI (105 + i))) (nI_add 105 i) ?_
        refine va_iald hx hb hK hP 1 0 rfl rfl (vp_in_nI (by omega) (by decide)) dX8_digest_264 ?_
        refine k_nrm (y := (s_g x i)) (by rw [nI_clamp (by omega)]; exact (q7 i (by omega)).2.1) ?_
        refine lv_i2l (v := (s_g x i).toInt64) hx hb dX8_digest_265 rfl ?_
        refine lv_ladd hx hb dX8_digest_266 ?_
        refine k_nrml (y := ((31 * ((31 * (dgC x i)) + ((s_f x i).toInt64))) + ((s_g x i).toInt64))) (rfl) ?_
        refine lv_lstore_n (lv' := [(1, .long ((31 * ((31 * (dgC x i)) + ((s_f x i).toInt64))) + ((s_g x i).toInt64))), (3, .int (nI i)), (0, .ref mo)]) hx hb dX8_digest_267 rfl hl (by decide) rfl (fun ls hl => ?_)
        refine lv_ldc2 (v := 31) hx hb hown (ht _ lx_X8_195) dX8_digest_268 ?_
        refine lv_lload_n hx hb dX8_digest_271 rfl (lv_at hl 0 rfl) ?_
        refine lv_lmul hx hb dX8_digest_272 ?_
        refine k_nrml (y := (31 * ((31 * ((31 * (dgC x i)) + ((s_f x i).toInt64))) + ((s_g x i).toInt64)))) (rfl) ?_
        refine lv_aload_n hx hb dX8_digest_273 rfl (lv_at hl 2 rfl) ?_
        refine va_get (D := D) (ci := 8) (v := .ref ms) (C := RX8) (T := TX8) (N := 12) hx hb ht inA_X8 hown hK hP 0 rfl rfl 0 (by decide) (ht _ lf_X8_7) (fun _ h9 => h9) rfl dX8_digest_274 ?_
        refine lv_bipush (v := 115) hx hb dX8_digest_277 (by decide) ?_
        refine lv_iload_n hx hb dX8_digest_279 rfl (lv_at hl 1 rfl) ?_
        refine lv_iadd hx hb dX8_digest_280 ?_
        refine k_nrm (y := (nI (115 + i))) (nI_add 115 i) ?_
        refine va_iald hx hb hK hP 1 0 rfl rfl (vp_in_nI (by omega) (by decide)) dX8_digest_281 ?_
        refine k_nrm (y := (s_c x i)) (by rw [nI_clamp (by omega)]; exact (q7 i (by omega)).2.2) ?_
        refine lv_i2l (v := (s_c x i).toInt64) hx hb dX8_digest_282 rfl ?_
        refine lv_ladd hx hb dX8_digest_283 ?_
        refine k_nrml (y := (dgC x (i + 1))) (rfl) ?_
        refine lv_lstore_n (lv' := [(1, .long (dgC x (i + 1))), (3, .int (nI i)), (0, .ref mo)]) hx hb dX8_digest_284 rfl hl (by decide) rfl (fun ls hl => ?_)
        obtain ⟨x_32, ex_32⟩ : ∃ z : Int32, z = (nI i) + 1 := ⟨_, rfl⟩
        refine lv_iinc (v := x_32) (lv' := [(3, .int x_32), (1, .long (dgC x (i + 1))), (0, .ref mo)]) hx hb dX8_digest_285 hl (k := 1) rfl (by rw [ex_32]; rfl) (by decide) rfl (fun ls hl => ?_)
        refine lv_goto (tgt := 223) hx hb dX8_digest_288 (by decide) ?_
        have he9 : x_32 = (nI (i + 1)) := by rw [ex_32]; exact nI_1 i
        rw [he9] at hl
        have hl : lv_has ls 4 [(3, .int (nI (i + 1))), (1, .long (dgC x (i + 1))), (0, .ref mo)] := hl
        exact ih9 ((i + 1, mlq, mfq, lq, fq)) H locs ls (by omega) ⟨hik, hP.sub [0, 1, 2, 3] rfl, hD.sub [0, 1, 2, 3] (by decide) rfl, hS, lv_sub hl [0, 1, 2] rfl⟩
    · have hc9 := c_30
      have hik : i + 1 ≤ s_tn x := by rcases Nat.lt_or_ge i (s_tn x) with q9 | q9; exact q9; exact absurd (nI_le q9 (by omega)) c_30
      refine lv_ldc2 (v := 31) hx hb hown (ht _ lx_X8_195) dX8_digest_198 ?_
      refine lv_lload_n hx hb dX8_digest_201 rfl (lv_at hl 1 rfl) ?_
      refine lv_lmul hx hb dX8_digest_202 ?_
      refine k_nrml (y := (31 * (dgT x i))) (rfl) ?_
      refine lv_aload_n hx hb dX8_digest_203 rfl (lv_at hl 2 rfl) ?_
      refine va_get (D := D) (ci := 8) (v := .ref ms) (C := RX8) (T := TX8) (N := 12) hx hb ht inA_X8 hown hK hP 0 rfl rfl 0 (by decide) (ht _ lf_X8_7) (fun _ h9 => h9) rfl dX8_digest_204 ?_
      refine lv_bipush (v := 52) hx hb dX8_digest_207 (by decide) ?_
      refine lv_iload_n hx hb dX8_digest_209 rfl (lv_at hl 0 rfl) ?_
      refine lv_iadd hx hb dX8_digest_210 ?_
      refine k_nrm (y := (nI (52 + i))) (nI_add 52 i) ?_
      refine va_iald hx hb hK hP 1 0 rfl rfl (vp_in_nI (by omega) (by decide)) dX8_digest_211 ?_
      refine k_nrm (y := (s_tf x i)) (by rw [nI_clamp (by omega)]; exact q4 i (by omega)) ?_
      refine lv_i2l (v := (s_tf x i).toInt64) hx hb dX8_digest_212 rfl ?_
      refine lv_ladd hx hb dX8_digest_213 ?_
      refine k_nrml (y := (dgT x (i + 1))) (rfl) ?_
      refine lv_lstore_n (lv' := [(1, .long (dgT x (i + 1))), (3, .int (nI i)), (0, .ref mo)]) hx hb dX8_digest_214 rfl hl (by decide) rfl (fun ls hl => ?_)
      obtain ⟨x_33, ex_33⟩ : ∃ z : Int32, z = (nI i) + 1 := ⟨_, rfl⟩
      refine lv_iinc (v := x_33) (lv' := [(3, .int x_33), (1, .long (dgT x (i + 1))), (0, .ref mo)]) hx hb dX8_digest_215 hl (k := 1) rfl (by rw [ex_33]; rfl) (by decide) rfl (fun ls hl => ?_)
      refine lv_goto (tgt := 187) hx hb dX8_digest_218 (by decide) ?_
      have he9 : x_33 = (nI (i + 1)) := by rw [ex_33]; exact nI_1 i
      rw [he9] at hl
      have hl : lv_has ls 4 [(3, .int (nI (i + 1))), (1, .long (dgT x (i + 1))), (0, .ref mo)] := hl
      exact ih9 ((i + 1, mlq, mfq, lq, fq)) H locs ls (by omega) ⟨hik, hP.sub [0, 1, 2, 3] rfl, hD.sub [0, 1, 2, 3] (by decide) rfl, hS, lv_sub hl [0, 1, 2] rfl⟩
  · have hc9 := c_29
    have hik : i + 1 ≤ s_ns x := by rcases Nat.lt_or_ge i (s_ns x) with q9 | q9; exact q9; exact absurd (nI_le q9 (by omega)) c_29
    refine lv_ldc2 (v := 31) hx hb hown (ht _ lx_X8_195) dX8_digest_136 ?_
    refine lv_lload_n hx hb dX8_digest_139 rfl (lv_at hl 1 rfl) ?_
    refine lv_lmul hx hb dX8_digest_140 ?_
    refine k_nrml (y := (31 * (dgL x i))) (rfl) ?_
    refine lv_aload_n hx hb dX8_digest_141 rfl (lv_at hl 2 rfl) ?_
    refine lv_iload_n hx hb dX8_digest_142 rfl (lv_at hl 0 rfl) ?_
    have ct := k_cut_of (wc := [(mo, .inr (8, [.ref ms, .int sv, .ref mb, .int ty, .int 0, .ref mk, .int mlq, .ref mfd, .int mfq, .int sp, .int on, .int tw])), (ms, .inl (K, 889, .inl sf))]) (wr := [(mk, .inl (K, 41, .inl lq)), (mfd, .inl (K, 9, .inl fq))]) (tc := [(K, .int)]) hG hS hA hK hP hD [2, 3] [0, 1] [0] rfl rfl (by decide) (by decide) (by decide) rfl
    refine k_endi (As := [.ref mo, .int (nI i)]) ct (k_runV (As := [.int (nI i)]) (rest := [.long (31 * (dgL x i))]) S0 Lv_X8_75 rfl (ci := 8) (q0 := 0) rfl rfl ct (c_M_width_ l D mo ms sv mb ty 0 mk mlq mfd mfq sp on tw K sf (s_nd x) (s_df x) (s_ns x) i hl1 (by first | assumption | omega) (by assumption) (by first | assumption | omega) (by assumption) (by assumption) H.size) hl.1 rfl (Nat.le_of_ble_eq_true rfl) rfl dX8_digest_143 ⟨⟨Nat.le_of_ble_eq_true rfl, Nat.le_of_ble_eq_true rfl⟩, Nat.le_of_ble_eq_true rfl, Nat.le_of_ble_eq_true rfl⟩) rfl rfl (fun r_34 _ H locs hw_35 hP hD hK hS => ?_)
    have hK : va_K D vwCl [(K, .int)] s := hK
    have hP : va_P D vwCl [(mk, .inl (K, 41, .inl lq)), (mfd, .inl (K, 9, .inl fq)), (mo, .inr (8, [.ref ms, .int sv, .ref mb, .int ty, .int 0, .ref mk, .int mlq, .ref mfd, .int mfq, .int sp, .int on, .int tw])), (ms, .inl (K, 889, .inl sf))] H := hP
    have hD : va_D A [(mk, .inl (K, 41, .inl lq)), (mfd, .inl (K, 9, .inl fq)), (mo, .inr (8, [.ref ms, .int sv, .ref mb, .int ty, .int 0, .ref mk, .int mlq, .ref mfd, .int mfq, .int sp, .int on, .int tw])), (ms, .inl (K, 889, .inl sf))] := hD
    have hw_35 : r_34 = (widF (s_nd x) (s_df x) (nI (s_ns x)) (nI i)) := hw_35
    have hw_35 := hw_35.symm
    subst hw_35
    refine k_nrm (y := (widF (s_nd x) (s_df x) (nI (s_ns x)) (nI i))) rfl ?_
    refine lv_i2l (v := (widF (s_nd x) (s_df x) (nI (s_ns x)) (nI i)).toInt64) hx hb dX8_digest_146 rfl ?_
    refine lv_ladd hx hb dX8_digest_147 ?_
    refine k_nrml (y := ((31 * (dgL x i)) + ((widF (s_nd x) (s_df x) (nI (s_ns x)) (nI i)).toInt64))) (rfl) ?_
    refine lv_lstore_n (lv' := [(1, .long ((31 * (dgL x i)) + ((widF (s_nd x) (s_df x) (nI (s_ns x)) (nI i)).toInt64))), (3, .int (nI i)), (0, .ref mo)]) hx hb dX8_digest_148 rfl hl (by decide) rfl (fun ls hl => ?_)
    refine lv_ldc2 (v := 31) hx hb hown (ht _ lx_X8_195) dX8_digest_149 ?_
    refine lv_lload_n hx hb dX8_digest_152 rfl (lv_at hl 0 rfl) ?_
    refine lv_lmul hx hb dX8_digest_153 ?_
    refine k_nrml (y := (31 * ((31 * (dgL x i)) + ((widF (s_nd x) (s_df x) (nI (s_ns x)) (nI i)).toInt64)))) (rfl) ?_
    refine lv_aload_n hx hb dX8_digest_154 rfl (lv_at hl 2 rfl) ?_
    refine va_get (D := D) (ci := 8) (v := .ref ms) (C := RX8) (T := TX8) (N := 12) hx hb ht inA_X8 hown hK hP 2 rfl rfl 0 (by decide) (ht _ lf_X8_7) (fun _ h9 => h9) rfl dX8_digest_155 ?_
    refine lv_bipush (v := 10) hx hb dX8_digest_158 (by decide) ?_
    refine lv_iload_n hx hb dX8_digest_160 rfl (lv_at hl 1 rfl) ?_
    refine lv_iadd hx hb dX8_digest_161 ?_
    refine k_nrm (y := (nI (10 + i))) (nI_add 10 i) ?_
    refine va_iald hx hb hK hP 3 0 rfl rfl (vp_in_nI (by omega) (by decide)) dX8_digest_162 ?_
    refine k_nrm (y := (s_zf x i)) (by rw [nI_clamp (by omega)]; exact q2 i (by omega)) ?_
    refine lv_i2l (v := (s_zf x i).toInt64) hx hb dX8_digest_163 rfl ?_
    refine lv_ladd hx hb dX8_digest_164 ?_
    refine k_nrml (y := ((31 * ((31 * (dgL x i)) + ((widF (s_nd x) (s_df x) (nI (s_ns x)) (nI i)).toInt64))) + ((s_zf x i).toInt64))) (rfl) ?_
    refine lv_lstore_n (lv' := [(1, .long ((31 * ((31 * (dgL x i)) + ((widF (s_nd x) (s_df x) (nI (s_ns x)) (nI i)).toInt64))) + ((s_zf x i).toInt64))), (3, .int (nI i)), (0, .ref mo)]) hx hb dX8_digest_165 rfl hl (by decide) rfl (fun ls hl => ?_)
    refine lv_ldc2 (v := 31) hx hb hown (ht _ lx_X8_195) dX8_digest_166 ?_
    refine lv_lload_n hx hb dX8_digest_169 rfl (lv_at hl 0 rfl) ?_
    refine lv_lmul hx hb dX8_digest_170 ?_
    refine k_nrml (y := (31 * ((31 * ((31 * (dgL x i)) + ((widF (s_nd x) (s_df x) (nI (s_ns x)) (nI i)).toInt64))) + ((s_zf x i).toInt64)))) (rfl) ?_
    refine lv_aload_n hx hb dX8_digest_171 rfl (lv_at hl 2 rfl) ?_
    refine lv_iload_n hx hb dX8_digest_172 rfl (lv_at hl 1 rfl) ?_
    have ct := k_cut_of (wc := [(mo, .inr (8, [.ref ms, .int sv, .ref mb, .int ty, .int 0, .ref mk, .int mlq, .ref mfd, .int mfq, .int sp, .int on, .int tw])), (ms, .inl (K, 889, .inl sf)), (mk, .inl (K, 41, .inl lq)), (mfd, .inl (K, 9, .inl fq))]) (wr := []) (tc := [(K, .int)]) hG hS hA hK hP hD [2, 3, 0, 1] [] [0] rfl rfl (by decide) (by decide) (by decide) rfl
    refine k_endi (As := [.ref mo, .int (nI i)]) ct (k_runV (As := [.int (nI i)]) (rest := [.long (31 * ((31 * ((31 * (dgL x i)) + ((widF (s_nd x) (s_df x) (nI (s_ns x)) (nI i)).toInt64))) + ((s_zf x i).toInt64)))]) S0 Lv_X8_144 rfl (ci := 8) (q0 := 0) rfl rfl ct (c_M_greatest l D mo ms sv mb ty 0 mk mlq mfd mfq sp on tw K sf lq fq x i hR9 (by assumption) hlx9 (by assumption) H.size) hl.1 rfl (Nat.le_of_ble_eq_true rfl) rfl dX8_digest_173 ⟨⟨Nat.le_of_ble_eq_true rfl, Nat.le_of_ble_eq_true rfl⟩, Nat.le_of_ble_eq_true rfl, Nat.le_of_ble_eq_true rfl⟩) rfl rfl (fun r_36 u H locs hw_41 hP hD hK hS => ?_)
    obtain ⟨ml1v_37, mf1v_38, lk1v_39, fd1v_40⟩ := u
    have hK : va_K D vwCl [(K, .int)] s := hK
    have hP : va_P D vwCl [(mo, .inr (8, [.ref ms, .int sv, .ref mb, .int ty, .int 0, .ref mk, .int ml1v_37, .ref mfd, .int mf1v_38, .int sp, .int on, .int tw])), (ms, .inl (K, 889, .inl sf)), (mk, .inl (K, 41, .inl lk1v_39)), (mfd, .inl (K, 9, .inl fd1v_40))] H := hP
    have hD : va_D A [(mo, .inr (8, [.ref ms, .int sv, .ref mb, .int ty, .int 0, .ref mk, .int ml1v_37, .ref mfd, .int mf1v_38, .int sp, .int on, .int tw])), (ms, .inl (K, 889, .inl sf)), (mk, .inl (K, 41, .inl lk1v_39)), (mfd, .inl (K, 9, .inl fd1v_40))] := hD
    have hw_41 : r_36 = (gsB x i 19) := hw_41
    have hw_41 := hw_41.symm
    subst hw_41
    refine k_nrm (y := (gsB x i 19)) rfl ?_
    refine lv_i2l (v := (gsB x i 19).toInt64) hx hb dX8_digest_176 rfl ?_
    refine lv_ladd hx hb dX8_digest_177 ?_
    refine k_nrml (y := (dgL x (i + 1))) (rfl) ?_
    refine lv_lstore_n (lv' := [(1, .long (dgL x (i + 1))), (3, .int (nI i)), (0, .ref mo)]) hx hb dX8_digest_178 rfl hl (by decide) rfl (fun ls hl => ?_)
    obtain ⟨x_42, ex_42⟩ : ∃ z : Int32, z = (nI i) + 1 := ⟨_, rfl⟩
    refine lv_iinc (v := x_42) (lv' := [(3, .int x_42), (1, .long (dgL x (i + 1))), (0, .ref mo)]) hx hb dX8_digest_179 hl (k := 1) rfl (by rw [ex_42]; rfl) (by decide) rfl (fun ls hl => ?_)
    refine lv_goto (tgt := 128) hx hb dX8_digest_182 (by decide) ?_
    have he9 : x_42 = (nI (i + 1)) := by rw [ex_42]; exact nI_1 i
    rw [he9] at hl
    have hl : lv_has ls 4 [(3, .int (nI (i + 1))), (1, .long (dgL x (i + 1))), (0, .ref mo)] := hl
    exact ih9 ((i + 1, ml1v_37, mf1v_38, lk1v_39, fd1v_40)) H locs ls (by omega) ⟨hik, hP.sub [0, 1, 2, 3] rfl, hD.sub [0, 1, 2, 3] (by decide) rfl, hS, lv_sub hl [0, 1, 2] rfl⟩
