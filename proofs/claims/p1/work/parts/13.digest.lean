set_option maxRecDepth 20000 in
theorem lx_X7_229 : Cond.constantLong RX7 229 4025 ∈ wsA := mA 455 rfl rfl
set_option maxRecDepth 20000 in
theorem lx_X7_231 : Cond.constantLong RX7 231 31 ∈ wsA := mA 456 rfl rfl
theorem lk_X7_elements : Cond.code yX7_elements cX7_elements 1 (some .int) ∈ wsA := mA 218 rfl rfl
theorem ly_X7_elements : k_y yX7_elements 0 := ⟨by decide +kernel, by decide +kernel, by decide +kernel⟩
theorem lm_X7_elements : Cond.instanceMethod yX7_elements ∈ wsA := mA 216 rfl rfl
theorem le_X7_elements : Cond.selects (yX7_elements).cls yX7_elements yX7_elements ∈ wsA := mA 217 rfl rfl
set_option maxRecDepth 20000 in
theorem Lv_X7_233 : k_LV RX7 233 yX7_elements cX7_elements 1 (some .int) 0 := ⟨mA 457 rfl rfl, lm_X7_elements, le_X7_elements, li_BarcodeWand, lk_X7_elements, ly_X7_elements⟩
set_option maxRecDepth 20000 in
theorem lk_X7_times : Cond.code yX7_times cX7_times 1 (some .int) ∈ wsA := mA 361 rfl rfl
theorem ly_X7_times : k_y yX7_times 0 := ⟨by decide +kernel, by decide +kernel, by decide +kernel⟩
set_option maxRecDepth 20000 in
theorem lm_X7_times : Cond.instanceMethod yX7_times ∈ wsA := mA 359 rfl rfl
set_option maxRecDepth 20000 in
theorem le_X7_times : Cond.selects (yX7_times).cls yX7_times yX7_times ∈ wsA := mA 360 rfl rfl
set_option maxRecDepth 20000 in
theorem Lv_X7_236 : k_LV RX7 236 yX7_times cX7_times 1 (some .int) 0 := ⟨mA 458 rfl rfl, lm_X7_times, le_X7_times, li_BarcodeWand, lk_X7_times, ly_X7_times⟩
set_option maxRecDepth 20000 in
theorem lk_X7_result : Cond.code yX7_result cX7_result 1 (some .int) ∈ wsA := mA 365 rfl rfl
theorem ly_X7_result : k_y yX7_result 0 := ⟨by decide +kernel, by decide +kernel, by decide +kernel⟩
set_option maxRecDepth 20000 in
theorem lm_X7_result : Cond.instanceMethod yX7_result ∈ wsA := mA 363 rfl rfl
set_option maxRecDepth 20000 in
theorem le_X7_result : Cond.selects (yX7_result).cls yX7_result yX7_result ∈ wsA := mA 364 rfl rfl
set_option maxRecDepth 20000 in
theorem Lv_X7_239 : k_LV RX7 239 yX7_result cX7_result 1 (some .int) 0 := ⟨mA 459 rfl rfl, lm_X7_result, le_X7_result, li_BarcodeWand, lk_X7_result, ly_X7_result⟩
set_option maxRecDepth 20000 in
theorem lk_X7_reason : Cond.code yX7_reason cX7_reason 2 (some .int) ∈ wsA := mA 369 rfl rfl
theorem ly_X7_reason : k_y yX7_reason 1 := ⟨by decide +kernel, by decide +kernel, by decide +kernel⟩
set_option maxRecDepth 20000 in
theorem lm_X7_reason : Cond.instanceMethod yX7_reason ∈ wsA := mA 367 rfl rfl
set_option maxRecDepth 20000 in
theorem le_X7_reason : Cond.selects (yX7_reason).cls yX7_reason yX7_reason ∈ wsA := mA 368 rfl rfl
set_option maxRecDepth 20000 in
theorem Lv_X7_242 : k_LV RX7 242 yX7_reason cX7_reason 2 (some .int) 1 := ⟨mA 460 rfl rfl, lm_X7_reason, le_X7_reason, li_BarcodeWand, lk_X7_reason, ly_X7_reason⟩
set_option maxRecDepth 20000 in
theorem lk_X7_leastTolerance : Cond.code yX7_leastTolerance cX7_leastTolerance 2 (some .int) ∈ wsA := mA 386 rfl rfl
theorem ly_X7_leastTolerance : k_y yX7_leastTolerance 0 := ⟨by decide +kernel, by decide +kernel, by decide +kernel⟩
set_option maxRecDepth 20000 in
theorem lm_X7_leastTolerance : Cond.instanceMethod yX7_leastTolerance ∈ wsA := mA 384 rfl rfl
set_option maxRecDepth 20000 in
theorem le_X7_leastTolerance : Cond.selects (yX7_leastTolerance).cls yX7_leastTolerance yX7_leastTolerance ∈ wsA := mA 385 rfl rfl
set_option maxRecDepth 20000 in
theorem Lv_X7_246 : k_LV RX7 246 yX7_leastTolerance cX7_leastTolerance 2 (some .int) 0 := ⟨mA 461 rfl rfl, lm_X7_leastTolerance, le_X7_leastTolerance, li_BarcodeWand, lk_X7_leastTolerance, ly_X7_leastTolerance⟩
set_option maxRecDepth 20000 in
theorem lk_X7_codes : Cond.code yX7_codes cX7_codes 1 (some .int) ∈ wsA := mA 374 rfl rfl
theorem ly_X7_codes : k_y yX7_codes 0 := ⟨by decide +kernel, by decide +kernel, by decide +kernel⟩
set_option maxRecDepth 20000 in
theorem lm_X7_codes : Cond.instanceMethod yX7_codes ∈ wsA := mA 372 rfl rfl
set_option maxRecDepth 20000 in
theorem le_X7_codes : Cond.selects (yX7_codes).cls yX7_codes yX7_codes ∈ wsA := mA 373 rfl rfl
set_option maxRecDepth 20000 in
theorem Lv_X7_249 : k_LV RX7 249 yX7_codes cX7_codes 1 (some .int) 0 := ⟨mA 462 rfl rfl, lm_X7_codes, le_X7_codes, li_BarcodeWand, lk_X7_codes, ly_X7_codes⟩
set_option maxRecDepth 20000 in
theorem lk_X7_successes : Cond.code yX7_successes cX7_successes 1 (some .int) ∈ wsA := mA 378 rfl rfl
theorem ly_X7_successes : k_y yX7_successes 0 := ⟨by decide +kernel, by decide +kernel, by decide +kernel⟩
set_option maxRecDepth 20000 in
theorem lm_X7_successes : Cond.instanceMethod yX7_successes ∈ wsA := mA 376 rfl rfl
set_option maxRecDepth 20000 in
theorem le_X7_successes : Cond.selects (yX7_successes).cls yX7_successes yX7_successes ∈ wsA := mA 377 rfl rfl
set_option maxRecDepth 20000 in
theorem Lv_X7_252 : k_LV RX7 252 yX7_successes cX7_successes 1 (some .int) 0 := ⟨mA 463 rfl rfl, lm_X7_successes, le_X7_successes, li_BarcodeWand, lk_X7_successes, ly_X7_successes⟩
set_option maxRecDepth 20000 in
theorem lk_X7_failures : Cond.code yX7_failures cX7_failures 1 (some .int) ∈ wsA := mA 382 rfl rfl
theorem ly_X7_failures : k_y yX7_failures 0 := ⟨by decide +kernel, by decide +kernel, by decide +kernel⟩
set_option maxRecDepth 20000 in
theorem lm_X7_failures : Cond.instanceMethod yX7_failures ∈ wsA := mA 380 rfl rfl
set_option maxRecDepth 20000 in
theorem le_X7_failures : Cond.selects (yX7_failures).cls yX7_failures yX7_failures ∈ wsA := mA 381 rfl rfl
set_option maxRecDepth 20000 in
theorem Lv_X7_254 : k_LV RX7 254 yX7_failures cX7_failures 1 (some .int) 0 := ⟨mA 464 rfl rfl, lm_X7_failures, le_X7_failures, li_BarcodeWand, lk_X7_failures, ly_X7_failures⟩
theorem dX7_digest_0 : decode cX7_digest 0 = .ok (.ldc2_w 229, 3) := by decide +kernel
theorem dX7_digest_3 : decode cX7_digest 3 = .ok (.lstore_n 1, 1) := by decide +kernel
theorem dX7_digest_4 : decode cX7_digest 4 = .ok (.ldc2_w 231, 3) := by decide +kernel
theorem dX7_digest_7 : decode cX7_digest 7 = .ok (.lload_n 1, 1) := by decide +kernel
theorem dX7_digest_8 : decode cX7_digest 8 = .ok (.lmul, 1) := by decide +kernel
theorem dX7_digest_9 : decode cX7_digest 9 = .ok (.aload_n 0, 1) := by decide +kernel
theorem dX7_digest_10 : decode cX7_digest 10 = .ok (.invokevirtual 233, 3) := by decide +kernel
theorem dX7_digest_13 : decode cX7_digest 13 = .ok (.i2l, 1) := by decide +kernel
theorem dX7_digest_14 : decode cX7_digest 14 = .ok (.ladd, 1) := by decide +kernel
theorem dX7_digest_15 : decode cX7_digest 15 = .ok (.lstore_n 1, 1) := by decide +kernel
theorem dX7_digest_16 : decode cX7_digest 16 = .ok (.ldc2_w 231, 3) := by decide +kernel
theorem dX7_digest_19 : decode cX7_digest 19 = .ok (.lload_n 1, 1) := by decide +kernel
theorem dX7_digest_20 : decode cX7_digest 20 = .ok (.lmul, 1) := by decide +kernel
theorem dX7_digest_21 : decode cX7_digest 21 = .ok (.aload_n 0, 1) := by decide +kernel
theorem dX7_digest_22 : decode cX7_digest 22 = .ok (.invokevirtual 236, 3) := by decide +kernel
theorem dX7_digest_25 : decode cX7_digest 25 = .ok (.i2l, 1) := by decide +kernel
theorem dX7_digest_26 : decode cX7_digest 26 = .ok (.ladd, 1) := by decide +kernel
theorem dX7_digest_27 : decode cX7_digest 27 = .ok (.lstore_n 1, 1) := by decide +kernel
theorem dX7_digest_28 : decode cX7_digest 28 = .ok (.ldc2_w 231, 3) := by decide +kernel
theorem dX7_digest_31 : decode cX7_digest 31 = .ok (.lload_n 1, 1) := by decide +kernel
theorem dX7_digest_32 : decode cX7_digest 32 = .ok (.lmul, 1) := by decide +kernel
theorem dX7_digest_33 : decode cX7_digest 33 = .ok (.aload_n 0, 1) := by decide +kernel
theorem dX7_digest_34 : decode cX7_digest 34 = .ok (.invokevirtual 239, 3) := by decide +kernel
theorem dX7_digest_37 : decode cX7_digest 37 = .ok (.i2l, 1) := by decide +kernel
theorem dX7_digest_38 : decode cX7_digest 38 = .ok (.ladd, 1) := by decide +kernel
theorem dX7_digest_39 : decode cX7_digest 39 = .ok (.lstore_n 1, 1) := by decide +kernel
theorem dX7_digest_40 : decode cX7_digest 40 = .ok (.ldc2_w 231, 3) := by decide +kernel
theorem dX7_digest_43 : decode cX7_digest 43 = .ok (.lload_n 1, 1) := by decide +kernel
theorem dX7_digest_44 : decode cX7_digest 44 = .ok (.lmul, 1) := by decide +kernel
theorem dX7_digest_45 : decode cX7_digest 45 = .ok (.aload_n 0, 1) := by decide +kernel
theorem dX7_digest_46 : decode cX7_digest 46 = .ok (.iconst 0, 1) := by decide +kernel
theorem dX7_digest_47 : decode cX7_digest 47 = .ok (.invokevirtual 242, 3) := by decide +kernel
theorem dX7_digest_50 : decode cX7_digest 50 = .ok (.i2l, 1) := by decide +kernel
theorem dX7_digest_51 : decode cX7_digest 51 = .ok (.ladd, 1) := by decide +kernel
theorem dX7_digest_52 : decode cX7_digest 52 = .ok (.lstore_n 1, 1) := by decide +kernel
theorem dX7_digest_53 : decode cX7_digest 53 = .ok (.ldc2_w 231, 3) := by decide +kernel
theorem dX7_digest_56 : decode cX7_digest 56 = .ok (.lload_n 1, 1) := by decide +kernel
theorem dX7_digest_57 : decode cX7_digest 57 = .ok (.lmul, 1) := by decide +kernel
theorem dX7_digest_58 : decode cX7_digest 58 = .ok (.aload_n 0, 1) := by decide +kernel
theorem dX7_digest_59 : decode cX7_digest 59 = .ok (.iconst 1, 1) := by decide +kernel
theorem dX7_digest_60 : decode cX7_digest 60 = .ok (.invokevirtual 242, 3) := by decide +kernel
theorem dX7_digest_63 : decode cX7_digest 63 = .ok (.i2l, 1) := by decide +kernel
theorem dX7_digest_64 : decode cX7_digest 64 = .ok (.ladd, 1) := by decide +kernel
theorem dX7_digest_65 : decode cX7_digest 65 = .ok (.lstore_n 1, 1) := by decide +kernel
theorem dX7_digest_66 : decode cX7_digest 66 = .ok (.ldc2_w 231, 3) := by decide +kernel
theorem dX7_digest_69 : decode cX7_digest 69 = .ok (.lload_n 1, 1) := by decide +kernel
theorem dX7_digest_70 : decode cX7_digest 70 = .ok (.lmul, 1) := by decide +kernel
theorem dX7_digest_71 : decode cX7_digest 71 = .ok (.aload_n 0, 1) := by decide +kernel
theorem dX7_digest_72 : decode cX7_digest 72 = .ok (.invokevirtual 246, 3) := by decide +kernel
theorem dX7_digest_75 : decode cX7_digest 75 = .ok (.i2l, 1) := by decide +kernel
theorem dX7_digest_76 : decode cX7_digest 76 = .ok (.ladd, 1) := by decide +kernel
theorem dX7_digest_77 : decode cX7_digest 77 = .ok (.lstore_n 1, 1) := by decide +kernel
theorem dX7_digest_78 : decode cX7_digest 78 = .ok (.ldc2_w 231, 3) := by decide +kernel
theorem dX7_digest_81 : decode cX7_digest 81 = .ok (.lload_n 1, 1) := by decide +kernel
theorem dX7_digest_82 : decode cX7_digest 82 = .ok (.lmul, 1) := by decide +kernel
theorem dX7_digest_83 : decode cX7_digest 83 = .ok (.aload_n 0, 1) := by decide +kernel
theorem dX7_digest_84 : decode cX7_digest 84 = .ok (.invokevirtual 249, 3) := by decide +kernel
theorem dX7_digest_87 : decode cX7_digest 87 = .ok (.i2l, 1) := by decide +kernel
theorem dX7_digest_88 : decode cX7_digest 88 = .ok (.ladd, 1) := by decide +kernel
theorem dX7_digest_89 : decode cX7_digest 89 = .ok (.lstore_n 1, 1) := by decide +kernel
theorem dX7_digest_90 : decode cX7_digest 90 = .ok (.ldc2_w 231, 3) := by decide +kernel
theorem dX7_digest_93 : decode cX7_digest 93 = .ok (.lload_n 1, 1) := by decide +kernel
theorem dX7_digest_94 : decode cX7_digest 94 = .ok (.lmul, 1) := by decide +kernel
theorem dX7_digest_95 : decode cX7_digest 95 = .ok (.aload_n 0, 1) := by decide +kernel
theorem dX7_digest_96 : decode cX7_digest 96 = .ok (.invokevirtual 252, 3) := by decide +kernel
theorem dX7_digest_99 : decode cX7_digest 99 = .ok (.i2l, 1) := by decide +kernel
theorem dX7_digest_100 : decode cX7_digest 100 = .ok (.ladd, 1) := by decide +kernel
theorem dX7_digest_101 : decode cX7_digest 101 = .ok (.lstore_n 1, 1) := by decide +kernel
theorem dX7_digest_102 : decode cX7_digest 102 = .ok (.ldc2_w 231, 3) := by decide +kernel
theorem dX7_digest_105 : decode cX7_digest 105 = .ok (.lload_n 1, 1) := by decide +kernel
theorem dX7_digest_106 : decode cX7_digest 106 = .ok (.lmul, 1) := by decide +kernel
theorem dX7_digest_107 : decode cX7_digest 107 = .ok (.aload_n 0, 1) := by decide +kernel
theorem dX7_digest_108 : decode cX7_digest 108 = .ok (.invokevirtual 254, 3) := by decide +kernel
theorem dX7_digest_111 : decode cX7_digest 111 = .ok (.i2l, 1) := by decide +kernel
theorem dX7_digest_112 : decode cX7_digest 112 = .ok (.ladd, 1) := by decide +kernel
theorem dX7_digest_113 : decode cX7_digest 113 = .ok (.lstore_n 1, 1) := by decide +kernel
theorem dX7_digest_114 : decode cX7_digest 114 = .ok (.iconst 0, 1) := by decide +kernel
theorem dX7_digest_115 : decode cX7_digest 115 = .ok (.istore_n 3, 1) := by decide +kernel
theorem dX7_digest_116 : decode cX7_digest 116 = .ok (.iload_n 3, 1) := by decide +kernel
theorem dX7_digest_117 : decode cX7_digest 117 = .ok (.aload_n 0, 1) := by decide +kernel
theorem dX7_digest_118 : decode cX7_digest 118 = .ok (.getfield 10, 3) := by decide +kernel
theorem dX7_digest_121 : decode cX7_digest 121 = .ok (.getfield 66, 3) := by decide +kernel
theorem dX7_digest_124 : decode cX7_digest 124 = .ok (.invokevirtual 93, 3) := by decide +kernel
theorem dX7_digest_127 : decode cX7_digest 127 = .ok (.if_icmp .ge 63, 3) := by decide +kernel
theorem dX7_digest_130 : decode cX7_digest 130 = .ok (.ldc2_w 231, 3) := by decide +kernel
theorem dX7_digest_133 : decode cX7_digest 133 = .ok (.lload_n 1, 1) := by decide +kernel
theorem dX7_digest_134 : decode cX7_digest 134 = .ok (.lmul, 1) := by decide +kernel
theorem dX7_digest_135 : decode cX7_digest 135 = .ok (.aload_n 0, 1) := by decide +kernel
theorem dX7_digest_136 : decode cX7_digest 136 = .ok (.getfield 10, 3) := by decide +kernel
theorem dX7_digest_139 : decode cX7_digest 139 = .ok (.getfield 66, 3) := by decide +kernel
theorem dX7_digest_142 : decode cX7_digest 142 = .ok (.iload_n 3, 1) := by decide +kernel
theorem dX7_digest_143 : decode cX7_digest 143 = .ok (.invokevirtual 97, 3) := by decide +kernel
theorem dX7_digest_146 : decode cX7_digest 146 = .ok (.i2l, 1) := by decide +kernel
theorem dX7_digest_147 : decode cX7_digest 147 = .ok (.ladd, 1) := by decide +kernel
theorem dX7_digest_148 : decode cX7_digest 148 = .ok (.lstore_n 1, 1) := by decide +kernel
theorem dX7_digest_149 : decode cX7_digest 149 = .ok (.ldc2_w 231, 3) := by decide +kernel
theorem dX7_digest_152 : decode cX7_digest 152 = .ok (.lload_n 1, 1) := by decide +kernel
theorem dX7_digest_153 : decode cX7_digest 153 = .ok (.lmul, 1) := by decide +kernel
theorem dX7_digest_154 : decode cX7_digest 154 = .ok (.aload_n 0, 1) := by decide +kernel
theorem dX7_digest_155 : decode cX7_digest 155 = .ok (.getfield 10, 3) := by decide +kernel
theorem dX7_digest_158 : decode cX7_digest 158 = .ok (.getfield 66, 3) := by decide +kernel
theorem dX7_digest_161 : decode cX7_digest 161 = .ok (.getfield 87, 3) := by decide +kernel
theorem dX7_digest_164 : decode cX7_digest 164 = .ok (.iload_n 3, 1) := by decide +kernel
theorem dX7_digest_165 : decode cX7_digest 165 = .ok (.invokevirtual 79, 3) := by decide +kernel
theorem dX7_digest_168 : decode cX7_digest 168 = .ok (.i2l, 1) := by decide +kernel
theorem dX7_digest_169 : decode cX7_digest 169 = .ok (.ladd, 1) := by decide +kernel
theorem dX7_digest_170 : decode cX7_digest 170 = .ok (.lstore_n 1, 1) := by decide +kernel
theorem dX7_digest_171 : decode cX7_digest 171 = .ok (.ldc2_w 231, 3) := by decide +kernel
theorem dX7_digest_174 : decode cX7_digest 174 = .ok (.lload_n 1, 1) := by decide +kernel
theorem dX7_digest_175 : decode cX7_digest 175 = .ok (.lmul, 1) := by decide +kernel
theorem dX7_digest_176 : decode cX7_digest 176 = .ok (.aload_n 0, 1) := by decide +kernel
theorem dX7_digest_177 : decode cX7_digest 177 = .ok (.iload_n 3, 1) := by decide +kernel
theorem dX7_digest_178 : decode cX7_digest 178 = .ok (.invokevirtual 256, 3) := by decide +kernel
theorem dX7_digest_181 : decode cX7_digest 181 = .ok (.i2l, 1) := by decide +kernel
theorem dX7_digest_182 : decode cX7_digest 182 = .ok (.ladd, 1) := by decide +kernel
theorem dX7_digest_183 : decode cX7_digest 183 = .ok (.lstore_n 1, 1) := by decide +kernel
theorem dX7_digest_184 : decode cX7_digest 184 = .ok (.iinc 3 1, 3) := by decide +kernel
theorem dX7_digest_187 : decode cX7_digest 187 = .ok (.goto (-71), 3) := by decide +kernel
theorem dX7_digest_190 : decode cX7_digest 190 = .ok (.iconst 0, 1) := by decide +kernel
theorem dX7_digest_191 : decode cX7_digest 191 = .ok (.istore_n 3, 1) := by decide +kernel
theorem dX7_digest_192 : decode cX7_digest 192 = .ok (.iload_n 3, 1) := by decide +kernel
theorem dX7_digest_193 : decode cX7_digest 193 = .ok (.aload_n 0, 1) := by decide +kernel
theorem dX7_digest_194 : decode cX7_digest 194 = .ok (.getfield 10, 3) := by decide +kernel
theorem dX7_digest_197 : decode cX7_digest 197 = .ok (.getfield 112, 3) := by decide +kernel
theorem dX7_digest_200 : decode cX7_digest 200 = .ok (.invokevirtual 136, 3) := by decide +kernel
theorem dX7_digest_203 : decode cX7_digest 203 = .ok (.if_icmp .ge 28, 3) := by decide +kernel
theorem dX7_digest_206 : decode cX7_digest 206 = .ok (.ldc2_w 231, 3) := by decide +kernel
theorem dX7_digest_209 : decode cX7_digest 209 = .ok (.lload_n 1, 1) := by decide +kernel
theorem dX7_digest_210 : decode cX7_digest 210 = .ok (.lmul, 1) := by decide +kernel
theorem dX7_digest_211 : decode cX7_digest 211 = .ok (.aload_n 0, 1) := by decide +kernel
theorem dX7_digest_212 : decode cX7_digest 212 = .ok (.getfield 10, 3) := by decide +kernel
theorem dX7_digest_215 : decode cX7_digest 215 = .ok (.getfield 112, 3) := by decide +kernel
theorem dX7_digest_218 : decode cX7_digest 218 = .ok (.iload_n 3, 1) := by decide +kernel
theorem dX7_digest_219 : decode cX7_digest 219 = .ok (.invokevirtual 79, 3) := by decide +kernel
theorem dX7_digest_222 : decode cX7_digest 222 = .ok (.i2l, 1) := by decide +kernel
theorem dX7_digest_223 : decode cX7_digest 223 = .ok (.ladd, 1) := by decide +kernel
theorem dX7_digest_224 : decode cX7_digest 224 = .ok (.lstore_n 1, 1) := by decide +kernel
theorem dX7_digest_225 : decode cX7_digest 225 = .ok (.iinc 3 1, 3) := by decide +kernel
theorem dX7_digest_228 : decode cX7_digest 228 = .ok (.goto (-36), 3) := by decide +kernel
theorem dX7_digest_231 : decode cX7_digest 231 = .ok (.iconst 0, 1) := by decide +kernel
theorem dX7_digest_232 : decode cX7_digest 232 = .ok (.istore_n 3, 1) := by decide +kernel
theorem dX7_digest_233 : decode cX7_digest 233 = .ok (.iload_n 3, 1) := by decide +kernel
theorem dX7_digest_234 : decode cX7_digest 234 = .ok (.aload_n 0, 1) := by decide +kernel
theorem dX7_digest_235 : decode cX7_digest 235 = .ok (.getfield 10, 3) := by decide +kernel
theorem dX7_digest_238 : decode cX7_digest 238 = .ok (.getfield 171, 3) := by decide +kernel
theorem dX7_digest_241 : decode cX7_digest 241 = .ok (.getfield 175, 3) := by decide +kernel
theorem dX7_digest_244 : decode cX7_digest 244 = .ok (.invokevirtual 136, 3) := by decide +kernel
theorem dX7_digest_247 : decode cX7_digest 247 = .ok (.if_icmp .ge 75, 3) := by decide +kernel
theorem dX7_digest_250 : decode cX7_digest 250 = .ok (.ldc2_w 231, 3) := by decide +kernel
theorem dX7_digest_253 : decode cX7_digest 253 = .ok (.lload_n 1, 1) := by decide +kernel
theorem dX7_digest_254 : decode cX7_digest 254 = .ok (.lmul, 1) := by decide +kernel
theorem dX7_digest_255 : decode cX7_digest 255 = .ok (.aload_n 0, 1) := by decide +kernel
theorem dX7_digest_256 : decode cX7_digest 256 = .ok (.getfield 10, 3) := by decide +kernel
theorem dX7_digest_259 : decode cX7_digest 259 = .ok (.getfield 171, 3) := by decide +kernel
theorem dX7_digest_262 : decode cX7_digest 262 = .ok (.getfield 175, 3) := by decide +kernel
theorem dX7_digest_265 : decode cX7_digest 265 = .ok (.iload_n 3, 1) := by decide +kernel
theorem dX7_digest_266 : decode cX7_digest 266 = .ok (.invokevirtual 79, 3) := by decide +kernel
theorem dX7_digest_269 : decode cX7_digest 269 = .ok (.i2l, 1) := by decide +kernel
theorem dX7_digest_270 : decode cX7_digest 270 = .ok (.ladd, 1) := by decide +kernel
theorem dX7_digest_271 : decode cX7_digest 271 = .ok (.lstore_n 1, 1) := by decide +kernel
theorem dX7_digest_272 : decode cX7_digest 272 = .ok (.ldc2_w 231, 3) := by decide +kernel
theorem dX7_digest_275 : decode cX7_digest 275 = .ok (.lload_n 1, 1) := by decide +kernel
theorem dX7_digest_276 : decode cX7_digest 276 = .ok (.lmul, 1) := by decide +kernel
theorem dX7_digest_277 : decode cX7_digest 277 = .ok (.aload_n 0, 1) := by decide +kernel
theorem dX7_digest_278 : decode cX7_digest 278 = .ok (.getfield 10, 3) := by decide +kernel
theorem dX7_digest_281 : decode cX7_digest 281 = .ok (.getfield 171, 3) := by decide +kernel
theorem dX7_digest_284 : decode cX7_digest 284 = .ok (.getfield 183, 3) := by decide +kernel
theorem dX7_digest_287 : decode cX7_digest 287 = .ok (.iload_n 3, 1) := by decide +kernel
theorem dX7_digest_288 : decode cX7_digest 288 = .ok (.invokevirtual 79, 3) := by decide +kernel
theorem dX7_digest_291 : decode cX7_digest 291 = .ok (.i2l, 1) := by decide +kernel
theorem dX7_digest_292 : decode cX7_digest 292 = .ok (.ladd, 1) := by decide +kernel
theorem dX7_digest_293 : decode cX7_digest 293 = .ok (.lstore_n 1, 1) := by decide +kernel
theorem dX7_digest_294 : decode cX7_digest 294 = .ok (.ldc2_w 231, 3) := by decide +kernel
theorem dX7_digest_297 : decode cX7_digest 297 = .ok (.lload_n 1, 1) := by decide +kernel
theorem dX7_digest_298 : decode cX7_digest 298 = .ok (.lmul, 1) := by decide +kernel
theorem dX7_digest_299 : decode cX7_digest 299 = .ok (.aload_n 0, 1) := by decide +kernel
theorem dX7_digest_300 : decode cX7_digest 300 = .ok (.getfield 10, 3) := by decide +kernel
theorem dX7_digest_303 : decode cX7_digest 303 = .ok (.getfield 171, 3) := by decide +kernel
theorem dX7_digest_306 : decode cX7_digest 306 = .ok (.getfield 186, 3) := by decide +kernel
theorem dX7_digest_309 : decode cX7_digest 309 = .ok (.iload_n 3, 1) := by decide +kernel
theorem dX7_digest_310 : decode cX7_digest 310 = .ok (.invokevirtual 79, 3) := by decide +kernel
theorem dX7_digest_313 : decode cX7_digest 313 = .ok (.i2l, 1) := by decide +kernel
theorem dX7_digest_314 : decode cX7_digest 314 = .ok (.ladd, 1) := by decide +kernel
theorem dX7_digest_315 : decode cX7_digest 315 = .ok (.lstore_n 1, 1) := by decide +kernel
theorem dX7_digest_316 : decode cX7_digest 316 = .ok (.iinc 3 1, 3) := by decide +kernel
theorem dX7_digest_319 : decode cX7_digest 319 = .ok (.goto (-86), 3) := by decide +kernel
theorem dX7_digest_322 : decode cX7_digest 322 = .ok (.lload_n 1, 1) := by decide +kernel
theorem dX7_digest_323 : decode cX7_digest 323 = .ok (.lreturn, 1) := by decide +kernel
set_option maxHeartbeats 4000000 in
set_option maxRecDepth 100000 in
theorem c_W_digest (l : Launch) (D : va_G) (w : Nat) (st : Nat) (hi : Nat) (re : Nat) (fo : Nat) (bu : Nat) (pa : Nat) (la : Nat) (me : Nat) (li : Nat) (tol : Int32) (ld : Nat) (lz : Nat) (ldA : Nat) (lzA : Nat) (meA : Nat) (ln : Nat) (ll : Nat) (lc : Nat) (lnA : Nat) (llA : Nat) (lcA : Nat) (rd : Nat) (nd : Int32) (rl : Nat) (ldi : Int32) (sot : Int32) (tie : Int32) (ff : Int32) (ft : Int32) (rdA : Nat) (rdN : Int32) (rlA : Nat) (rlN : Int32) (sz : Nat) : k_Ml (S := Unit) l D yX7_digest cX7_digest 4 (some .long) 5 0 0 114 [.ref w] [(w, .inr (7, [.ref st, .ref hi, .ref re, .ref fo, .ref bu, .ref pa])), (st, .inr (6, [.ref la, .ref me, .ref li, .int tol, .int 0, .int 0])), (la, .inr (2, [.ref ld, .ref lz])), (ld, .inr (4, [.ref ldA, .int 0])), (lz, .inr (4, [.ref lzA, .int 0])), (me, .inr (4, [.ref meA, .int 0])), (li, .inr (0, [.ref ln, .ref ll, .ref lc])), (ln, .inr (4, [.ref lnA, .int 0])), (ll, .inr (4, [.ref llA, .int 0])), (lc, .inr (4, [.ref lcA, .int 0])), (re, .inr (3, [.ref rd, .int nd, .ref rl, .int ldi, .int sot, .int tie, .int ff, .int ft])), (rd, .inr (4, [.ref rdA, .int rdN])), (rl, .inr (4, [.ref rlA, .int rlN]))] [] (fun (r : Int64) (_ : Unit) => r = 106419480113727337) (fun _ => [(w, .inr (7, [.ref st, .ref hi, .ref re, .ref fo, .ref bu, .ref pa])), (st, .inr (6, [.ref la, .ref me, .ref li, .int tol, .int 0, .int 0])), (la, .inr (2, [.ref ld, .ref lz])), (ld, .inr (4, [.ref ldA, .int 0])), (lz, .inr (4, [.ref lzA, .int 0])), (me, .inr (4, [.ref meA, .int 0])), (li, .inr (0, [.ref ln, .ref ll, .ref lc])), (ln, .inr (4, [.ref lnA, .int 0])), (ll, .inr (4, [.ref llA, .int 0])), (lc, .inr (4, [.ref lcA, .int 0])), (re, .inr (3, [.ref rd, .int nd, .ref rl, .int ldi, .int sot, .int tie, .int 0, .int 0])), (rd, .inr (4, [.ref rdA, .int 0])), (rl, .inr (4, [.ref rlA, .int 0]))]) (fun _ => []) sz := by
  refine Met.ofW (cc := cX7_digest) (maxL := 4) (ret := (some .long)) (by decide) rfl ?_
  intro p e s m args below meth c s₁ B hml hv
  obtain ⟨rfl, hsz, hP, hK, hD0, hG⟩ := hv
  have hx := B.exec
  have hb := B.bytes
  have hr := B.returns
  have ht : ∀ v9 ∈ wsA, v9.before ([.ref w] : List Value).toArray s = true := fun v9 h9 => atoms_spec (ws := k_ws yX7_digest cX7_digest 4 (some .long)) B.pre v9 (List.mem_cons_of_mem _ h9)
  have hown : s.vm.findClass RX7 = some m.cls := findClass_of_methodNamed B.named
  have S0 : k_C p s m ([.ref w] : List Value).toArray c cX7_digest 4 RX7 := ⟨hx, hb, hml, hown, ht⟩
  have hlocks := B.notSynchronized
  subst hsz
  have hD := hD0.self (sz := s.heap.size)
  generalize hAe : va_A [(w, .inr (7, [.ref st, .ref hi, .ref re, .ref fo, .ref bu, .ref pa])), (st, .inr (6, [.ref la, .ref me, .ref li, .int tol, .int 0, .int 0])), (la, .inr (2, [.ref ld, .ref lz])), (ld, .inr (4, [.ref ldA, .int 0])), (lz, .inr (4, [.ref lzA, .int 0])), (me, .inr (4, [.ref meA, .int 0])), (li, .inr (0, [.ref ln, .ref ll, .ref lc])), (ln, .inr (4, [.ref lnA, .int 0])), (ll, .inr (4, [.ref llA, .int 0])), (lc, .inr (4, [.ref lcA, .int 0])), (re, .inr (3, [.ref rd, .int nd, .ref rl, .int ldi, .int sot, .int tie, .int ff, .int ft])), (rd, .inr (4, [.ref rdA, .int rdN])), (rl, .inr (4, [.ref rlA, .int rlN]))] s.heap.size = A at hD hG ⊢
  have hA : ∀ q : Nat, s.heap.size ≤ q → A q := fun q h => by rw [← hAe]; exact Or.inr h
  have hS : va_S A s.heap s.heap [] := va_S.rf
  have hl := lv_entry ([.ref w]) (n := 4) (Nat.le_of_ble_eq_true rfl)
  rw [lg_entry_eq]
  generalize (lg_sl ([.ref w]) ++ List.replicate (4 - (lg_sl ([.ref w])).length) Slot.unset).toArray = ls at hl ⊢
  have hl : lv_has ls 4 [(0, .ref w)] := hl
  have hP : va_P D vwCl [(w, .inr (7, [.ref st, .ref hi, .ref re, .ref fo, .ref bu, .ref pa])), (st, .inr (6, [.ref la, .ref me, .ref li, .int tol, .int 0, .int 0])), (la, .inr (2, [.ref ld, .ref lz])), (ld, .inr (4, [.ref ldA, .int 0])), (lz, .inr (4, [.ref lzA, .int 0])), (me, .inr (4, [.ref meA, .int 0])), (li, .inr (0, [.ref ln, .ref ll, .ref lc])), (ln, .inr (4, [.ref lnA, .int 0])), (ll, .inr (4, [.ref llA, .int 0])), (lc, .inr (4, [.ref lcA, .int 0])), (re, .inr (3, [.ref rd, .int nd, .ref rl, .int ldi, .int sot, .int tie, .int ff, .int ft])), (rd, .inr (4, [.ref rdA, .int rdN])), (rl, .inr (4, [.ref rlA, .int rlN]))] s.heap := hP
  refine lv_ldc2 (v := 4025) hx hb hown (ht _ lx_X7_229) dX7_digest_0 ?_
  refine lv_lstore_n (lv' := [(1, .long 4025), (0, .ref w)]) hx hb dX7_digest_3 rfl hl (by decide) rfl (fun ls hl => ?_)
  refine lv_ldc2 (v := 31) hx hb hown (ht _ lx_X7_231) dX7_digest_4 ?_
  refine lv_lload_n hx hb dX7_digest_7 rfl (lv_at hl 0 rfl) ?_
  refine lv_lmul hx hb dX7_digest_8 ?_
  refine k_nrml (y := 124775) (by decide) ?_
  refine lv_aload_n hx hb dX7_digest_9 rfl (lv_at hl 1 rfl) ?_
  have ct := k_cut_of (wc := [(w, .inr (7, [.ref st, .ref hi, .ref re, .ref fo, .ref bu, .ref pa])), (st, .inr (6, [.ref la, .ref me, .ref li, .int tol, .int 0, .int 0])), (la, .inr (2, [.ref ld, .ref lz])), (lz, .inr (4, [.ref lzA, .int 0]))]) (wr := [(ld, .inr (4, [.ref ldA, .int 0])), (me, .inr (4, [.ref meA, .int 0])), (li, .inr (0, [.ref ln, .ref ll, .ref lc])), (ln, .inr (4, [.ref lnA, .int 0])), (ll, .inr (4, [.ref llA, .int 0])), (lc, .inr (4, [.ref lcA, .int 0])), (re, .inr (3, [.ref rd, .int nd, .ref rl, .int ldi, .int sot, .int tie, .int ff, .int ft])), (rd, .inr (4, [.ref rdA, .int rdN])), (rl, .inr (4, [.ref rlA, .int rlN]))]) (tc := []) hG hS hA hK hP hD [0, 1, 2, 4] [3, 5, 6, 7, 8, 9, 10, 11, 12] [] rfl rfl (by decide) (by decide) (by decide) rfl
  refine k_endi (As := [.ref w]) ct (k_runV (As := []) (rest := [.long 124775]) S0 Lv_X7_233 rfl (ci := 7) (q0 := 0) rfl rfl ct (c_W_elements l D w st hi re fo bu pa la me li tol 0 0 ld lz lzA s.heap.size) hl.1 rfl (Nat.le_of_ble_eq_true rfl) rfl dX7_digest_10 ⟨⟨Nat.le_of_ble_eq_true rfl, Nat.le_of_ble_eq_true rfl⟩, Nat.le_of_ble_eq_true rfl, Nat.le_of_ble_eq_true rfl⟩) rfl rfl (fun r_1 _ H locs hw_2 hP hD hK hS => ?_)
  have hK : va_K D vwCl [] s := hK
  have hP : va_P D vwCl [(ld, .inr (4, [.ref ldA, .int 0])), (me, .inr (4, [.ref meA, .int 0])), (li, .inr (0, [.ref ln, .ref ll, .ref lc])), (ln, .inr (4, [.ref lnA, .int 0])), (ll, .inr (4, [.ref llA, .int 0])), (lc, .inr (4, [.ref lcA, .int 0])), (re, .inr (3, [.ref rd, .int nd, .ref rl, .int ldi, .int sot, .int tie, .int ff, .int ft])), (rd, .inr (4, [.ref rdA, .int rdN])), (rl, .inr (4, [.ref rlA, .int rlN])), (w, .inr (7, [.ref st, .ref hi, .ref re, .ref fo, .ref bu, .ref pa])), (st, .inr (6, [.ref la, .ref me, .ref li, .int tol, .int 0, .int 0])), (la, .inr (2, [.ref ld, .ref lz])), (lz, .inr (4, [.ref lzA, .int 0]))] H := hP
  have hD : va_D A [(ld, .inr (4, [.ref ldA, .int 0])), (me, .inr (4, [.ref meA, .int 0])), (li, .inr (0, [.ref ln, .ref ll, .ref lc])), (ln, .inr (4, [.ref lnA, .int 0])), (ll, .inr (4, [.ref llA, .int 0])), (lc, .inr (4, [.ref lcA, .int 0])), (re, .inr (3, [.ref rd, .int nd, .ref rl, .int ldi, .int sot, .int tie, .int ff, .int ft])), (rd, .inr (4, [.ref rdA, .int rdN])), (rl, .inr (4, [.ref rlA, .int rlN])), (w, .inr (7, [.ref st, .ref hi, .ref re, .ref fo, .ref bu, .ref pa])), (st, .inr (6, [.ref la, .ref me, .ref li, .int tol, .int 0, .int 0])), (la, .inr (2, [.ref ld, .ref lz])), (lz, .inr (4, [.ref lzA, .int 0]))] := hD
  have hw_2 : r_1 = 0 := hw_2
  have hw_2 := hw_2.symm
  subst hw_2
  refine k_nrm (y := 0) rfl ?_
  refine lv_i2l (v := 0) hx hb dX7_digest_13 (by decide) ?_
  refine lv_ladd hx hb dX7_digest_14 ?_
  refine k_nrml (y := 124775) (by decide) ?_
  refine lv_lstore_n (lv' := [(1, .long 124775), (0, .ref w)]) hx hb dX7_digest_15 rfl hl (by decide) rfl (fun ls hl => ?_)
  refine lv_ldc2 (v := 31) hx hb hown (ht _ lx_X7_231) dX7_digest_16 ?_
  refine lv_lload_n hx hb dX7_digest_19 rfl (lv_at hl 0 rfl) ?_
  refine lv_lmul hx hb dX7_digest_20 ?_
  refine k_nrml (y := 3868025) (by decide) ?_
  refine lv_aload_n hx hb dX7_digest_21 rfl (lv_at hl 1 rfl) ?_
  have ct := k_cut_of (wc := [(w, .inr (7, [.ref st, .ref hi, .ref re, .ref fo, .ref bu, .ref pa])), (st, .inr (6, [.ref la, .ref me, .ref li, .int tol, .int 0, .int 0])), (me, .inr (4, [.ref meA, .int 0]))]) (wr := [(ld, .inr (4, [.ref ldA, .int 0])), (li, .inr (0, [.ref ln, .ref ll, .ref lc])), (ln, .inr (4, [.ref lnA, .int 0])), (ll, .inr (4, [.ref llA, .int 0])), (lc, .inr (4, [.ref lcA, .int 0])), (re, .inr (3, [.ref rd, .int nd, .ref rl, .int ldi, .int sot, .int tie, .int ff, .int ft])), (rd, .inr (4, [.ref rdA, .int rdN])), (rl, .inr (4, [.ref rlA, .int rlN])), (la, .inr (2, [.ref ld, .ref lz])), (lz, .inr (4, [.ref lzA, .int 0]))]) (tc := []) hG hS hA hK hP hD [9, 10, 1] [0, 2, 3, 4, 5, 6, 7, 8, 11, 12] [] rfl rfl (by decide) (by decide) (by decide) rfl
  refine k_endi (As := [.ref w]) ct (k_runV (As := []) (rest := [.long 3868025]) S0 Lv_X7_236 rfl (ci := 7) (q0 := 0) rfl rfl ct (c_W_times l D w st hi re fo bu pa la me li tol 0 0 meA H.size) hl.1 rfl (Nat.le_of_ble_eq_true rfl) rfl dX7_digest_22 ⟨⟨Nat.le_of_ble_eq_true rfl, Nat.le_of_ble_eq_true rfl⟩, Nat.le_of_ble_eq_true rfl, Nat.le_of_ble_eq_true rfl⟩) rfl rfl (fun r_3 _ H locs hw_4 hP hD hK hS => ?_)
  have hK : va_K D vwCl [] s := hK
  have hP : va_P D vwCl [(ld, .inr (4, [.ref ldA, .int 0])), (li, .inr (0, [.ref ln, .ref ll, .ref lc])), (ln, .inr (4, [.ref lnA, .int 0])), (ll, .inr (4, [.ref llA, .int 0])), (lc, .inr (4, [.ref lcA, .int 0])), (re, .inr (3, [.ref rd, .int nd, .ref rl, .int ldi, .int sot, .int tie, .int ff, .int ft])), (rd, .inr (4, [.ref rdA, .int rdN])), (rl, .inr (4, [.ref rlA, .int rlN])), (la, .inr (2, [.ref ld, .ref lz])), (lz, .inr (4, [.ref lzA, .int 0])), (w, .inr (7, [.ref st, .ref hi, .ref re, .ref fo, .ref bu, .ref pa])), (st, .inr (6, [.ref la, .ref me, .ref li, .int tol, .int 0, .int 0])), (me, .inr (4, [.ref meA, .int 0]))] H := hP
  have hD : va_D A [(ld, .inr (4, [.ref ldA, .int 0])), (li, .inr (0, [.ref ln, .ref ll, .ref lc])), (ln, .inr (4, [.ref lnA, .int 0])), (ll, .inr (4, [.ref llA, .int 0])), (lc, .inr (4, [.ref lcA, .int 0])), (re, .inr (3, [.ref rd, .int nd, .ref rl, .int ldi, .int sot, .int tie, .int ff, .int ft])), (rd, .inr (4, [.ref rdA, .int rdN])), (rl, .inr (4, [.ref rlA, .int rlN])), (la, .inr (2, [.ref ld, .ref lz])), (lz, .inr (4, [.ref lzA, .int 0])), (w, .inr (7, [.ref st, .ref hi, .ref re, .ref fo, .ref bu, .ref pa])), (st, .inr (6, [.ref la, .ref me, .ref li, .int tol, .int 0, .int 0])), (me, .inr (4, [.ref meA, .int 0]))] := hD
  have hw_4 : r_3 = 0 := hw_4
  have hw_4 := hw_4.symm
  subst hw_4
  refine k_nrm (y := 0) rfl ?_
  refine lv_i2l (v := 0) hx hb dX7_digest_25 (by decide) ?_
  refine lv_ladd hx hb dX7_digest_26 ?_
  refine k_nrml (y := 3868025) (by decide) ?_
  refine lv_lstore_n (lv' := [(1, .long 3868025), (0, .ref w)]) hx hb dX7_digest_27 rfl hl (by decide) rfl (fun ls hl => ?_)
  refine lv_ldc2 (v := 31) hx hb hown (ht _ lx_X7_231) dX7_digest_28 ?_
  refine lv_lload_n hx hb dX7_digest_31 rfl (lv_at hl 0 rfl) ?_
  refine lv_lmul hx hb dX7_digest_32 ?_
  refine k_nrml (y := 119908775) (by decide) ?_
  refine lv_aload_n hx hb dX7_digest_33 rfl (lv_at hl 1 rfl) ?_
  have ct := k_cut_of (wc := [(w, .inr (7, [.ref st, .ref hi, .ref re, .ref fo, .ref bu, .ref pa])), (st, .inr (6, [.ref la, .ref me, .ref li, .int tol, .int 0, .int 0])), (me, .inr (4, [.ref meA, .int 0])), (re, .inr (3, [.ref rd, .int nd, .ref rl, .int ldi, .int sot, .int tie, .int ff, .int ft])), (rd, .inr (4, [.ref rdA, .int rdN])), (rl, .inr (4, [.ref rlA, .int rlN]))]) (wr := [(ld, .inr (4, [.ref ldA, .int 0])), (li, .inr (0, [.ref ln, .ref ll, .ref lc])), (ln, .inr (4, [.ref lnA, .int 0])), (ll, .inr (4, [.ref llA, .int 0])), (lc, .inr (4, [.ref lcA, .int 0])), (la, .inr (2, [.ref ld, .ref lz])), (lz, .inr (4, [.ref lzA, .int 0]))]) (tc := []) hG hS hA hK hP hD [10, 11, 12, 5, 6, 7] [0, 1, 2, 3, 4, 8, 9] [] rfl rfl (by decide) (by decide) (by decide) rfl
  refine k_endi (As := [.ref w]) ct (k_runV (As := []) (rest := [.long 119908775]) S0 Lv_X7_239 rfl (ci := 7) (q0 := 0) rfl rfl ct (c_W_result l D w st hi re fo bu pa la me li tol 0 0 meA rd nd rl ldi sot tie ff ft rdA rdN rlA rlN H.size) hl.1 rfl (Nat.le_of_ble_eq_true rfl) rfl dX7_digest_34 ⟨⟨Nat.le_of_ble_eq_true rfl, Nat.le_of_ble_eq_true rfl⟩, Nat.le_of_ble_eq_true rfl, Nat.le_of_ble_eq_true rfl⟩) rfl rfl (fun r_5 _ H locs hw_6 hP hD hK hS => ?_)
  have hK : va_K D vwCl [] s := hK
  have hP : va_P D vwCl [(ld, .inr (4, [.ref ldA, .int 0])), (li, .inr (0, [.ref ln, .ref ll, .ref lc])), (ln, .inr (4, [.ref lnA, .int 0])), (ll, .inr (4, [.ref llA, .int 0])), (lc, .inr (4, [.ref lcA, .int 0])), (la, .inr (2, [.ref ld, .ref lz])), (lz, .inr (4, [.ref lzA, .int 0])), (w, .inr (7, [.ref st, .ref hi, .ref re, .ref fo, .ref bu, .ref pa])), (st, .inr (6, [.ref la, .ref me, .ref li, .int tol, .int 0, .int 0])), (me, .inr (4, [.ref meA, .int 0])), (re, .inr (3, [.ref rd, .int nd, .ref rl, .int ldi, .int sot, .int tie, .int 0, .int 0])), (rd, .inr (4, [.ref rdA, .int 0])), (rl, .inr (4, [.ref rlA, .int 0]))] H := hP
  have hD : va_D A [(ld, .inr (4, [.ref ldA, .int 0])), (li, .inr (0, [.ref ln, .ref ll, .ref lc])), (ln, .inr (4, [.ref lnA, .int 0])), (ll, .inr (4, [.ref llA, .int 0])), (lc, .inr (4, [.ref lcA, .int 0])), (la, .inr (2, [.ref ld, .ref lz])), (lz, .inr (4, [.ref lzA, .int 0])), (w, .inr (7, [.ref st, .ref hi, .ref re, .ref fo, .ref bu, .ref pa])), (st, .inr (6, [.ref la, .ref me, .ref li, .int tol, .int 0, .int 0])), (me, .inr (4, [.ref meA, .int 0])), (re, .inr (3, [.ref rd, .int nd, .ref rl, .int ldi, .int sot, .int tie, .int 0, .int 0])), (rd, .inr (4, [.ref rdA, .int 0])), (rl, .inr (4, [.ref rlA, .int 0]))] := hD
  have hw_6 : r_5 = 1 := hw_6
  have hw_6 := hw_6.symm
  subst hw_6
  refine k_nrm (y := 1) rfl ?_
  refine lv_i2l (v := 1) hx hb dX7_digest_37 (by decide) ?_
  refine lv_ladd hx hb dX7_digest_38 ?_
  refine k_nrml (y := 119908776) (by decide) ?_
  refine lv_lstore_n (lv' := [(1, .long 119908776), (0, .ref w)]) hx hb dX7_digest_39 rfl hl (by decide) rfl (fun ls hl => ?_)
  refine lv_ldc2 (v := 31) hx hb hown (ht _ lx_X7_231) dX7_digest_40 ?_
  refine lv_lload_n hx hb dX7_digest_43 rfl (lv_at hl 0 rfl) ?_
  refine lv_lmul hx hb dX7_digest_44 ?_
  refine k_nrml (y := 3717172056) (by decide) ?_
  refine lv_aload_n hx hb dX7_digest_45 rfl (lv_at hl 1 rfl) ?_
  refine lv_iconst (v := 0) hx hb dX7_digest_46 (by decide) ?_
  have ct := k_cut_of (wc := [(w, .inr (7, [.ref st, .ref hi, .ref re, .ref fo, .ref bu, .ref pa])), (st, .inr (6, [.ref la, .ref me, .ref li, .int tol, .int 0, .int 0])), (me, .inr (4, [.ref meA, .int 0])), (re, .inr (3, [.ref rd, .int nd, .ref rl, .int ldi, .int sot, .int tie, .int 0, .int 0])), (rd, .inr (4, [.ref rdA, .int 0])), (rl, .inr (4, [.ref rlA, .int 0]))]) (wr := [(ld, .inr (4, [.ref ldA, .int 0])), (li, .inr (0, [.ref ln, .ref ll, .ref lc])), (ln, .inr (4, [.ref lnA, .int 0])), (ll, .inr (4, [.ref llA, .int 0])), (lc, .inr (4, [.ref lcA, .int 0])), (la, .inr (2, [.ref ld, .ref lz])), (lz, .inr (4, [.ref lzA, .int 0]))]) (tc := []) hG hS hA hK hP hD [7, 8, 9, 10, 11, 12] [0, 1, 2, 3, 4, 5, 6] [] rfl rfl (by decide) (by decide) (by decide) rfl
  refine k_endi (As := [.ref w, .int 0]) ct (k_runV (As := [.int 0]) (rest := [.long 3717172056]) S0 Lv_X7_242 rfl (ci := 7) (q0 := 0) rfl rfl ct (c_W_reason l D w st hi re fo bu pa la me li tol 0 0 meA rd nd rl ldi sot tie 0 0 rdA 0 rlA 0 0 H.size) hl.1 rfl (Nat.le_of_ble_eq_true rfl) rfl dX7_digest_47 ⟨⟨Nat.le_of_ble_eq_true rfl, Nat.le_of_ble_eq_true rfl⟩, Nat.le_of_ble_eq_true rfl, Nat.le_of_ble_eq_true rfl⟩) rfl rfl (fun r_7 _ H locs hw_8 hP hD hK hS => ?_)
  have hK : va_K D vwCl [] s := hK
  have hP : va_P D vwCl [(ld, .inr (4, [.ref ldA, .int 0])), (li, .inr (0, [.ref ln, .ref ll, .ref lc])), (ln, .inr (4, [.ref lnA, .int 0])), (ll, .inr (4, [.ref llA, .int 0])), (lc, .inr (4, [.ref lcA, .int 0])), (la, .inr (2, [.ref ld, .ref lz])), (lz, .inr (4, [.ref lzA, .int 0])), (w, .inr (7, [.ref st, .ref hi, .ref re, .ref fo, .ref bu, .ref pa])), (st, .inr (6, [.ref la, .ref me, .ref li, .int tol, .int 0, .int 0])), (me, .inr (4, [.ref meA, .int 0])), (re, .inr (3, [.ref rd, .int nd, .ref rl, .int ldi, .int sot, .int tie, .int 0, .int 0])), (rd, .inr (4, [.ref rdA, .int 0])), (rl, .inr (4, [.ref rlA, .int 0]))] H := hP
  have hD : va_D A [(ld, .inr (4, [.ref ldA, .int 0])), (li, .inr (0, [.ref ln, .ref ll, .ref lc])), (ln, .inr (4, [.ref lnA, .int 0])), (ll, .inr (4, [.ref llA, .int 0])), (lc, .inr (4, [.ref lcA, .int 0])), (la, .inr (2, [.ref ld, .ref lz])), (lz, .inr (4, [.ref lzA, .int 0])), (w, .inr (7, [.ref st, .ref hi, .ref re, .ref fo, .ref bu, .ref pa])), (st, .inr (6, [.ref la, .ref me, .ref li, .int tol, .int 0, .int 0])), (me, .inr (4, [.ref meA, .int 0])), (re, .inr (3, [.ref rd, .int nd, .ref rl, .int ldi, .int sot, .int tie, .int 0, .int 0])), (rd, .inr (4, [.ref rdA, .int 0])), (rl, .inr (4, [.ref rlA, .int 0]))] := hD
  have hw_8 : r_7 = 1 := hw_8
  have hw_8 := hw_8.symm
  subst hw_8
  refine k_nrm (y := 1) rfl ?_
  refine lv_i2l (v := 1) hx hb dX7_digest_50 (by decide) ?_
  refine lv_ladd hx hb dX7_digest_51 ?_
  refine k_nrml (y := 3717172057) (by decide) ?_
  refine lv_lstore_n (lv' := [(1, .long 3717172057), (0, .ref w)]) hx hb dX7_digest_52 rfl hl (by decide) rfl (fun ls hl => ?_)
  refine lv_ldc2 (v := 31) hx hb hown (ht _ lx_X7_231) dX7_digest_53 ?_
  refine lv_lload_n hx hb dX7_digest_56 rfl (lv_at hl 0 rfl) ?_
  refine lv_lmul hx hb dX7_digest_57 ?_
  refine k_nrml (y := 115232333767) (by decide) ?_
  refine lv_aload_n hx hb dX7_digest_58 rfl (lv_at hl 1 rfl) ?_
  refine lv_iconst (v := 1) hx hb dX7_digest_59 (by decide) ?_
  have ct := k_cut_of (wc := [(w, .inr (7, [.ref st, .ref hi, .ref re, .ref fo, .ref bu, .ref pa])), (st, .inr (6, [.ref la, .ref me, .ref li, .int tol, .int 0, .int 0])), (me, .inr (4, [.ref meA, .int 0])), (re, .inr (3, [.ref rd, .int nd, .ref rl, .int ldi, .int sot, .int tie, .int 0, .int 0])), (rd, .inr (4, [.ref rdA, .int 0])), (rl, .inr (4, [.ref rlA, .int 0]))]) (wr := [(ld, .inr (4, [.ref ldA, .int 0])), (li, .inr (0, [.ref ln, .ref ll, .ref lc])), (ln, .inr (4, [.ref lnA, .int 0])), (ll, .inr (4, [.ref llA, .int 0])), (lc, .inr (4, [.ref lcA, .int 0])), (la, .inr (2, [.ref ld, .ref lz])), (lz, .inr (4, [.ref lzA, .int 0]))]) (tc := []) hG hS hA hK hP hD [7, 8, 9, 10, 11, 12] [0, 1, 2, 3, 4, 5, 6] [] rfl rfl (by decide) (by decide) (by decide) rfl
  refine k_endi (As := [.ref w, .int 1]) ct (k_runV (As := [.int 1]) (rest := [.long 115232333767]) S0 Lv_X7_242 rfl (ci := 7) (q0 := 0) rfl rfl ct (c_W_reason l D w st hi re fo bu pa la me li tol 0 0 meA rd nd rl ldi sot tie 0 0 rdA 0 rlA 0 1 H.size) hl.1 rfl (Nat.le_of_ble_eq_true rfl) rfl dX7_digest_60 ⟨⟨Nat.le_of_ble_eq_true rfl, Nat.le_of_ble_eq_true rfl⟩, Nat.le_of_ble_eq_true rfl, Nat.le_of_ble_eq_true rfl⟩) rfl rfl (fun r_9 _ H locs hw_10 hP hD hK hS => ?_)
  have hK : va_K D vwCl [] s := hK
  have hP : va_P D vwCl [(ld, .inr (4, [.ref ldA, .int 0])), (li, .inr (0, [.ref ln, .ref ll, .ref lc])), (ln, .inr (4, [.ref lnA, .int 0])), (ll, .inr (4, [.ref llA, .int 0])), (lc, .inr (4, [.ref lcA, .int 0])), (la, .inr (2, [.ref ld, .ref lz])), (lz, .inr (4, [.ref lzA, .int 0])), (w, .inr (7, [.ref st, .ref hi, .ref re, .ref fo, .ref bu, .ref pa])), (st, .inr (6, [.ref la, .ref me, .ref li, .int tol, .int 0, .int 0])), (me, .inr (4, [.ref meA, .int 0])), (re, .inr (3, [.ref rd, .int nd, .ref rl, .int ldi, .int sot, .int tie, .int 0, .int 0])), (rd, .inr (4, [.ref rdA, .int 0])), (rl, .inr (4, [.ref rlA, .int 0]))] H := hP
  have hD : va_D A [(ld, .inr (4, [.ref ldA, .int 0])), (li, .inr (0, [.ref ln, .ref ll, .ref lc])), (ln, .inr (4, [.ref lnA, .int 0])), (ll, .inr (4, [.ref llA, .int 0])), (lc, .inr (4, [.ref lcA, .int 0])), (la, .inr (2, [.ref ld, .ref lz])), (lz, .inr (4, [.ref lzA, .int 0])), (w, .inr (7, [.ref st, .ref hi, .ref re, .ref fo, .ref bu, .ref pa])), (st, .inr (6, [.ref la, .ref me, .ref li, .int tol, .int 0, .int 0])), (me, .inr (4, [.ref meA, .int 0])), (re, .inr (3, [.ref rd, .int nd, .ref rl, .int ldi, .int sot, .int tie, .int 0, .int 0])), (rd, .inr (4, [.ref rdA, .int 0])), (rl, .inr (4, [.ref rlA, .int 0]))] := hD
  have hw_10 : r_9 = 1 := hw_10
  have hw_10 := hw_10.symm
  subst hw_10
  refine k_nrm (y := 1) rfl ?_
  refine lv_i2l (v := 1) hx hb dX7_digest_63 (by decide) ?_
  refine lv_ladd hx hb dX7_digest_64 ?_
  refine k_nrml (y := 115232333768) (by decide) ?_
  refine lv_lstore_n (lv' := [(1, .long 115232333768), (0, .ref w)]) hx hb dX7_digest_65 rfl hl (by decide) rfl (fun ls hl => ?_)
  refine lv_ldc2 (v := 31) hx hb hown (ht _ lx_X7_231) dX7_digest_66 ?_
  refine lv_lload_n hx hb dX7_digest_69 rfl (lv_at hl 0 rfl) ?_
  refine lv_lmul hx hb dX7_digest_70 ?_
  refine k_nrml (y := 3572202346808) (by decide) ?_
  refine lv_aload_n hx hb dX7_digest_71 rfl (lv_at hl 1 rfl) ?_
  have ct := k_cut_of (wc := [(w, .inr (7, [.ref st, .ref hi, .ref re, .ref fo, .ref bu, .ref pa])), (st, .inr (6, [.ref la, .ref me, .ref li, .int tol, .int 0, .int 0])), (me, .inr (4, [.ref meA, .int 0])), (re, .inr (3, [.ref rd, .int nd, .ref rl, .int ldi, .int sot, .int tie, .int 0, .int 0])), (rd, .inr (4, [.ref rdA, .int 0])), (rl, .inr (4, [.ref rlA, .int 0]))]) (wr := [(ld, .inr (4, [.ref ldA, .int 0])), (li, .inr (0, [.ref ln, .ref ll, .ref lc])), (ln, .inr (4, [.ref lnA, .int 0])), (ll, .inr (4, [.ref llA, .int 0])), (lc, .inr (4, [.ref lcA, .int 0])), (la, .inr (2, [.ref ld, .ref lz])), (lz, .inr (4, [.ref lzA, .int 0]))]) (tc := []) hG hS hA hK hP hD [7, 8, 9, 10, 11, 12] [0, 1, 2, 3, 4, 5, 6] [] rfl rfl (by decide) (by decide) (by decide) rfl
  refine k_endi (As := [.ref w]) ct (k_runV (As := []) (rest := [.long 3572202346808]) S0 Lv_X7_246 rfl (ci := 7) (q0 := 0) rfl rfl ct (c_W_least l D w st hi re fo bu pa la me li tol 0 0 meA rd nd rl ldi sot tie 0 0 rdA 0 rlA 0 H.size) hl.1 rfl (Nat.le_of_ble_eq_true rfl) rfl dX7_digest_72 ⟨⟨Nat.le_of_ble_eq_true rfl, Nat.le_of_ble_eq_true rfl⟩, Nat.le_of_ble_eq_true rfl, Nat.le_of_ble_eq_true rfl⟩) rfl rfl (fun r_11 _ H locs hw_12 hP hD hK hS => ?_)
  have hK : va_K D vwCl [] s := hK
  have hP : va_P D vwCl [(ld, .inr (4, [.ref ldA, .int 0])), (li, .inr (0, [.ref ln, .ref ll, .ref lc])), (ln, .inr (4, [.ref lnA, .int 0])), (ll, .inr (4, [.ref llA, .int 0])), (lc, .inr (4, [.ref lcA, .int 0])), (la, .inr (2, [.ref ld, .ref lz])), (lz, .inr (4, [.ref lzA, .int 0])), (w, .inr (7, [.ref st, .ref hi, .ref re, .ref fo, .ref bu, .ref pa])), (st, .inr (6, [.ref la, .ref me, .ref li, .int tol, .int 0, .int 0])), (me, .inr (4, [.ref meA, .int 0])), (re, .inr (3, [.ref rd, .int nd, .ref rl, .int ldi, .int sot, .int tie, .int 0, .int 0])), (rd, .inr (4, [.ref rdA, .int 0])), (rl, .inr (4, [.ref rlA, .int 0]))] H := hP
  have hD : va_D A [(ld, .inr (4, [.ref ldA, .int 0])), (li, .inr (0, [.ref ln, .ref ll, .ref lc])), (ln, .inr (4, [.ref lnA, .int 0])), (ll, .inr (4, [.ref llA, .int 0])), (lc, .inr (4, [.ref lcA, .int 0])), (la, .inr (2, [.ref ld, .ref lz])), (lz, .inr (4, [.ref lzA, .int 0])), (w, .inr (7, [.ref st, .ref hi, .ref re, .ref fo, .ref bu, .ref pa])), (st, .inr (6, [.ref la, .ref me, .ref li, .int tol, .int 0, .int 0])), (me, .inr (4, [.ref meA, .int 0])), (re, .inr (3, [.ref rd, .int nd, .ref rl, .int ldi, .int sot, .int tie, .int 0, .int 0])), (rd, .inr (4, [.ref rdA, .int 0])), (rl, .inr (4, [.ref rlA, .int 0]))] := hD
  have hw_12 : r_11 = (-1) := hw_12
  have hw_12 := hw_12.symm
  subst hw_12
  refine k_nrm (y := (-1)) rfl ?_
  refine lv_i2l (v := (-1)) hx hb dX7_digest_75 (by decide) ?_
  refine lv_ladd hx hb dX7_digest_76 ?_
  refine k_nrml (y := 3572202346807) (by decide) ?_
  refine lv_lstore_n (lv' := [(1, .long 3572202346807), (0, .ref w)]) hx hb dX7_digest_77 rfl hl (by decide) rfl (fun ls hl => ?_)
  refine lv_ldc2 (v := 31) hx hb hown (ht _ lx_X7_231) dX7_digest_78 ?_
  refine lv_lload_n hx hb dX7_digest_81 rfl (lv_at hl 0 rfl) ?_
  refine lv_lmul hx hb dX7_digest_82 ?_
  refine k_nrml (y := 110738272751017) (by decide) ?_
  refine lv_aload_n hx hb dX7_digest_83 rfl (lv_at hl 1 rfl) ?_
  have ct := k_cut_of (wc := [(w, .inr (7, [.ref st, .ref hi, .ref re, .ref fo, .ref bu, .ref pa])), (st, .inr (6, [.ref la, .ref me, .ref li, .int tol, .int 0, .int 0])), (li, .inr (0, [.ref ln, .ref ll, .ref lc])), (ln, .inr (4, [.ref lnA, .int 0]))]) (wr := [(ld, .inr (4, [.ref ldA, .int 0])), (ll, .inr (4, [.ref llA, .int 0])), (lc, .inr (4, [.ref lcA, .int 0])), (la, .inr (2, [.ref ld, .ref lz])), (lz, .inr (4, [.ref lzA, .int 0])), (me, .inr (4, [.ref meA, .int 0])), (re, .inr (3, [.ref rd, .int nd, .ref rl, .int ldi, .int sot, .int tie, .int 0, .int 0])), (rd, .inr (4, [.ref rdA, .int 0])), (rl, .inr (4, [.ref rlA, .int 0]))]) (tc := []) hG hS hA hK hP hD [7, 8, 1, 2] [0, 3, 4, 5, 6, 9, 10, 11, 12] [] rfl rfl (by decide) (by decide) (by decide) rfl
  refine k_endi (As := [.ref w]) ct (k_runV (As := []) (rest := [.long 110738272751017]) S0 Lv_X7_249 rfl (ci := 7) (q0 := 0) rfl rfl ct (c_W_codes l D w st hi re fo bu pa la me li tol 0 0 ln ll lc lnA H.size) hl.1 rfl (Nat.le_of_ble_eq_true rfl) rfl dX7_digest_84 ⟨⟨Nat.le_of_ble_eq_true rfl, Nat.le_of_ble_eq_true rfl⟩, Nat.le_of_ble_eq_true rfl, Nat.le_of_ble_eq_true rfl⟩) rfl rfl (fun r_13 _ H locs hw_14 hP hD hK hS => ?_)
  have hK : va_K D vwCl [] s := hK
  have hP : va_P D vwCl [(ld, .inr (4, [.ref ldA, .int 0])), (ll, .inr (4, [.ref llA, .int 0])), (lc, .inr (4, [.ref lcA, .int 0])), (la, .inr (2, [.ref ld, .ref lz])), (lz, .inr (4, [.ref lzA, .int 0])), (me, .inr (4, [.ref meA, .int 0])), (re, .inr (3, [.ref rd, .int nd, .ref rl, .int ldi, .int sot, .int tie, .int 0, .int 0])), (rd, .inr (4, [.ref rdA, .int 0])), (rl, .inr (4, [.ref rlA, .int 0])), (w, .inr (7, [.ref st, .ref hi, .ref re, .ref fo, .ref bu, .ref pa])), (st, .inr (6, [.ref la, .ref me, .ref li, .int tol, .int 0, .int 0])), (li, .inr (0, [.ref ln, .ref ll, .ref lc])), (ln, .inr (4, [.ref lnA, .int 0]))] H := hP
  have hD : va_D A [(ld, .inr (4, [.ref ldA, .int 0])), (ll, .inr (4, [.ref llA, .int 0])), (lc, .inr (4, [.ref lcA, .int 0])), (la, .inr (2, [.ref ld, .ref lz])), (lz, .inr (4, [.ref lzA, .int 0])), (me, .inr (4, [.ref meA, .int 0])), (re, .inr (3, [.ref rd, .int nd, .ref rl, .int ldi, .int sot, .int tie, .int 0, .int 0])), (rd, .inr (4, [.ref rdA, .int 0])), (rl, .inr (4, [.ref rlA, .int 0])), (w, .inr (7, [.ref st, .ref hi, .ref re, .ref fo, .ref bu, .ref pa])), (st, .inr (6, [.ref la, .ref me, .ref li, .int tol, .int 0, .int 0])), (li, .inr (0, [.ref ln, .ref ll, .ref lc])), (ln, .inr (4, [.ref lnA, .int 0]))] := hD
  have hw_14 : r_13 = 0 := hw_14
  have hw_14 := hw_14.symm
  subst hw_14
  refine k_nrm (y := 0) rfl ?_
  refine lv_i2l (v := 0) hx hb dX7_digest_87 (by decide) ?_
  refine lv_ladd hx hb dX7_digest_88 ?_
  refine k_nrml (y := 110738272751017) (by decide) ?_
  refine lv_lstore_n (lv' := [(1, .long 110738272751017), (0, .ref w)]) hx hb dX7_digest_89 rfl hl (by decide) rfl (fun ls hl => ?_)
  refine lv_ldc2 (v := 31) hx hb hown (ht _ lx_X7_231) dX7_digest_90 ?_
  refine lv_lload_n hx hb dX7_digest_93 rfl (lv_at hl 0 rfl) ?_
  refine lv_lmul hx hb dX7_digest_94 ?_
  refine k_nrml (y := 3432886455281527) (by decide) ?_
  refine lv_aload_n hx hb dX7_digest_95 rfl (lv_at hl 1 rfl) ?_
  have ct := k_cut_of (wc := [(w, .inr (7, [.ref st, .ref hi, .ref re, .ref fo, .ref bu, .ref pa])), (st, .inr (6, [.ref la, .ref me, .ref li, .int tol, .int 0, .int 0]))]) (wr := [(ld, .inr (4, [.ref ldA, .int 0])), (ll, .inr (4, [.ref llA, .int 0])), (lc, .inr (4, [.ref lcA, .int 0])), (la, .inr (2, [.ref ld, .ref lz])), (lz, .inr (4, [.ref lzA, .int 0])), (me, .inr (4, [.ref meA, .int 0])), (re, .inr (3, [.ref rd, .int nd, .ref rl, .int ldi, .int sot, .int tie, .int 0, .int 0])), (rd, .inr (4, [.ref rdA, .int 0])), (rl, .inr (4, [.ref rlA, .int 0])), (li, .inr (0, [.ref ln, .ref ll, .ref lc])), (ln, .inr (4, [.ref lnA, .int 0]))]) (tc := []) hG hS hA hK hP hD [9, 10] [0, 1, 2, 3, 4, 5, 6, 7, 8, 11, 12] [] rfl rfl (by decide) (by decide) (by decide) rfl
  refine k_endi (As := [.ref w]) ct (k_runV (As := []) (rest := [.long 3432886455281527]) S0 Lv_X7_252 rfl (ci := 7) (q0 := 0) rfl rfl ct (c_W_successes l D w st hi re fo bu pa la me li tol 0 0 H.size) hl.1 rfl (Nat.le_of_ble_eq_true rfl) rfl dX7_digest_96 ⟨⟨Nat.le_of_ble_eq_true rfl, Nat.le_of_ble_eq_true rfl⟩, Nat.le_of_ble_eq_true rfl, Nat.le_of_ble_eq_true rfl⟩) rfl rfl (fun r_15 _ H locs hw_16 hP hD hK hS => ?_)
  have hK : va_K D vwCl [] s := hK
  have hP : va_P D vwCl [(ld, .inr (4, [.ref ldA, .int 0])), (ll, .inr (4, [.ref llA, .int 0])), (lc, .inr (4, [.ref lcA, .int 0])), (la, .inr (2, [.ref ld, .ref lz])), (lz, .inr (4, [.ref lzA, .int 0])), (me, .inr (4, [.ref meA, .int 0])), (re, .inr (3, [.ref rd, .int nd, .ref rl, .int ldi, .int sot, .int tie, .int 0, .int 0])), (rd, .inr (4, [.ref rdA, .int 0])), (rl, .inr (4, [.ref rlA, .int 0])), (li, .inr (0, [.ref ln, .ref ll, .ref lc])), (ln, .inr (4, [.ref lnA, .int 0])), (w, .inr (7, [.ref st, .ref hi, .ref re, .ref fo, .ref bu, .ref pa])), (st, .inr (6, [.ref la, .ref me, .ref li, .int tol, .int 0, .int 0]))] H := hP
  have hD : va_D A [(ld, .inr (4, [.ref ldA, .int 0])), (ll, .inr (4, [.ref llA, .int 0])), (lc, .inr (4, [.ref lcA, .int 0])), (la, .inr (2, [.ref ld, .ref lz])), (lz, .inr (4, [.ref lzA, .int 0])), (me, .inr (4, [.ref meA, .int 0])), (re, .inr (3, [.ref rd, .int nd, .ref rl, .int ldi, .int sot, .int tie, .int 0, .int 0])), (rd, .inr (4, [.ref rdA, .int 0])), (rl, .inr (4, [.ref rlA, .int 0])), (li, .inr (0, [.ref ln, .ref ll, .ref lc])), (ln, .inr (4, [.ref lnA, .int 0])), (w, .inr (7, [.ref st, .ref hi, .ref re, .ref fo, .ref bu, .ref pa])), (st, .inr (6, [.ref la, .ref me, .ref li, .int tol, .int 0, .int 0]))] := hD
  have hw_16 : r_15 = 0 := hw_16
  have hw_16 := hw_16.symm
  subst hw_16
  refine k_nrm (y := 0) rfl ?_
  refine lv_i2l (v := 0) hx hb dX7_digest_99 (by decide) ?_
  refine lv_ladd hx hb dX7_digest_100 ?_
  refine k_nrml (y := 3432886455281527) (by decide) ?_
  refine lv_lstore_n (lv' := [(1, .long 3432886455281527), (0, .ref w)]) hx hb dX7_digest_101 rfl hl (by decide) rfl (fun ls hl => ?_)
  refine lv_ldc2 (v := 31) hx hb hown (ht _ lx_X7_231) dX7_digest_102 ?_
  refine lv_lload_n hx hb dX7_digest_105 rfl (lv_at hl 0 rfl) ?_
  refine lv_lmul hx hb dX7_digest_106 ?_
  refine k_nrml (y := 106419480113727337) (by decide) ?_
  refine lv_aload_n hx hb dX7_digest_107 rfl (lv_at hl 1 rfl) ?_
  have ct := k_cut_of (wc := [(w, .inr (7, [.ref st, .ref hi, .ref re, .ref fo, .ref bu, .ref pa])), (st, .inr (6, [.ref la, .ref me, .ref li, .int tol, .int 0, .int 0]))]) (wr := [(ld, .inr (4, [.ref ldA, .int 0])), (ll, .inr (4, [.ref llA, .int 0])), (lc, .inr (4, [.ref lcA, .int 0])), (la, .inr (2, [.ref ld, .ref lz])), (lz, .inr (4, [.ref lzA, .int 0])), (me, .inr (4, [.ref meA, .int 0])), (re, .inr (3, [.ref rd, .int nd, .ref rl, .int ldi, .int sot, .int tie, .int 0, .int 0])), (rd, .inr (4, [.ref rdA, .int 0])), (rl, .inr (4, [.ref rlA, .int 0])), (li, .inr (0, [.ref ln, .ref ll, .ref lc])), (ln, .inr (4, [.ref lnA, .int 0]))]) (tc := []) hG hS hA hK hP hD [11, 12] [0, 1, 2, 3, 4, 5, 6, 7, 8, 9, 10] [] rfl rfl (by decide) (by decide) (by decide) rfl
  refine k_endi (As := [.ref w]) ct (k_runV (As := []) (rest := [.long 106419480113727337]) S0 Lv_X7_254 rfl (ci := 7) (q0 := 0) rfl rfl ct (c_W_failures l D w st hi re fo bu pa la me li tol 0 0 H.size) hl.1 rfl (Nat.le_of_ble_eq_true rfl) rfl dX7_digest_108 ⟨⟨Nat.le_of_ble_eq_true rfl, Nat.le_of_ble_eq_true rfl⟩, Nat.le_of_ble_eq_true rfl, Nat.le_of_ble_eq_true rfl⟩) rfl rfl (fun r_17 _ H locs hw_18 hP hD hK hS => ?_)
  have hK : va_K D vwCl [] s := hK
  have hP : va_P D vwCl [(ld, .inr (4, [.ref ldA, .int 0])), (ll, .inr (4, [.ref llA, .int 0])), (lc, .inr (4, [.ref lcA, .int 0])), (la, .inr (2, [.ref ld, .ref lz])), (lz, .inr (4, [.ref lzA, .int 0])), (me, .inr (4, [.ref meA, .int 0])), (re, .inr (3, [.ref rd, .int nd, .ref rl, .int ldi, .int sot, .int tie, .int 0, .int 0])), (rd, .inr (4, [.ref rdA, .int 0])), (rl, .inr (4, [.ref rlA, .int 0])), (li, .inr (0, [.ref ln, .ref ll, .ref lc])), (ln, .inr (4, [.ref lnA, .int 0])), (w, .inr (7, [.ref st, .ref hi, .ref re, .ref fo, .ref bu, .ref pa])), (st, .inr (6, [.ref la, .ref me, .ref li, .int tol, .int 0, .int 0]))] H := hP
  have hD : va_D A [(ld, .inr (4, [.ref ldA, .int 0])), (ll, .inr (4, [.ref llA, .int 0])), (lc, .inr (4, [.ref lcA, .int 0])), (la, .inr (2, [.ref ld, .ref lz])), (lz, .inr (4, [.ref lzA, .int 0])), (me, .inr (4, [.ref meA, .int 0])), (re, .inr (3, [.ref rd, .int nd, .ref rl, .int ldi, .int sot, .int tie, .int 0, .int 0])), (rd, .inr (4, [.ref rdA, .int 0])), (rl, .inr (4, [.ref rlA, .int 0])), (li, .inr (0, [.ref ln, .ref ll, .ref lc])), (ln, .inr (4, [.ref lnA, .int 0])), (w, .inr (7, [.ref st, .ref hi, .ref re, .ref fo, .ref bu, .ref pa])), (st, .inr (6, [.ref la, .ref me, .ref li, .int tol, .int 0, .int 0]))] := hD
  have hw_18 : r_17 = 0 := hw_18
  have hw_18 := hw_18.symm
  subst hw_18
  refine k_nrm (y := 0) rfl ?_
  refine lv_i2l (v := 0) hx hb dX7_digest_111 (by decide) ?_
  refine lv_ladd hx hb dX7_digest_112 ?_
  refine k_nrml (y := 106419480113727337) (by decide) ?_
  refine lv_lstore_n (lv' := [(1, .long 106419480113727337), (0, .ref w)]) hx hb dX7_digest_113 rfl hl (by decide) rfl (fun ls hl => ?_)
  refine lv_iconst (v := 0) hx hb dX7_digest_114 (by decide) ?_
  refine lv_istore_n (lv' := [(3, .int 0), (1, .long 106419480113727337), (0, .ref w)]) hx hb dX7_digest_115 rfl hl (by decide) rfl (fun ls hl => ?_)
  refine lv_iload_n hx hb dX7_digest_116 rfl (lv_at hl 0 rfl) ?_
  refine lv_aload_n hx hb dX7_digest_117 rfl (lv_at hl 2 rfl) ?_
  refine va_get (D := D) (ci := 7) (v := .ref st) (C := RX7) (T := TX7) (N := 6) hx hb ht inA_X7 hown hK hP 11 rfl rfl 0 (by decide) (ht _ lf_X7_10) (fun _ h9 => h9) rfl dX7_digest_118 ?_
  refine va_get (D := D) (ci := 6) (v := .ref la) (C := RX6) (T := TX6) (N := 6) hx hb ht inA_X6 hown hK hP 12 rfl rfl 0 (by decide) (ht _ lf_X7_66) (fun _ h9 => h9) rfl dX7_digest_121 ?_
  have ct := k_cut_of (wc := [(la, .inr (2, [.ref ld, .ref lz])), (lz, .inr (4, [.ref lzA, .int 0]))]) (wr := [(ld, .inr (4, [.ref ldA, .int 0])), (ll, .inr (4, [.ref llA, .int 0])), (lc, .inr (4, [.ref lcA, .int 0])), (me, .inr (4, [.ref meA, .int 0])), (re, .inr (3, [.ref rd, .int nd, .ref rl, .int ldi, .int sot, .int tie, .int 0, .int 0])), (rd, .inr (4, [.ref rdA, .int 0])), (rl, .inr (4, [.ref rlA, .int 0])), (li, .inr (0, [.ref ln, .ref ll, .ref lc])), (ln, .inr (4, [.ref lnA, .int 0])), (w, .inr (7, [.ref st, .ref hi, .ref re, .ref fo, .ref bu, .ref pa])), (st, .inr (6, [.ref la, .ref me, .ref li, .int tol, .int 0, .int 0]))]) (tc := []) hG hS hA hK hP hD [3, 4] [0, 1, 2, 5, 6, 7, 8, 9, 10, 11, 12] [] rfl rfl (by decide) (by decide) (by decide) rfl
  refine k_endi (As := [.ref la]) ct (k_runV (As := []) (rest := [.int 0]) S0 Lv_X7_93 rfl (ci := 2) (q0 := 0) rfl rfl ct (c_Label_size l D la ld lz lzA 0 H.size) hl.1 rfl (Nat.le_of_ble_eq_true rfl) rfl dX7_digest_124 ⟨⟨Nat.le_of_ble_eq_true rfl, Nat.le_of_ble_eq_true rfl⟩, Nat.le_of_ble_eq_true rfl, Nat.le_of_ble_eq_true rfl⟩) rfl rfl (fun r_19 _ H locs hw_20 hP hD hK hS => ?_)
  have hK : va_K D vwCl [] s := hK
  have hP : va_P D vwCl [(ld, .inr (4, [.ref ldA, .int 0])), (ll, .inr (4, [.ref llA, .int 0])), (lc, .inr (4, [.ref lcA, .int 0])), (me, .inr (4, [.ref meA, .int 0])), (re, .inr (3, [.ref rd, .int nd, .ref rl, .int ldi, .int sot, .int tie, .int 0, .int 0])), (rd, .inr (4, [.ref rdA, .int 0])), (rl, .inr (4, [.ref rlA, .int 0])), (li, .inr (0, [.ref ln, .ref ll, .ref lc])), (ln, .inr (4, [.ref lnA, .int 0])), (w, .inr (7, [.ref st, .ref hi, .ref re, .ref fo, .ref bu, .ref pa])), (st, .inr (6, [.ref la, .ref me, .ref li, .int tol, .int 0, .int 0])), (la, .inr (2, [.ref ld, .ref lz])), (lz, .inr (4, [.ref lzA, .int 0]))] H := hP
  have hD : va_D A [(ld, .inr (4, [.ref ldA, .int 0])), (ll, .inr (4, [.ref llA, .int 0])), (lc, .inr (4, [.ref lcA, .int 0])), (me, .inr (4, [.ref meA, .int 0])), (re, .inr (3, [.ref rd, .int nd, .ref rl, .int ldi, .int sot, .int tie, .int 0, .int 0])), (rd, .inr (4, [.ref rdA, .int 0])), (rl, .inr (4, [.ref rlA, .int 0])), (li, .inr (0, [.ref ln, .ref ll, .ref lc])), (ln, .inr (4, [.ref lnA, .int 0])), (w, .inr (7, [.ref st, .ref hi, .ref re, .ref fo, .ref bu, .ref pa])), (st, .inr (6, [.ref la, .ref me, .ref li, .int tol, .int 0, .int 0])), (la, .inr (2, [.ref ld, .ref lz])), (lz, .inr (4, [.ref lzA, .int 0]))] := hD
  have hw_20 : r_19 = 0 := hw_20
  have hw_20 := hw_20.symm
  subst hw_20
  refine k_nrm (y := 0) rfl ?_
  refine lv_icmp_ge (tgt := 190) hx hb dX7_digest_127 (by decide) (fun _ => ?_) (fun c9 => absurd (by decide) c9)
  refine lv_iconst (v := 0) hx hb dX7_digest_190 (by decide) ?_
  refine lv_istore_n (lv' := [(3, .int 0), (1, .long 106419480113727337), (0, .ref w)]) hx hb dX7_digest_191 rfl hl (by decide) rfl (fun ls hl => ?_)
  refine lv_iload_n hx hb dX7_digest_192 rfl (lv_at hl 0 rfl) ?_
  refine lv_aload_n hx hb dX7_digest_193 rfl (lv_at hl 2 rfl) ?_
  refine va_get (D := D) (ci := 7) (v := .ref st) (C := RX7) (T := TX7) (N := 6) hx hb ht inA_X7 hown hK hP 9 rfl rfl 0 (by decide) (ht _ lf_X7_10) (fun _ h9 => h9) rfl dX7_digest_194 ?_
  refine va_get (D := D) (ci := 6) (v := .ref me) (C := RX6) (T := TX6) (N := 6) hx hb ht inA_X6 hown hK hP 10 rfl rfl 1 (by decide) (ht _ lf_X7_112) (fun _ h9 => h9) rfl dX7_digest_197 ?_
  have ct := k_cut_of (wc := [(me, .inr (4, [.ref meA, .int 0]))]) (wr := [(ld, .inr (4, [.ref ldA, .int 0])), (ll, .inr (4, [.ref llA, .int 0])), (lc, .inr (4, [.ref lcA, .int 0])), (re, .inr (3, [.ref rd, .int nd, .ref rl, .int ldi, .int sot, .int tie, .int 0, .int 0])), (rd, .inr (4, [.ref rdA, .int 0])), (rl, .inr (4, [.ref rlA, .int 0])), (li, .inr (0, [.ref ln, .ref ll, .ref lc])), (ln, .inr (4, [.ref lnA, .int 0])), (w, .inr (7, [.ref st, .ref hi, .ref re, .ref fo, .ref bu, .ref pa])), (st, .inr (6, [.ref la, .ref me, .ref li, .int tol, .int 0, .int 0])), (la, .inr (2, [.ref ld, .ref lz])), (lz, .inr (4, [.ref lzA, .int 0]))]) (tc := []) hG hS hA hK hP hD [3] [0, 1, 2, 4, 5, 6, 7, 8, 9, 10, 11, 12] [] rfl rfl (by decide) (by decide) (by decide) rfl
  refine k_endi (As := [.ref me]) ct (k_runV (As := []) (rest := [.int 0]) S0 Lv_X7_136 rfl (ci := 4) (q0 := 0) rfl rfl ct (c_Row_size l D me meA 0 H.size) hl.1 rfl (Nat.le_of_ble_eq_true rfl) rfl dX7_digest_200 ⟨⟨Nat.le_of_ble_eq_true rfl, Nat.le_of_ble_eq_true rfl⟩, Nat.le_of_ble_eq_true rfl, Nat.le_of_ble_eq_true rfl⟩) rfl rfl (fun r_21 _ H locs hw_22 hP hD hK hS => ?_)
  have hK : va_K D vwCl [] s := hK
  have hP : va_P D vwCl [(ld, .inr (4, [.ref ldA, .int 0])), (ll, .inr (4, [.ref llA, .int 0])), (lc, .inr (4, [.ref lcA, .int 0])), (re, .inr (3, [.ref rd, .int nd, .ref rl, .int ldi, .int sot, .int tie, .int 0, .int 0])), (rd, .inr (4, [.ref rdA, .int 0])), (rl, .inr (4, [.ref rlA, .int 0])), (li, .inr (0, [.ref ln, .ref ll, .ref lc])), (ln, .inr (4, [.ref lnA, .int 0])), (w, .inr (7, [.ref st, .ref hi, .ref re, .ref fo, .ref bu, .ref pa])), (st, .inr (6, [.ref la, .ref me, .ref li, .int tol, .int 0, .int 0])), (la, .inr (2, [.ref ld, .ref lz])), (lz, .inr (4, [.ref lzA, .int 0])), (me, .inr (4, [.ref meA, .int 0]))] H := hP
  have hD : va_D A [(ld, .inr (4, [.ref ldA, .int 0])), (ll, .inr (4, [.ref llA, .int 0])), (lc, .inr (4, [.ref lcA, .int 0])), (re, .inr (3, [.ref rd, .int nd, .ref rl, .int ldi, .int sot, .int tie, .int 0, .int 0])), (rd, .inr (4, [.ref rdA, .int 0])), (rl, .inr (4, [.ref rlA, .int 0])), (li, .inr (0, [.ref ln, .ref ll, .ref lc])), (ln, .inr (4, [.ref lnA, .int 0])), (w, .inr (7, [.ref st, .ref hi, .ref re, .ref fo, .ref bu, .ref pa])), (st, .inr (6, [.ref la, .ref me, .ref li, .int tol, .int 0, .int 0])), (la, .inr (2, [.ref ld, .ref lz])), (lz, .inr (4, [.ref lzA, .int 0])), (me, .inr (4, [.ref meA, .int 0]))] := hD
  have hw_22 : r_21 = 0 := hw_22
  have hw_22 := hw_22.symm
  subst hw_22
  refine k_nrm (y := 0) rfl ?_
  refine lv_icmp_ge (tgt := 231) hx hb dX7_digest_203 (by decide) (fun _ => ?_) (fun c9 => absurd (by decide) c9)
  refine lv_iconst (v := 0) hx hb dX7_digest_231 (by decide) ?_
  refine lv_istore_n (lv' := [(3, .int 0), (1, .long 106419480113727337), (0, .ref w)]) hx hb dX7_digest_232 rfl hl (by decide) rfl (fun ls hl => ?_)
  refine lv_iload_n hx hb dX7_digest_233 rfl (lv_at hl 0 rfl) ?_
  refine lv_aload_n hx hb dX7_digest_234 rfl (lv_at hl 2 rfl) ?_
  refine va_get (D := D) (ci := 7) (v := .ref st) (C := RX7) (T := TX7) (N := 6) hx hb ht inA_X7 hown hK hP 8 rfl rfl 0 (by decide) (ht _ lf_X7_10) (fun _ h9 => h9) rfl dX7_digest_235 ?_
  refine va_get (D := D) (ci := 6) (v := .ref li) (C := RX6) (T := TX6) (N := 6) hx hb ht inA_X6 hown hK hP 9 rfl rfl 2 (by decide) (ht _ lf_X7_171) (fun _ h9 => h9) rfl dX7_digest_238 ?_
  refine va_get (D := D) (ci := 0) (v := .ref ln) (C := RX0) (T := TX0) (N := 3) hx hb ht inA_X0 hown hK hP 6 rfl rfl 0 (by decide) (ht _ lf_X7_175) (fun _ h9 => h9) rfl dX7_digest_241 ?_
  have ct := k_cut_of (wc := [(ln, .inr (4, [.ref lnA, .int 0]))]) (wr := [(ld, .inr (4, [.ref ldA, .int 0])), (ll, .inr (4, [.ref llA, .int 0])), (lc, .inr (4, [.ref lcA, .int 0])), (re, .inr (3, [.ref rd, .int nd, .ref rl, .int ldi, .int sot, .int tie, .int 0, .int 0])), (rd, .inr (4, [.ref rdA, .int 0])), (rl, .inr (4, [.ref rlA, .int 0])), (li, .inr (0, [.ref ln, .ref ll, .ref lc])), (w, .inr (7, [.ref st, .ref hi, .ref re, .ref fo, .ref bu, .ref pa])), (st, .inr (6, [.ref la, .ref me, .ref li, .int tol, .int 0, .int 0])), (la, .inr (2, [.ref ld, .ref lz])), (lz, .inr (4, [.ref lzA, .int 0])), (me, .inr (4, [.ref meA, .int 0]))]) (tc := []) hG hS hA hK hP hD [7] [0, 1, 2, 3, 4, 5, 6, 8, 9, 10, 11, 12] [] rfl rfl (by decide) (by decide) (by decide) rfl
  refine k_endi (As := [.ref ln]) ct (k_runV (As := []) (rest := [.int 0]) S0 Lv_X7_136 rfl (ci := 4) (q0 := 0) rfl rfl ct (c_Row_size l D ln lnA 0 H.size) hl.1 rfl (Nat.le_of_ble_eq_true rfl) rfl dX7_digest_244 ⟨⟨Nat.le_of_ble_eq_true rfl, Nat.le_of_ble_eq_true rfl⟩, Nat.le_of_ble_eq_true rfl, Nat.le_of_ble_eq_true rfl⟩) rfl rfl (fun r_23 _ H locs hw_24 hP hD hK hS => ?_)
  have hK : va_K D vwCl [] s := hK
  have hP : va_P D vwCl [(ld, .inr (4, [.ref ldA, .int 0])), (ll, .inr (4, [.ref llA, .int 0])), (lc, .inr (4, [.ref lcA, .int 0])), (re, .inr (3, [.ref rd, .int nd, .ref rl, .int ldi, .int sot, .int tie, .int 0, .int 0])), (rd, .inr (4, [.ref rdA, .int 0])), (rl, .inr (4, [.ref rlA, .int 0])), (li, .inr (0, [.ref ln, .ref ll, .ref lc])), (w, .inr (7, [.ref st, .ref hi, .ref re, .ref fo, .ref bu, .ref pa])), (st, .inr (6, [.ref la, .ref me, .ref li, .int tol, .int 0, .int 0])), (la, .inr (2, [.ref ld, .ref lz])), (lz, .inr (4, [.ref lzA, .int 0])), (me, .inr (4, [.ref meA, .int 0])), (ln, .inr (4, [.ref lnA, .int 0]))] H := hP
  have hD : va_D A [(ld, .inr (4, [.ref ldA, .int 0])), (ll, .inr (4, [.ref llA, .int 0])), (lc, .inr (4, [.ref lcA, .int 0])), (re, .inr (3, [.ref rd, .int nd, .ref rl, .int ldi, .int sot, .int tie, .int 0, .int 0])), (rd, .inr (4, [.ref rdA, .int 0])), (rl, .inr (4, [.ref rlA, .int 0])), (li, .inr (0, [.ref ln, .ref ll, .ref lc])), (w, .inr (7, [.ref st, .ref hi, .ref re, .ref fo, .ref bu, .ref pa])), (st, .inr (6, [.ref la, .ref me, .ref li, .int tol, .int 0, .int 0])), (la, .inr (2, [.ref ld, .ref lz])), (lz, .inr (4, [.ref lzA, .int 0])), (me, .inr (4, [.ref meA, .int 0])), (ln, .inr (4, [.ref lnA, .int 0]))] := hD
  have hw_24 : r_23 = 0 := hw_24
  have hw_24 := hw_24.symm
  subst hw_24
  refine k_nrm (y := 0) rfl ?_
  refine lv_icmp_ge (tgt := 322) hx hb dX7_digest_247 (by decide) (fun _ => ?_) (fun c9 => absurd (by decide) c9)
  refine lv_lload_n hx hb dX7_digest_322 rfl (lv_at hl 1 rfl) ?_
  have hP9 : va_P D vwCl [(w, .inr (7, [.ref st, .ref hi, .ref re, .ref fo, .ref bu, .ref pa])), (st, .inr (6, [.ref la, .ref me, .ref li, .int tol, .int 0, .int 0])), (la, .inr (2, [.ref ld, .ref lz])), (ld, .inr (4, [.ref ldA, .int 0])), (lz, .inr (4, [.ref lzA, .int 0])), (me, .inr (4, [.ref meA, .int 0])), (li, .inr (0, [.ref ln, .ref ll, .ref lc])), (ln, .inr (4, [.ref lnA, .int 0])), (ll, .inr (4, [.ref llA, .int 0])), (lc, .inr (4, [.ref lcA, .int 0])), (re, .inr (3, [.ref rd, .int nd, .ref rl, .int ldi, .int sot, .int tie, .int 0, .int 0])), (rd, .inr (4, [.ref rdA, .int 0])), (rl, .inr (4, [.ref rlA, .int 0]))] H := hP.sub [7, 8, 9, 0, 10, 11, 6, 12, 1, 2, 3, 4, 5] rfl
  have hD9 : va_D A [(w, .inr (7, [.ref st, .ref hi, .ref re, .ref fo, .ref bu, .ref pa])), (st, .inr (6, [.ref la, .ref me, .ref li, .int tol, .int 0, .int 0])), (la, .inr (2, [.ref ld, .ref lz])), (ld, .inr (4, [.ref ldA, .int 0])), (lz, .inr (4, [.ref lzA, .int 0])), (me, .inr (4, [.ref meA, .int 0])), (li, .inr (0, [.ref ln, .ref ll, .ref lc])), (ln, .inr (4, [.ref lnA, .int 0])), (ll, .inr (4, [.ref llA, .int 0])), (lc, .inr (4, [.ref lcA, .int 0])), (re, .inr (3, [.ref rd, .int nd, .ref rl, .int ldi, .int sot, .int tie, .int 0, .int 0])), (rd, .inr (4, [.ref rdA, .int 0])), (rl, .inr (4, [.ref rlA, .int 0]))] := hD.sub [7, 8, 9, 0, 10, 11, 6, 12, 1, 2, 3, 4, 5] (by decide) rfl
  have hK9 : va_K D vwCl [] s := hK.sub [] rfl
  exact W.lret (v := 106419480113727337) hx hb hr (fun t ht9 hW9 => ⟨⟨106419480113727337, (), rfl, by first | rfl | trivial | (simp only [if_true, if_false, reduceIte, and_self]; done) | simp_all, ⟨by rw [ht9]; exact hP9, va_K.moved hW9.alike hK9, hD9⟩⟩, hS.F ht9⟩) hS.2.2 dX7_digest_323
