theorem li_BarcodeWandLaw : Cond.initialized "BarcodeWandLaw" ∈ wsA := mA 0 rfl rfl
theorem ly_L_print : k_y yL_print 4 := ⟨by decide +kernel, by decide +kernel, by decide +kernel⟩
set_option maxRecDepth 20000 in
theorem ls_L_print : Cond.static yL_print ∈ wsA := mA 571 rfl rfl
set_option maxRecDepth 20000 in
theorem Ls_L_77 : k_LW RL 77 yL_print cL_print 5 (some .int) [(0, 10, 13, 13)] 4 := ⟨mA 570 rfl rfl, ls_L_print, li_BarcodeWandLaw, mA 572 rfl rfl, ly_L_print⟩
set_option maxRecDepth 20000 in
theorem lk_X8_print : Cond.code yX8_print cX8_print 3 (some .int) ∈ wsA := mA 832 rfl rfl
theorem ly_X8_print : k_y yX8_print 2 := ⟨by decide +kernel, by decide +kernel, by decide +kernel⟩
set_option maxRecDepth 20000 in
theorem lm_X8_print : Cond.instanceMethod yX8_print ∈ wsA := mA 830 rfl rfl
set_option maxRecDepth 20000 in
theorem le_X8_print : Cond.selects (yX8_print).cls yX8_print yX8_print ∈ wsA := mA 831 rfl rfl
set_option maxRecDepth 20000 in
theorem Lv_L_82 : k_LV RL 82 yX8_print cX8_print 3 (some .int) 2 := ⟨mA 829 rfl rfl, lm_X8_print, le_X8_print, li_BarcodeWandModel, lk_X8_print, ly_X8_print⟩
set_option maxRecDepth 20000 in
theorem lk_X8_thrown : Cond.code yX8_thrown cX8_thrown 1 (some .int) ∈ wsA := mA 828 rfl rfl
theorem ly_X8_thrown : k_y yX8_thrown 0 := ⟨by decide +kernel, by decide +kernel, by decide +kernel⟩
set_option maxRecDepth 20000 in
theorem lm_X8_thrown : Cond.instanceMethod yX8_thrown ∈ wsA := mA 826 rfl rfl
set_option maxRecDepth 20000 in
theorem le_X8_thrown : Cond.selects (yX8_thrown).cls yX8_thrown yX8_thrown ∈ wsA := mA 827 rfl rfl
set_option maxRecDepth 20000 in
theorem Lv_L_83 : k_LV RL 83 yX8_thrown cX8_thrown 1 (some .int) 0 := ⟨mA 825 rfl rfl, lm_X8_thrown, le_X8_thrown, li_BarcodeWandModel, lk_X8_thrown, ly_X8_thrown⟩
theorem ly_L_smudge : k_y yL_smudge 4 := ⟨by decide +kernel, by decide +kernel, by decide +kernel⟩
set_option maxRecDepth 20000 in
theorem ls_L_smudge : Cond.static yL_smudge ∈ wsA := mA 609 rfl rfl
set_option maxRecDepth 20000 in
theorem Ls_L_86 : k_LW RL 86 yL_smudge cL_smudge 5 (some .int) [(0, 10, 13, 18), (0, 10, 17, 13)] 4 := ⟨mA 608 rfl rfl, ls_L_smudge, li_BarcodeWandLaw, mA 610 rfl rfl, ly_L_smudge⟩
set_option maxRecDepth 20000 in
theorem lk_X8_smudge : Cond.code yX8_smudge cX8_smudge 3 (some .int) ∈ wsA := mA 861 rfl rfl
theorem ly_X8_smudge : k_y yX8_smudge 2 := ⟨by decide +kernel, by decide +kernel, by decide +kernel⟩
set_option maxRecDepth 20000 in
theorem lm_X8_smudge : Cond.instanceMethod yX8_smudge ∈ wsA := mA 859 rfl rfl
set_option maxRecDepth 20000 in
theorem le_X8_smudge : Cond.selects (yX8_smudge).cls yX8_smudge yX8_smudge ∈ wsA := mA 860 rfl rfl
set_option maxRecDepth 20000 in
theorem Lv_L_88 : k_LV RL 88 yX8_smudge cX8_smudge 3 (some .int) 2 := ⟨mA 858 rfl rfl, lm_X8_smudge, le_X8_smudge, li_BarcodeWandModel, lk_X8_smudge, ly_X8_smudge⟩
theorem Lv_L_89 : k_LV RL 89 yX7_elements cX7_elements 1 (some .int) 0 := ⟨mA 215 rfl rfl, lm_X7_elements, le_X7_elements, li_BarcodeWand, lk_X7_elements, ly_X7_elements⟩
set_option maxRecDepth 20000 in
theorem lk_X8_elements : Cond.code yX8_elements cX8_elements 1 (some .int) ∈ wsA := mA 877 rfl rfl
theorem ly_X8_elements : k_y yX8_elements 0 := ⟨by decide +kernel, by decide +kernel, by decide +kernel⟩
set_option maxRecDepth 20000 in
theorem lm_X8_elements : Cond.instanceMethod yX8_elements ∈ wsA := mA 875 rfl rfl
set_option maxRecDepth 20000 in
theorem le_X8_elements : Cond.selects (yX8_elements).cls yX8_elements yX8_elements ∈ wsA := mA 876 rfl rfl
set_option maxRecDepth 20000 in
theorem Lv_L_92 : k_LV RL 92 yX8_elements cX8_elements 1 (some .int) 0 := ⟨mA 874 rfl rfl, lm_X8_elements, le_X8_elements, li_BarcodeWandModel, lk_X8_elements, ly_X8_elements⟩
theorem ly_L_width : k_y yL_width 3 := ⟨by decide +kernel, by decide +kernel, by decide +kernel⟩
set_option maxRecDepth 20000 in
theorem ls_L_width : Cond.static yL_width ∈ wsA := mA 618 rfl rfl
set_option maxRecDepth 20000 in
theorem Ls_L_93 : k_LW RL 93 yL_width cL_width 4 (some .int) [(0, 9, 12, 18)] 3 := ⟨mA 617 rfl rfl, ls_L_width, li_BarcodeWandLaw, mA 619 rfl rfl, ly_L_width⟩
set_option maxRecDepth 20000 in
theorem lk_X8_width : Cond.code yX8_width cX8_width 2 (some .int) ∈ wsA := mA 881 rfl rfl
theorem ly_X8_width : k_y yX8_width 1 := ⟨by decide +kernel, by decide +kernel, by decide +kernel⟩
set_option maxRecDepth 20000 in
theorem lm_X8_width : Cond.instanceMethod yX8_width ∈ wsA := mA 879 rfl rfl
set_option maxRecDepth 20000 in
theorem le_X8_width : Cond.selects (yX8_width).cls yX8_width yX8_width ∈ wsA := mA 880 rfl rfl
set_option maxRecDepth 20000 in
theorem Lv_L_96 : k_LV RL 96 yX8_width cX8_width 2 (some .int) 1 := ⟨mA 878 rfl rfl, lm_X8_width, le_X8_width, li_BarcodeWandModel, lk_X8_width, ly_X8_width⟩
theorem ly_L_labelDigit : k_y yL_labelDigit 3 := ⟨by decide +kernel, by decide +kernel, by decide +kernel⟩
set_option maxRecDepth 20000 in
theorem ls_L_labelDigit : Cond.static yL_labelDigit ∈ wsA := mA 625 rfl rfl
set_option maxRecDepth 20000 in
theorem Ls_L_97 : k_LW RL 97 yL_labelDigit cL_labelDigit 4 (some .int) [(0, 9, 12, 18)] 3 := ⟨mA 624 rfl rfl, ls_L_labelDigit, li_BarcodeWandLaw, mA 626 rfl rfl, ly_L_labelDigit⟩
set_option maxRecDepth 20000 in
theorem lk_X8_labelDigit : Cond.code yX8_labelDigit cX8_labelDigit 2 (some .int) ∈ wsA := mA 895 rfl rfl
theorem ly_X8_labelDigit : k_y yX8_labelDigit 1 := ⟨by decide +kernel, by decide +kernel, by decide +kernel⟩
set_option maxRecDepth 20000 in
theorem lm_X8_labelDigit : Cond.instanceMethod yX8_labelDigit ∈ wsA := mA 893 rfl rfl
set_option maxRecDepth 20000 in
theorem le_X8_labelDigit : Cond.selects (yX8_labelDigit).cls yX8_labelDigit yX8_labelDigit ∈ wsA := mA 894 rfl rfl
set_option maxRecDepth 20000 in
theorem Lv_L_99 : k_LV RL 99 yX8_labelDigit cX8_labelDigit 2 (some .int) 1 := ⟨mA 892 rfl rfl, lm_X8_labelDigit, le_X8_labelDigit, li_BarcodeWandModel, lk_X8_labelDigit, ly_X8_labelDigit⟩
theorem ly_L_draw : k_y yL_draw 5 := ⟨by decide +kernel, by decide +kernel, by decide +kernel⟩
set_option maxRecDepth 20000 in
theorem ls_L_draw : Cond.static yL_draw ∈ wsA := mA 633 rfl rfl
set_option maxRecDepth 20000 in
theorem Ls_L_100 : k_LW RL 100 yL_draw cL_draw 6 (some .int) [(0, 12, 15, 13), (0, 12, 19, 31)] 5 := ⟨mA 632 rfl rfl, ls_L_draw, li_BarcodeWandLaw, mA 634 rfl rfl, ly_L_draw⟩
set_option maxRecDepth 20000 in
theorem lk_X8_draw : Cond.code yX8_draw cX8_draw 4 (some .int) ∈ wsA := mA 899 rfl rfl
theorem ly_X8_draw : k_y yX8_draw 3 := ⟨by decide +kernel, by decide +kernel, by decide +kernel⟩
set_option maxRecDepth 20000 in
theorem lm_X8_draw : Cond.instanceMethod yX8_draw ∈ wsA := mA 897 rfl rfl
set_option maxRecDepth 20000 in
theorem le_X8_draw : Cond.selects (yX8_draw).cls yX8_draw yX8_draw ∈ wsA := mA 898 rfl rfl
set_option maxRecDepth 20000 in
theorem Lv_L_103 : k_LV RL 103 yX8_draw cX8_draw 4 (some .int) 3 := ⟨mA 896 rfl rfl, lm_X8_draw, le_X8_draw, li_BarcodeWandModel, lk_X8_draw, ly_X8_draw⟩
theorem dL_law_0 : decode cL_law 0 = .ok (.new 8, 3) := by decide +kernel
theorem dL_law_3 : decode cL_law 3 = .ok (.dup, 1) := by decide +kernel
theorem dL_law_4 : decode cL_law 4 = .ok (.invokespecial 73, 3) := by decide +kernel
theorem dL_law_7 : decode cL_law 7 = .ok (.astore_n 1, 1) := by decide +kernel
theorem dL_law_8 : decode cL_law 8 = .ok (.new 74, 3) := by decide +kernel
theorem dL_law_11 : decode cL_law 11 = .ok (.dup, 1) := by decide +kernel
theorem dL_law_12 : decode cL_law 12 = .ok (.invokespecial 76, 3) := by decide +kernel
theorem dL_law_15 : decode cL_law 15 = .ok (.astore_n 2, 1) := by decide +kernel
theorem dL_law_16 : decode cL_law 16 = .ok (.iconst 1, 1) := by decide +kernel
theorem dL_law_17 : decode cL_law 17 = .ok (.newarray .long, 2) := by decide +kernel
theorem dL_law_19 : decode cL_law 19 = .ok (.astore_n 3, 1) := by decide +kernel
theorem dL_law_20 : decode cL_law 20 = .ok (.iconst 0, 1) := by decide +kernel
theorem dL_law_21 : decode cL_law 21 = .ok (.istore 4, 2) := by decide +kernel
theorem dL_law_23 : decode cL_law 23 = .ok (.iload 4, 2) := by decide +kernel
theorem dL_law_25 : decode cL_law 25 = .ok (.aload_n 0, 1) := by decide +kernel
theorem dL_law_26 : decode cL_law 26 = .ok (.arraylength, 1) := by decide +kernel
theorem dL_law_27 : decode cL_law 27 = .ok (.iconst 4, 1) := by decide +kernel
theorem dL_law_28 : decode cL_law 28 = .ok (.isub, 1) := by decide +kernel
theorem dL_law_29 : decode cL_law 29 = .ok (.if_icmp .gt 1456, 3) := by decide +kernel
theorem dL_law_32 : decode cL_law 32 = .ok (.aload_n 0, 1) := by decide +kernel
theorem dL_law_33 : decode cL_law 33 = .ok (.iload 4, 2) := by decide +kernel
theorem dL_law_35 : decode cL_law 35 = .ok (.iaload, 1) := by decide +kernel
theorem dL_law_36 : decode cL_law 36 = .ok (.bipush 31, 2) := by decide +kernel
theorem dL_law_38 : decode cL_law 38 = .ok (.iand, 1) := by decide +kernel
theorem dL_law_39 : decode cL_law 39 = .ok (.tableswitch 1440 0 31 #[141, 209, 277, 290, 346, 402, 498, 554, 567, 580, 593, 649, 705, 718, 759, 815, 871, 884, 940, 996, 1052, 1065, 1078, 1174, 1230, 1243, 1299, 1312, 1325, 1369, 1413, 1426], 141) := by decide +kernel
theorem dL_law_180 : decode cL_law 180 = .ok (.aload_n 1, 1) := by decide +kernel
theorem dL_law_181 : decode cL_law 181 = .ok (.aload_n 0, 1) := by decide +kernel
theorem dL_law_182 : decode cL_law 182 = .ok (.iload 4, 2) := by decide +kernel
theorem dL_law_184 : decode cL_law 184 = .ok (.iconst 1, 1) := by decide +kernel
theorem dL_law_185 : decode cL_law 185 = .ok (.iadd, 1) := by decide +kernel
theorem dL_law_186 : decode cL_law 186 = .ok (.iaload, 1) := by decide +kernel
theorem dL_law_187 : decode cL_law 187 = .ok (.aload_n 0, 1) := by decide +kernel
theorem dL_law_188 : decode cL_law 188 = .ok (.iload 4, 2) := by decide +kernel
theorem dL_law_190 : decode cL_law 190 = .ok (.iconst 2, 1) := by decide +kernel
theorem dL_law_191 : decode cL_law 191 = .ok (.iadd, 1) := by decide +kernel
theorem dL_law_192 : decode cL_law 192 = .ok (.iaload, 1) := by decide +kernel
theorem dL_law_193 : decode cL_law 193 = .ok (.aload_n 3, 1) := by decide +kernel
theorem dL_law_194 : decode cL_law 194 = .ok (.invokestatic 77, 3) := by decide +kernel
theorem dL_law_197 : decode cL_law 197 = .ok (.istore 5, 2) := by decide +kernel
theorem dL_law_199 : decode cL_law 199 = .ok (.aload_n 2, 1) := by decide +kernel
theorem dL_law_200 : decode cL_law 200 = .ok (.aload_n 0, 1) := by decide +kernel
theorem dL_law_201 : decode cL_law 201 = .ok (.iload 4, 2) := by decide +kernel
theorem dL_law_203 : decode cL_law 203 = .ok (.iconst 1, 1) := by decide +kernel
theorem dL_law_204 : decode cL_law 204 = .ok (.iadd, 1) := by decide +kernel
theorem dL_law_205 : decode cL_law 205 = .ok (.iaload, 1) := by decide +kernel
theorem dL_law_206 : decode cL_law 206 = .ok (.aload_n 0, 1) := by decide +kernel
theorem dL_law_207 : decode cL_law 207 = .ok (.iload 4, 2) := by decide +kernel
theorem dL_law_209 : decode cL_law 209 = .ok (.iconst 2, 1) := by decide +kernel
theorem dL_law_210 : decode cL_law 210 = .ok (.iadd, 1) := by decide +kernel
theorem dL_law_211 : decode cL_law 211 = .ok (.iaload, 1) := by decide +kernel
theorem dL_law_212 : decode cL_law 212 = .ok (.invokevirtual 82, 3) := by decide +kernel
theorem dL_law_215 : decode cL_law 215 = .ok (.istore 6, 2) := by decide +kernel
theorem dL_law_217 : decode cL_law 217 = .ok (.aload_n 2, 1) := by decide +kernel
theorem dL_law_218 : decode cL_law 218 = .ok (.invokevirtual 83, 3) := by decide +kernel
theorem dL_law_221 : decode cL_law 221 = .ok (.iload 5, 2) := by decide +kernel
theorem dL_law_223 : decode cL_law 223 = .ok (.if_icmp .eq 5, 3) := by decide +kernel
theorem dL_law_226 : decode cL_law 226 = .ok (.iconst 0, 1) := by decide +kernel
theorem dL_law_227 : decode cL_law 227 = .ok (.ireturn, 1) := by decide +kernel
theorem dL_law_228 : decode cL_law 228 = .ok (.iload 5, 2) := by decide +kernel
theorem dL_law_230 : decode cL_law 230 = .ok (.ifCond .ne 15, 3) := by decide +kernel
theorem dL_law_233 : decode cL_law 233 = .ok (.aload_n 3, 1) := by decide +kernel
theorem dL_law_234 : decode cL_law 234 = .ok (.iconst 0, 1) := by decide +kernel
theorem dL_law_235 : decode cL_law 235 = .ok (.laload, 1) := by decide +kernel
theorem dL_law_236 : decode cL_law 236 = .ok (.iload 6, 2) := by decide +kernel
theorem dL_law_238 : decode cL_law 238 = .ok (.i2l, 1) := by decide +kernel
theorem dL_law_239 : decode cL_law 239 = .ok (.lcmp, 1) := by decide +kernel
theorem dL_law_240 : decode cL_law 240 = .ok (.ifCond .eq 5, 3) := by decide +kernel
theorem dL_law_243 : decode cL_law 243 = .ok (.iconst 0, 1) := by decide +kernel
theorem dL_law_244 : decode cL_law 244 = .ok (.ireturn, 1) := by decide +kernel
theorem dL_law_245 : decode cL_law 245 = .ok (.goto 1234, 3) := by decide +kernel
theorem dL_law_248 : decode cL_law 248 = .ok (.aload_n 1, 1) := by decide +kernel
theorem dL_law_249 : decode cL_law 249 = .ok (.aload_n 0, 1) := by decide +kernel
theorem dL_law_250 : decode cL_law 250 = .ok (.iload 4, 2) := by decide +kernel
theorem dL_law_252 : decode cL_law 252 = .ok (.iconst 1, 1) := by decide +kernel
theorem dL_law_253 : decode cL_law 253 = .ok (.iadd, 1) := by decide +kernel
theorem dL_law_254 : decode cL_law 254 = .ok (.iaload, 1) := by decide +kernel
theorem dL_law_255 : decode cL_law 255 = .ok (.aload_n 0, 1) := by decide +kernel
theorem dL_law_256 : decode cL_law 256 = .ok (.iload 4, 2) := by decide +kernel
theorem dL_law_258 : decode cL_law 258 = .ok (.iconst 2, 1) := by decide +kernel
theorem dL_law_259 : decode cL_law 259 = .ok (.iadd, 1) := by decide +kernel
theorem dL_law_260 : decode cL_law 260 = .ok (.iaload, 1) := by decide +kernel
theorem dL_law_261 : decode cL_law 261 = .ok (.aload_n 3, 1) := by decide +kernel
theorem dL_law_262 : decode cL_law 262 = .ok (.invokestatic 86, 3) := by decide +kernel
theorem dL_law_265 : decode cL_law 265 = .ok (.istore 5, 2) := by decide +kernel
theorem dL_law_267 : decode cL_law 267 = .ok (.aload_n 2, 1) := by decide +kernel
theorem dL_law_268 : decode cL_law 268 = .ok (.aload_n 0, 1) := by decide +kernel
theorem dL_law_269 : decode cL_law 269 = .ok (.iload 4, 2) := by decide +kernel
theorem dL_law_271 : decode cL_law 271 = .ok (.iconst 1, 1) := by decide +kernel
theorem dL_law_272 : decode cL_law 272 = .ok (.iadd, 1) := by decide +kernel
theorem dL_law_273 : decode cL_law 273 = .ok (.iaload, 1) := by decide +kernel
theorem dL_law_274 : decode cL_law 274 = .ok (.aload_n 0, 1) := by decide +kernel
theorem dL_law_275 : decode cL_law 275 = .ok (.iload 4, 2) := by decide +kernel
theorem dL_law_277 : decode cL_law 277 = .ok (.iconst 2, 1) := by decide +kernel
theorem dL_law_278 : decode cL_law 278 = .ok (.iadd, 1) := by decide +kernel
theorem dL_law_279 : decode cL_law 279 = .ok (.iaload, 1) := by decide +kernel
theorem dL_law_280 : decode cL_law 280 = .ok (.invokevirtual 88, 3) := by decide +kernel
theorem dL_law_283 : decode cL_law 283 = .ok (.istore 6, 2) := by decide +kernel
theorem dL_law_285 : decode cL_law 285 = .ok (.aload_n 2, 1) := by decide +kernel
theorem dL_law_286 : decode cL_law 286 = .ok (.invokevirtual 83, 3) := by decide +kernel
theorem dL_law_289 : decode cL_law 289 = .ok (.iload 5, 2) := by decide +kernel
theorem dL_law_291 : decode cL_law 291 = .ok (.if_icmp .eq 5, 3) := by decide +kernel
theorem dL_law_294 : decode cL_law 294 = .ok (.iconst 0, 1) := by decide +kernel
theorem dL_law_295 : decode cL_law 295 = .ok (.ireturn, 1) := by decide +kernel
theorem dL_law_296 : decode cL_law 296 = .ok (.iload 5, 2) := by decide +kernel
theorem dL_law_298 : decode cL_law 298 = .ok (.ifCond .ne 15, 3) := by decide +kernel
theorem dL_law_301 : decode cL_law 301 = .ok (.aload_n 3, 1) := by decide +kernel
theorem dL_law_302 : decode cL_law 302 = .ok (.iconst 0, 1) := by decide +kernel
theorem dL_law_303 : decode cL_law 303 = .ok (.laload, 1) := by decide +kernel
theorem dL_law_304 : decode cL_law 304 = .ok (.iload 6, 2) := by decide +kernel
theorem dL_law_306 : decode cL_law 306 = .ok (.i2l, 1) := by decide +kernel
theorem dL_law_307 : decode cL_law 307 = .ok (.lcmp, 1) := by decide +kernel
theorem dL_law_308 : decode cL_law 308 = .ok (.ifCond .eq 5, 3) := by decide +kernel
theorem dL_law_311 : decode cL_law 311 = .ok (.iconst 0, 1) := by decide +kernel
theorem dL_law_312 : decode cL_law 312 = .ok (.ireturn, 1) := by decide +kernel
theorem dL_law_313 : decode cL_law 313 = .ok (.goto 1166, 3) := by decide +kernel
theorem dL_law_316 : decode cL_law 316 = .ok (.aload_n 1, 1) := by decide +kernel
theorem dL_law_317 : decode cL_law 317 = .ok (.invokevirtual 89, 3) := by decide +kernel
theorem dL_law_320 : decode cL_law 320 = .ok (.aload_n 2, 1) := by decide +kernel
theorem dL_law_321 : decode cL_law 321 = .ok (.invokevirtual 92, 3) := by decide +kernel
theorem dL_law_324 : decode cL_law 324 = .ok (.if_icmp .eq 1155, 3) := by decide +kernel
theorem dL_law_327 : decode cL_law 327 = .ok (.iconst 0, 1) := by decide +kernel
theorem dL_law_328 : decode cL_law 328 = .ok (.ireturn, 1) := by decide +kernel
theorem dL_law_329 : decode cL_law 329 = .ok (.aload_n 1, 1) := by decide +kernel
theorem dL_law_330 : decode cL_law 330 = .ok (.aload_n 0, 1) := by decide +kernel
theorem dL_law_331 : decode cL_law 331 = .ok (.iload 4, 2) := by decide +kernel
theorem dL_law_333 : decode cL_law 333 = .ok (.iconst 1, 1) := by decide +kernel
theorem dL_law_334 : decode cL_law 334 = .ok (.iadd, 1) := by decide +kernel
theorem dL_law_335 : decode cL_law 335 = .ok (.iaload, 1) := by decide +kernel
theorem dL_law_336 : decode cL_law 336 = .ok (.aload_n 3, 1) := by decide +kernel
theorem dL_law_337 : decode cL_law 337 = .ok (.invokestatic 93, 3) := by decide +kernel
theorem dL_law_340 : decode cL_law 340 = .ok (.istore 5, 2) := by decide +kernel
theorem dL_law_342 : decode cL_law 342 = .ok (.aload_n 2, 1) := by decide +kernel
theorem dL_law_343 : decode cL_law 343 = .ok (.aload_n 0, 1) := by decide +kernel
theorem dL_law_344 : decode cL_law 344 = .ok (.iload 4, 2) := by decide +kernel
theorem dL_law_346 : decode cL_law 346 = .ok (.iconst 1, 1) := by decide +kernel
theorem dL_law_347 : decode cL_law 347 = .ok (.iadd, 1) := by decide +kernel
theorem dL_law_348 : decode cL_law 348 = .ok (.iaload, 1) := by decide +kernel
theorem dL_law_349 : decode cL_law 349 = .ok (.invokevirtual 96, 3) := by decide +kernel
theorem dL_law_352 : decode cL_law 352 = .ok (.istore 6, 2) := by decide +kernel
theorem dL_law_354 : decode cL_law 354 = .ok (.aload_n 2, 1) := by decide +kernel
theorem dL_law_355 : decode cL_law 355 = .ok (.invokevirtual 83, 3) := by decide +kernel
theorem dL_law_358 : decode cL_law 358 = .ok (.iload 5, 2) := by decide +kernel
theorem dL_law_360 : decode cL_law 360 = .ok (.if_icmp .eq 5, 3) := by decide +kernel
theorem dL_law_363 : decode cL_law 363 = .ok (.iconst 0, 1) := by decide +kernel
theorem dL_law_364 : decode cL_law 364 = .ok (.ireturn, 1) := by decide +kernel
theorem dL_law_365 : decode cL_law 365 = .ok (.iload 5, 2) := by decide +kernel
theorem dL_law_367 : decode cL_law 367 = .ok (.ifCond .ne 15, 3) := by decide +kernel
theorem dL_law_370 : decode cL_law 370 = .ok (.aload_n 3, 1) := by decide +kernel
theorem dL_law_371 : decode cL_law 371 = .ok (.iconst 0, 1) := by decide +kernel
theorem dL_law_372 : decode cL_law 372 = .ok (.laload, 1) := by decide +kernel
theorem dL_law_373 : decode cL_law 373 = .ok (.iload 6, 2) := by decide +kernel
theorem dL_law_375 : decode cL_law 375 = .ok (.i2l, 1) := by decide +kernel
theorem dL_law_376 : decode cL_law 376 = .ok (.lcmp, 1) := by decide +kernel
theorem dL_law_377 : decode cL_law 377 = .ok (.ifCond .eq 5, 3) := by decide +kernel
theorem dL_law_380 : decode cL_law 380 = .ok (.iconst 0, 1) := by decide +kernel
theorem dL_law_381 : decode cL_law 381 = .ok (.ireturn, 1) := by decide +kernel
theorem dL_law_382 : decode cL_law 382 = .ok (.goto 1097, 3) := by decide +kernel
theorem dL_law_385 : decode cL_law 385 = .ok (.aload_n 1, 1) := by decide +kernel
theorem dL_law_386 : decode cL_law 386 = .ok (.aload_n 0, 1) := by decide +kernel
theorem dL_law_387 : decode cL_law 387 = .ok (.iload 4, 2) := by decide +kernel
theorem dL_law_389 : decode cL_law 389 = .ok (.iconst 1, 1) := by decide +kernel
theorem dL_law_390 : decode cL_law 390 = .ok (.iadd, 1) := by decide +kernel
theorem dL_law_391 : decode cL_law 391 = .ok (.iaload, 1) := by decide +kernel
theorem dL_law_392 : decode cL_law 392 = .ok (.aload_n 3, 1) := by decide +kernel
theorem dL_law_393 : decode cL_law 393 = .ok (.invokestatic 97, 3) := by decide +kernel
theorem dL_law_396 : decode cL_law 396 = .ok (.istore 5, 2) := by decide +kernel
theorem dL_law_398 : decode cL_law 398 = .ok (.aload_n 2, 1) := by decide +kernel
theorem dL_law_399 : decode cL_law 399 = .ok (.aload_n 0, 1) := by decide +kernel
theorem dL_law_400 : decode cL_law 400 = .ok (.iload 4, 2) := by decide +kernel
theorem dL_law_402 : decode cL_law 402 = .ok (.iconst 1, 1) := by decide +kernel
theorem dL_law_403 : decode cL_law 403 = .ok (.iadd, 1) := by decide +kernel
theorem dL_law_404 : decode cL_law 404 = .ok (.iaload, 1) := by decide +kernel
theorem dL_law_405 : decode cL_law 405 = .ok (.invokevirtual 99, 3) := by decide +kernel
theorem dL_law_408 : decode cL_law 408 = .ok (.istore 6, 2) := by decide +kernel
theorem dL_law_410 : decode cL_law 410 = .ok (.aload_n 2, 1) := by decide +kernel
theorem dL_law_411 : decode cL_law 411 = .ok (.invokevirtual 83, 3) := by decide +kernel
theorem dL_law_414 : decode cL_law 414 = .ok (.iload 5, 2) := by decide +kernel
theorem dL_law_416 : decode cL_law 416 = .ok (.if_icmp .eq 5, 3) := by decide +kernel
theorem dL_law_419 : decode cL_law 419 = .ok (.iconst 0, 1) := by decide +kernel
theorem dL_law_420 : decode cL_law 420 = .ok (.ireturn, 1) := by decide +kernel
theorem dL_law_421 : decode cL_law 421 = .ok (.iload 5, 2) := by decide +kernel
theorem dL_law_423 : decode cL_law 423 = .ok (.ifCond .ne 15, 3) := by decide +kernel
theorem dL_law_426 : decode cL_law 426 = .ok (.aload_n 3, 1) := by decide +kernel
theorem dL_law_427 : decode cL_law 427 = .ok (.iconst 0, 1) := by decide +kernel
theorem dL_law_428 : decode cL_law 428 = .ok (.laload, 1) := by decide +kernel
theorem dL_law_429 : decode cL_law 429 = .ok (.iload 6, 2) := by decide +kernel
theorem dL_law_431 : decode cL_law 431 = .ok (.i2l, 1) := by decide +kernel
theorem dL_law_432 : decode cL_law 432 = .ok (.lcmp, 1) := by decide +kernel
theorem dL_law_433 : decode cL_law 433 = .ok (.ifCond .eq 5, 3) := by decide +kernel
theorem dL_law_436 : decode cL_law 436 = .ok (.iconst 0, 1) := by decide +kernel
theorem dL_law_437 : decode cL_law 437 = .ok (.ireturn, 1) := by decide +kernel
theorem dL_law_438 : decode cL_law 438 = .ok (.goto 1041, 3) := by decide +kernel
theorem dL_law_441 : decode cL_law 441 = .ok (.aload_n 1, 1) := by decide +kernel
theorem dL_law_442 : decode cL_law 442 = .ok (.aload_n 0, 1) := by decide +kernel
theorem dL_law_443 : decode cL_law 443 = .ok (.iload 4, 2) := by decide +kernel
theorem dL_law_445 : decode cL_law 445 = .ok (.iconst 1, 1) := by decide +kernel
theorem dL_law_446 : decode cL_law 446 = .ok (.iadd, 1) := by decide +kernel
theorem dL_law_447 : decode cL_law 447 = .ok (.iaload, 1) := by decide +kernel
theorem dL_law_448 : decode cL_law 448 = .ok (.aload_n 0, 1) := by decide +kernel
theorem dL_law_449 : decode cL_law 449 = .ok (.iload 4, 2) := by decide +kernel
theorem dL_law_451 : decode cL_law 451 = .ok (.iconst 2, 1) := by decide +kernel
theorem dL_law_452 : decode cL_law 452 = .ok (.iadd, 1) := by decide +kernel
theorem dL_law_453 : decode cL_law 453 = .ok (.iaload, 1) := by decide +kernel
theorem dL_law_454 : decode cL_law 454 = .ok (.aload_n 0, 1) := by decide +kernel
theorem dL_law_455 : decode cL_law 455 = .ok (.iload 4, 2) := by decide +kernel
theorem dL_law_457 : decode cL_law 457 = .ok (.iconst 3, 1) := by decide +kernel
theorem dL_law_458 : decode cL_law 458 = .ok (.iadd, 1) := by decide +kernel
theorem dL_law_459 : decode cL_law 459 = .ok (.iaload, 1) := by decide +kernel
theorem dL_law_460 : decode cL_law 460 = .ok (.ifCond .eq 7, 3) := by decide +kernel
theorem dL_law_463 : decode cL_law 463 = .ok (.iconst 1, 1) := by decide +kernel
theorem dL_law_464 : decode cL_law 464 = .ok (.goto 4, 3) := by decide +kernel
theorem dL_law_467 : decode cL_law 467 = .ok (.iconst 0, 1) := by decide +kernel
theorem dL_law_468 : decode cL_law 468 = .ok (.aload_n 3, 1) := by decide +kernel
theorem dL_law_469 : decode cL_law 469 = .ok (.invokestatic 100, 3) := by decide +kernel
theorem dL_law_472 : decode cL_law 472 = .ok (.istore 5, 2) := by decide +kernel
theorem dL_law_474 : decode cL_law 474 = .ok (.aload_n 2, 1) := by decide +kernel
theorem dL_law_475 : decode cL_law 475 = .ok (.aload_n 0, 1) := by decide +kernel
theorem dL_law_476 : decode cL_law 476 = .ok (.iload 4, 2) := by decide +kernel
theorem dL_law_478 : decode cL_law 478 = .ok (.iconst 1, 1) := by decide +kernel
theorem dL_law_479 : decode cL_law 479 = .ok (.iadd, 1) := by decide +kernel
theorem dL_law_480 : decode cL_law 480 = .ok (.iaload, 1) := by decide +kernel
theorem dL_law_481 : decode cL_law 481 = .ok (.aload_n 0, 1) := by decide +kernel
theorem dL_law_482 : decode cL_law 482 = .ok (.iload 4, 2) := by decide +kernel
theorem dL_law_484 : decode cL_law 484 = .ok (.iconst 2, 1) := by decide +kernel
theorem dL_law_485 : decode cL_law 485 = .ok (.iadd, 1) := by decide +kernel
theorem dL_law_486 : decode cL_law 486 = .ok (.iaload, 1) := by decide +kernel
theorem dL_law_487 : decode cL_law 487 = .ok (.aload_n 0, 1) := by decide +kernel
theorem dL_law_488 : decode cL_law 488 = .ok (.iload 4, 2) := by decide +kernel
theorem dL_law_490 : decode cL_law 490 = .ok (.iconst 3, 1) := by decide +kernel
theorem dL_law_491 : decode cL_law 491 = .ok (.iadd, 1) := by decide +kernel
theorem dL_law_492 : decode cL_law 492 = .ok (.iaload, 1) := by decide +kernel
theorem dL_law_493 : decode cL_law 493 = .ok (.ifCond .eq 7, 3) := by decide +kernel
theorem dL_law_496 : decode cL_law 496 = .ok (.iconst 1, 1) := by decide +kernel
theorem dL_law_497 : decode cL_law 497 = .ok (.goto 4, 3) := by decide +kernel
theorem dL_law_500 : decode cL_law 500 = .ok (.iconst 0, 1) := by decide +kernel
theorem dL_law_501 : decode cL_law 501 = .ok (.invokevirtual 103, 3) := by decide +kernel
theorem dL_law_504 : decode cL_law 504 = .ok (.istore 6, 2) := by decide +kernel
theorem dL_law_506 : decode cL_law 506 = .ok (.aload_n 2, 1) := by decide +kernel
theorem dL_law_507 : decode cL_law 507 = .ok (.invokevirtual 83, 3) := by decide +kernel
theorem dL_law_510 : decode cL_law 510 = .ok (.iload 5, 2) := by decide +kernel
theorem dL_law_512 : decode cL_law 512 = .ok (.if_icmp .eq 5, 3) := by decide +kernel
theorem dL_law_515 : decode cL_law 515 = .ok (.iconst 0, 1) := by decide +kernel
theorem dL_law_516 : decode cL_law 516 = .ok (.ireturn, 1) := by decide +kernel
theorem dL_law_517 : decode cL_law 517 = .ok (.iload 5, 2) := by decide +kernel
theorem dL_law_519 : decode cL_law 519 = .ok (.ifCond .ne 15, 3) := by decide +kernel
theorem dL_law_522 : decode cL_law 522 = .ok (.aload_n 3, 1) := by decide +kernel
theorem dL_law_523 : decode cL_law 523 = .ok (.iconst 0, 1) := by decide +kernel
theorem dL_law_524 : decode cL_law 524 = .ok (.laload, 1) := by decide +kernel
theorem dL_law_525 : decode cL_law 525 = .ok (.iload 6, 2) := by decide +kernel
theorem dL_law_527 : decode cL_law 527 = .ok (.i2l, 1) := by decide +kernel
theorem dL_law_528 : decode cL_law 528 = .ok (.lcmp, 1) := by decide +kernel
theorem dL_law_529 : decode cL_law 529 = .ok (.ifCond .eq 5, 3) := by decide +kernel
theorem dL_law_532 : decode cL_law 532 = .ok (.iconst 0, 1) := by decide +kernel
theorem dL_law_533 : decode cL_law 533 = .ok (.ireturn, 1) := by decide +kernel
theorem dL_law_534 : decode cL_law 534 = .ok (.goto 945, 3) := by decide +kernel
theorem dL_law_537 : decode cL_law 537 = .ok (.aload_n 1, 1) := by decide +kernel
theorem dL_law_538 : decode cL_law 538 = .ok (.aload_n 0, 1) := by decide +kernel
theorem dL_law_539 : decode cL_law 539 = .ok (.iload 4, 2) := by decide +kernel
theorem dL_law_541 : decode cL_law 541 = .ok (.iconst 1, 1) := by decide +kernel
theorem dL_law_542 : decode cL_law 542 = .ok (.iadd, 1) := by decide +kernel
theorem dL_law_543 : decode cL_law 543 = .ok (.iaload, 1) := by decide +kernel
theorem dL_law_544 : decode cL_law 544 = .ok (.aload_n 3, 1) := by decide +kernel
theorem dL_law_545 : decode cL_law 545 = .ok (.invokestatic 104, 3) := by decide +kernel
theorem dL_law_548 : decode cL_law 548 = .ok (.istore 5, 2) := by decide +kernel
theorem dL_law_550 : decode cL_law 550 = .ok (.aload_n 2, 1) := by decide +kernel
theorem dL_law_551 : decode cL_law 551 = .ok (.aload_n 0, 1) := by decide +kernel
theorem dL_law_552 : decode cL_law 552 = .ok (.iload 4, 2) := by decide +kernel
theorem dL_law_554 : decode cL_law 554 = .ok (.iconst 1, 1) := by decide +kernel
theorem dL_law_555 : decode cL_law 555 = .ok (.iadd, 1) := by decide +kernel
theorem dL_law_556 : decode cL_law 556 = .ok (.iaload, 1) := by decide +kernel
theorem dL_law_557 : decode cL_law 557 = .ok (.invokevirtual 106, 3) := by decide +kernel
theorem dL_law_560 : decode cL_law 560 = .ok (.istore 6, 2) := by decide +kernel
theorem dL_law_562 : decode cL_law 562 = .ok (.aload_n 2, 1) := by decide +kernel
theorem dL_law_563 : decode cL_law 563 = .ok (.invokevirtual 83, 3) := by decide +kernel
theorem dL_law_566 : decode cL_law 566 = .ok (.iload 5, 2) := by decide +kernel
theorem dL_law_568 : decode cL_law 568 = .ok (.if_icmp .eq 5, 3) := by decide +kernel
theorem dL_law_571 : decode cL_law 571 = .ok (.iconst 0, 1) := by decide +kernel
theorem dL_law_572 : decode cL_law 572 = .ok (.ireturn, 1) := by decide +kernel
theorem dL_law_573 : decode cL_law 573 = .ok (.iload 5, 2) := by decide +kernel
theorem dL_law_575 : decode cL_law 575 = .ok (.ifCond .ne 15, 3) := by decide +kernel
theorem dL_law_578 : decode cL_law 578 = .ok (.aload_n 3, 1) := by decide +kernel
theorem dL_law_579 : decode cL_law 579 = .ok (.iconst 0, 1) := by decide +kernel
theorem dL_law_580 : decode cL_law 580 = .ok (.laload, 1) := by decide +kernel
theorem dL_law_581 : decode cL_law 581 = .ok (.iload 6, 2) := by decide +kernel
theorem dL_law_583 : decode cL_law 583 = .ok (.i2l, 1) := by decide +kernel
theorem dL_law_584 : decode cL_law 584 = .ok (.lcmp, 1) := by decide +kernel
theorem dL_law_585 : decode cL_law 585 = .ok (.ifCond .eq 5, 3) := by decide +kernel
theorem dL_law_588 : decode cL_law 588 = .ok (.iconst 0, 1) := by decide +kernel
theorem dL_law_589 : decode cL_law 589 = .ok (.ireturn, 1) := by decide +kernel
theorem dL_law_590 : decode cL_law 590 = .ok (.goto 889, 3) := by decide +kernel
theorem dL_law_593 : decode cL_law 593 = .ok (.aload_n 1, 1) := by decide +kernel
theorem dL_law_594 : decode cL_law 594 = .ok (.invokevirtual 107, 3) := by decide +kernel
theorem dL_law_597 : decode cL_law 597 = .ok (.aload_n 2, 1) := by decide +kernel
theorem dL_law_598 : decode cL_law 598 = .ok (.invokevirtual 110, 3) := by decide +kernel
theorem dL_law_601 : decode cL_law 601 = .ok (.if_icmp .eq 878, 3) := by decide +kernel
theorem dL_law_604 : decode cL_law 604 = .ok (.iconst 0, 1) := by decide +kernel
theorem dL_law_605 : decode cL_law 605 = .ok (.ireturn, 1) := by decide +kernel
theorem dL_law_606 : decode cL_law 606 = .ok (.aload_n 1, 1) := by decide +kernel
theorem dL_law_607 : decode cL_law 607 = .ok (.invokevirtual 111, 3) := by decide +kernel
theorem dL_law_610 : decode cL_law 610 = .ok (.aload_n 2, 1) := by decide +kernel
theorem dL_law_611 : decode cL_law 611 = .ok (.invokevirtual 114, 3) := by decide +kernel
theorem dL_law_614 : decode cL_law 614 = .ok (.if_icmp .eq 865, 3) := by decide +kernel
theorem dL_law_617 : decode cL_law 617 = .ok (.iconst 0, 1) := by decide +kernel
theorem dL_law_618 : decode cL_law 618 = .ok (.ireturn, 1) := by decide +kernel
theorem dL_law_619 : decode cL_law 619 = .ok (.aload_n 1, 1) := by decide +kernel
theorem dL_law_620 : decode cL_law 620 = .ok (.invokevirtual 115, 3) := by decide +kernel
theorem dL_law_623 : decode cL_law 623 = .ok (.aload_n 2, 1) := by decide +kernel
theorem dL_law_624 : decode cL_law 624 = .ok (.invokevirtual 118, 3) := by decide +kernel
theorem dL_law_627 : decode cL_law 627 = .ok (.if_icmp .eq 852, 3) := by decide +kernel
theorem dL_law_630 : decode cL_law 630 = .ok (.iconst 0, 1) := by decide +kernel
theorem dL_law_631 : decode cL_law 631 = .ok (.ireturn, 1) := by decide +kernel
theorem dL_law_632 : decode cL_law 632 = .ok (.aload_n 1, 1) := by decide +kernel
theorem dL_law_633 : decode cL_law 633 = .ok (.aload_n 0, 1) := by decide +kernel
theorem dL_law_634 : decode cL_law 634 = .ok (.iload 4, 2) := by decide +kernel
theorem dL_law_636 : decode cL_law 636 = .ok (.iconst 1, 1) := by decide +kernel
theorem dL_law_637 : decode cL_law 637 = .ok (.iadd, 1) := by decide +kernel
theorem dL_law_638 : decode cL_law 638 = .ok (.iaload, 1) := by decide +kernel
theorem dL_law_639 : decode cL_law 639 = .ok (.aload_n 3, 1) := by decide +kernel
theorem dL_law_640 : decode cL_law 640 = .ok (.invokestatic 119, 3) := by decide +kernel
theorem dL_law_643 : decode cL_law 643 = .ok (.istore 5, 2) := by decide +kernel
theorem dL_law_645 : decode cL_law 645 = .ok (.aload_n 2, 1) := by decide +kernel
theorem dL_law_646 : decode cL_law 646 = .ok (.aload_n 0, 1) := by decide +kernel
theorem dL_law_647 : decode cL_law 647 = .ok (.iload 4, 2) := by decide +kernel
theorem dL_law_649 : decode cL_law 649 = .ok (.iconst 1, 1) := by decide +kernel
theorem dL_law_650 : decode cL_law 650 = .ok (.iadd, 1) := by decide +kernel
theorem dL_law_651 : decode cL_law 651 = .ok (.iaload, 1) := by decide +kernel
theorem dL_law_652 : decode cL_law 652 = .ok (.invokevirtual 121, 3) := by decide +kernel
theorem dL_law_655 : decode cL_law 655 = .ok (.istore 6, 2) := by decide +kernel
theorem dL_law_657 : decode cL_law 657 = .ok (.aload_n 2, 1) := by decide +kernel
theorem dL_law_658 : decode cL_law 658 = .ok (.invokevirtual 83, 3) := by decide +kernel
theorem dL_law_661 : decode cL_law 661 = .ok (.iload 5, 2) := by decide +kernel
theorem dL_law_663 : decode cL_law 663 = .ok (.if_icmp .eq 5, 3) := by decide +kernel
theorem dL_law_666 : decode cL_law 666 = .ok (.iconst 0, 1) := by decide +kernel
theorem dL_law_667 : decode cL_law 667 = .ok (.ireturn, 1) := by decide +kernel
theorem dL_law_668 : decode cL_law 668 = .ok (.iload 5, 2) := by decide +kernel
theorem dL_law_670 : decode cL_law 670 = .ok (.ifCond .ne 15, 3) := by decide +kernel
theorem dL_law_673 : decode cL_law 673 = .ok (.aload_n 3, 1) := by decide +kernel
theorem dL_law_674 : decode cL_law 674 = .ok (.iconst 0, 1) := by decide +kernel
theorem dL_law_675 : decode cL_law 675 = .ok (.laload, 1) := by decide +kernel
theorem dL_law_676 : decode cL_law 676 = .ok (.iload 6, 2) := by decide +kernel
theorem dL_law_678 : decode cL_law 678 = .ok (.i2l, 1) := by decide +kernel
theorem dL_law_679 : decode cL_law 679 = .ok (.lcmp, 1) := by decide +kernel
theorem dL_law_680 : decode cL_law 680 = .ok (.ifCond .eq 5, 3) := by decide +kernel
theorem dL_law_683 : decode cL_law 683 = .ok (.iconst 0, 1) := by decide +kernel
theorem dL_law_684 : decode cL_law 684 = .ok (.ireturn, 1) := by decide +kernel
theorem dL_law_685 : decode cL_law 685 = .ok (.goto 794, 3) := by decide +kernel
theorem dL_law_688 : decode cL_law 688 = .ok (.aload_n 1, 1) := by decide +kernel
theorem dL_law_689 : decode cL_law 689 = .ok (.aload_n 0, 1) := by decide +kernel
theorem dL_law_690 : decode cL_law 690 = .ok (.iload 4, 2) := by decide +kernel
theorem dL_law_692 : decode cL_law 692 = .ok (.iconst 1, 1) := by decide +kernel
theorem dL_law_693 : decode cL_law 693 = .ok (.iadd, 1) := by decide +kernel
theorem dL_law_694 : decode cL_law 694 = .ok (.iaload, 1) := by decide +kernel
theorem dL_law_695 : decode cL_law 695 = .ok (.aload_n 3, 1) := by decide +kernel
theorem dL_law_696 : decode cL_law 696 = .ok (.invokestatic 122, 3) := by decide +kernel
theorem dL_law_699 : decode cL_law 699 = .ok (.istore 5, 2) := by decide +kernel
theorem dL_law_701 : decode cL_law 701 = .ok (.aload_n 2, 1) := by decide +kernel
theorem dL_law_702 : decode cL_law 702 = .ok (.aload_n 0, 1) := by decide +kernel
theorem dL_law_703 : decode cL_law 703 = .ok (.iload 4, 2) := by decide +kernel
theorem dL_law_705 : decode cL_law 705 = .ok (.iconst 1, 1) := by decide +kernel
theorem dL_law_706 : decode cL_law 706 = .ok (.iadd, 1) := by decide +kernel
theorem dL_law_707 : decode cL_law 707 = .ok (.iaload, 1) := by decide +kernel
theorem dL_law_708 : decode cL_law 708 = .ok (.invokevirtual 124, 3) := by decide +kernel
theorem dL_law_711 : decode cL_law 711 = .ok (.istore 6, 2) := by decide +kernel
theorem dL_law_713 : decode cL_law 713 = .ok (.aload_n 2, 1) := by decide +kernel
theorem dL_law_714 : decode cL_law 714 = .ok (.invokevirtual 83, 3) := by decide +kernel
theorem dL_law_717 : decode cL_law 717 = .ok (.iload 5, 2) := by decide +kernel
theorem dL_law_719 : decode cL_law 719 = .ok (.if_icmp .eq 5, 3) := by decide +kernel
theorem dL_law_722 : decode cL_law 722 = .ok (.iconst 0, 1) := by decide +kernel
theorem dL_law_723 : decode cL_law 723 = .ok (.ireturn, 1) := by decide +kernel
theorem dL_law_724 : decode cL_law 724 = .ok (.iload 5, 2) := by decide +kernel
theorem dL_law_726 : decode cL_law 726 = .ok (.ifCond .ne 15, 3) := by decide +kernel
theorem dL_law_729 : decode cL_law 729 = .ok (.aload_n 3, 1) := by decide +kernel
theorem dL_law_730 : decode cL_law 730 = .ok (.iconst 0, 1) := by decide +kernel
theorem dL_law_731 : decode cL_law 731 = .ok (.laload, 1) := by decide +kernel
theorem dL_law_732 : decode cL_law 732 = .ok (.iload 6, 2) := by decide +kernel
theorem dL_law_734 : decode cL_law 734 = .ok (.i2l, 1) := by decide +kernel
theorem dL_law_735 : decode cL_law 735 = .ok (.lcmp, 1) := by decide +kernel
theorem dL_law_736 : decode cL_law 736 = .ok (.ifCond .eq 5, 3) := by decide +kernel
theorem dL_law_739 : decode cL_law 739 = .ok (.iconst 0, 1) := by decide +kernel
theorem dL_law_740 : decode cL_law 740 = .ok (.ireturn, 1) := by decide +kernel
theorem dL_law_741 : decode cL_law 741 = .ok (.goto 738, 3) := by decide +kernel
theorem dL_law_744 : decode cL_law 744 = .ok (.aload_n 1, 1) := by decide +kernel
theorem dL_law_745 : decode cL_law 745 = .ok (.invokevirtual 125, 3) := by decide +kernel
theorem dL_law_748 : decode cL_law 748 = .ok (.aload_n 2, 1) := by decide +kernel
theorem dL_law_749 : decode cL_law 749 = .ok (.invokevirtual 128, 3) := by decide +kernel
theorem dL_law_752 : decode cL_law 752 = .ok (.if_icmp .eq 727, 3) := by decide +kernel
theorem dL_law_755 : decode cL_law 755 = .ok (.iconst 0, 1) := by decide +kernel
theorem dL_law_756 : decode cL_law 756 = .ok (.ireturn, 1) := by decide +kernel
theorem dL_law_757 : decode cL_law 757 = .ok (.aload_n 1, 1) := by decide +kernel
theorem dL_law_758 : decode cL_law 758 = .ok (.aload_n 0, 1) := by decide +kernel
theorem dL_law_759 : decode cL_law 759 = .ok (.iload 4, 2) := by decide +kernel
theorem dL_law_761 : decode cL_law 761 = .ok (.iconst 1, 1) := by decide +kernel
theorem dL_law_762 : decode cL_law 762 = .ok (.iadd, 1) := by decide +kernel
theorem dL_law_763 : decode cL_law 763 = .ok (.iaload, 1) := by decide +kernel
theorem dL_law_764 : decode cL_law 764 = .ok (.ifCond .eq 7, 3) := by decide +kernel
theorem dL_law_767 : decode cL_law 767 = .ok (.iconst 1, 1) := by decide +kernel
theorem dL_law_768 : decode cL_law 768 = .ok (.goto 4, 3) := by decide +kernel
theorem dL_law_771 : decode cL_law 771 = .ok (.iconst 0, 1) := by decide +kernel
theorem dL_law_772 : decode cL_law 772 = .ok (.invokevirtual 129, 3) := by decide +kernel
theorem dL_law_775 : decode cL_law 775 = .ok (.aload_n 2, 1) := by decide +kernel
theorem dL_law_776 : decode cL_law 776 = .ok (.aload_n 0, 1) := by decide +kernel
theorem dL_law_777 : decode cL_law 777 = .ok (.iload 4, 2) := by decide +kernel
theorem dL_law_779 : decode cL_law 779 = .ok (.iconst 1, 1) := by decide +kernel
theorem dL_law_780 : decode cL_law 780 = .ok (.iadd, 1) := by decide +kernel
theorem dL_law_781 : decode cL_law 781 = .ok (.iaload, 1) := by decide +kernel
theorem dL_law_782 : decode cL_law 782 = .ok (.ifCond .eq 7, 3) := by decide +kernel
theorem dL_law_785 : decode cL_law 785 = .ok (.iconst 1, 1) := by decide +kernel
theorem dL_law_786 : decode cL_law 786 = .ok (.goto 4, 3) := by decide +kernel
theorem dL_law_789 : decode cL_law 789 = .ok (.iconst 0, 1) := by decide +kernel
theorem dL_law_790 : decode cL_law 790 = .ok (.invokevirtual 133, 3) := by decide +kernel
theorem dL_law_793 : decode cL_law 793 = .ok (.if_icmp .eq 686, 3) := by decide +kernel
theorem dL_law_796 : decode cL_law 796 = .ok (.iconst 0, 1) := by decide +kernel
theorem dL_law_797 : decode cL_law 797 = .ok (.ireturn, 1) := by decide +kernel
theorem dL_law_798 : decode cL_law 798 = .ok (.aload_n 1, 1) := by decide +kernel
theorem dL_law_799 : decode cL_law 799 = .ok (.aload_n 0, 1) := by decide +kernel
theorem dL_law_800 : decode cL_law 800 = .ok (.iload 4, 2) := by decide +kernel
theorem dL_law_802 : decode cL_law 802 = .ok (.iconst 1, 1) := by decide +kernel
theorem dL_law_803 : decode cL_law 803 = .ok (.iadd, 1) := by decide +kernel
theorem dL_law_804 : decode cL_law 804 = .ok (.iaload, 1) := by decide +kernel
theorem dL_law_805 : decode cL_law 805 = .ok (.aload_n 3, 1) := by decide +kernel
theorem dL_law_806 : decode cL_law 806 = .ok (.invokestatic 134, 3) := by decide +kernel
theorem dL_law_809 : decode cL_law 809 = .ok (.istore 5, 2) := by decide +kernel
theorem dL_law_811 : decode cL_law 811 = .ok (.aload_n 2, 1) := by decide +kernel
theorem dL_law_812 : decode cL_law 812 = .ok (.aload_n 0, 1) := by decide +kernel
theorem dL_law_813 : decode cL_law 813 = .ok (.iload 4, 2) := by decide +kernel
theorem dL_law_815 : decode cL_law 815 = .ok (.iconst 1, 1) := by decide +kernel
theorem dL_law_816 : decode cL_law 816 = .ok (.iadd, 1) := by decide +kernel
theorem dL_law_817 : decode cL_law 817 = .ok (.iaload, 1) := by decide +kernel
theorem dL_law_818 : decode cL_law 818 = .ok (.invokevirtual 136, 3) := by decide +kernel
theorem dL_law_821 : decode cL_law 821 = .ok (.istore 6, 2) := by decide +kernel
theorem dL_law_823 : decode cL_law 823 = .ok (.aload_n 2, 1) := by decide +kernel
theorem dL_law_824 : decode cL_law 824 = .ok (.invokevirtual 83, 3) := by decide +kernel
theorem dL_law_827 : decode cL_law 827 = .ok (.iload 5, 2) := by decide +kernel
theorem dL_law_829 : decode cL_law 829 = .ok (.if_icmp .eq 5, 3) := by decide +kernel
theorem dL_law_832 : decode cL_law 832 = .ok (.iconst 0, 1) := by decide +kernel
theorem dL_law_833 : decode cL_law 833 = .ok (.ireturn, 1) := by decide +kernel
theorem dL_law_834 : decode cL_law 834 = .ok (.iload 5, 2) := by decide +kernel
theorem dL_law_836 : decode cL_law 836 = .ok (.ifCond .ne 15, 3) := by decide +kernel
theorem dL_law_839 : decode cL_law 839 = .ok (.aload_n 3, 1) := by decide +kernel
theorem dL_law_840 : decode cL_law 840 = .ok (.iconst 0, 1) := by decide +kernel
theorem dL_law_841 : decode cL_law 841 = .ok (.laload, 1) := by decide +kernel
theorem dL_law_842 : decode cL_law 842 = .ok (.iload 6, 2) := by decide +kernel
theorem dL_law_844 : decode cL_law 844 = .ok (.i2l, 1) := by decide +kernel
theorem dL_law_845 : decode cL_law 845 = .ok (.lcmp, 1) := by decide +kernel
theorem dL_law_846 : decode cL_law 846 = .ok (.ifCond .eq 5, 3) := by decide +kernel
theorem dL_law_849 : decode cL_law 849 = .ok (.iconst 0, 1) := by decide +kernel
theorem dL_law_850 : decode cL_law 850 = .ok (.ireturn, 1) := by decide +kernel
theorem dL_law_851 : decode cL_law 851 = .ok (.goto 628, 3) := by decide +kernel
theorem dL_law_854 : decode cL_law 854 = .ok (.aload_n 1, 1) := by decide +kernel
theorem dL_law_855 : decode cL_law 855 = .ok (.aload_n 0, 1) := by decide +kernel
theorem dL_law_856 : decode cL_law 856 = .ok (.iload 4, 2) := by decide +kernel
theorem dL_law_858 : decode cL_law 858 = .ok (.iconst 1, 1) := by decide +kernel
theorem dL_law_859 : decode cL_law 859 = .ok (.iadd, 1) := by decide +kernel
theorem dL_law_860 : decode cL_law 860 = .ok (.iaload, 1) := by decide +kernel
theorem dL_law_861 : decode cL_law 861 = .ok (.aload_n 3, 1) := by decide +kernel
theorem dL_law_862 : decode cL_law 862 = .ok (.invokestatic 137, 3) := by decide +kernel
theorem dL_law_865 : decode cL_law 865 = .ok (.istore 5, 2) := by decide +kernel
theorem dL_law_867 : decode cL_law 867 = .ok (.aload_n 2, 1) := by decide +kernel
theorem dL_law_868 : decode cL_law 868 = .ok (.aload_n 0, 1) := by decide +kernel
theorem dL_law_869 : decode cL_law 869 = .ok (.iload 4, 2) := by decide +kernel
theorem dL_law_871 : decode cL_law 871 = .ok (.iconst 1, 1) := by decide +kernel
theorem dL_law_872 : decode cL_law 872 = .ok (.iadd, 1) := by decide +kernel
theorem dL_law_873 : decode cL_law 873 = .ok (.iaload, 1) := by decide +kernel
theorem dL_law_874 : decode cL_law 874 = .ok (.invokevirtual 139, 3) := by decide +kernel
theorem dL_law_877 : decode cL_law 877 = .ok (.istore 6, 2) := by decide +kernel
theorem dL_law_879 : decode cL_law 879 = .ok (.aload_n 2, 1) := by decide +kernel
theorem dL_law_880 : decode cL_law 880 = .ok (.invokevirtual 83, 3) := by decide +kernel
theorem dL_law_883 : decode cL_law 883 = .ok (.iload 5, 2) := by decide +kernel
theorem dL_law_885 : decode cL_law 885 = .ok (.if_icmp .eq 5, 3) := by decide +kernel
theorem dL_law_888 : decode cL_law 888 = .ok (.iconst 0, 1) := by decide +kernel
theorem dL_law_889 : decode cL_law 889 = .ok (.ireturn, 1) := by decide +kernel
theorem dL_law_890 : decode cL_law 890 = .ok (.iload 5, 2) := by decide +kernel
theorem dL_law_892 : decode cL_law 892 = .ok (.ifCond .ne 15, 3) := by decide +kernel
theorem dL_law_895 : decode cL_law 895 = .ok (.aload_n 3, 1) := by decide +kernel
theorem dL_law_896 : decode cL_law 896 = .ok (.iconst 0, 1) := by decide +kernel
theorem dL_law_897 : decode cL_law 897 = .ok (.laload, 1) := by decide +kernel
theorem dL_law_898 : decode cL_law 898 = .ok (.iload 6, 2) := by decide +kernel
theorem dL_law_900 : decode cL_law 900 = .ok (.i2l, 1) := by decide +kernel
theorem dL_law_901 : decode cL_law 901 = .ok (.lcmp, 1) := by decide +kernel
theorem dL_law_902 : decode cL_law 902 = .ok (.ifCond .eq 5, 3) := by decide +kernel
theorem dL_law_905 : decode cL_law 905 = .ok (.iconst 0, 1) := by decide +kernel
theorem dL_law_906 : decode cL_law 906 = .ok (.ireturn, 1) := by decide +kernel
theorem dL_law_907 : decode cL_law 907 = .ok (.goto 572, 3) := by decide +kernel
theorem dL_law_910 : decode cL_law 910 = .ok (.aload_n 1, 1) := by decide +kernel
theorem dL_law_911 : decode cL_law 911 = .ok (.invokevirtual 140, 3) := by decide +kernel
theorem dL_law_914 : decode cL_law 914 = .ok (.aload_n 2, 1) := by decide +kernel
theorem dL_law_915 : decode cL_law 915 = .ok (.invokevirtual 143, 3) := by decide +kernel
theorem dL_law_918 : decode cL_law 918 = .ok (.if_icmp .eq 561, 3) := by decide +kernel
theorem dL_law_921 : decode cL_law 921 = .ok (.iconst 0, 1) := by decide +kernel
theorem dL_law_922 : decode cL_law 922 = .ok (.ireturn, 1) := by decide +kernel
theorem dL_law_923 : decode cL_law 923 = .ok (.aload_n 1, 1) := by decide +kernel
theorem dL_law_924 : decode cL_law 924 = .ok (.aload_n 0, 1) := by decide +kernel
theorem dL_law_925 : decode cL_law 925 = .ok (.iload 4, 2) := by decide +kernel
theorem dL_law_927 : decode cL_law 927 = .ok (.iconst 1, 1) := by decide +kernel
theorem dL_law_928 : decode cL_law 928 = .ok (.iadd, 1) := by decide +kernel
theorem dL_law_929 : decode cL_law 929 = .ok (.iaload, 1) := by decide +kernel
theorem dL_law_930 : decode cL_law 930 = .ok (.aload_n 3, 1) := by decide +kernel
theorem dL_law_931 : decode cL_law 931 = .ok (.invokestatic 144, 3) := by decide +kernel
theorem dL_law_934 : decode cL_law 934 = .ok (.istore 5, 2) := by decide +kernel
theorem dL_law_936 : decode cL_law 936 = .ok (.aload_n 2, 1) := by decide +kernel
theorem dL_law_937 : decode cL_law 937 = .ok (.aload_n 0, 1) := by decide +kernel
theorem dL_law_938 : decode cL_law 938 = .ok (.iload 4, 2) := by decide +kernel
theorem dL_law_940 : decode cL_law 940 = .ok (.iconst 1, 1) := by decide +kernel
theorem dL_law_941 : decode cL_law 941 = .ok (.iadd, 1) := by decide +kernel
theorem dL_law_942 : decode cL_law 942 = .ok (.iaload, 1) := by decide +kernel
theorem dL_law_943 : decode cL_law 943 = .ok (.invokevirtual 146, 3) := by decide +kernel
theorem dL_law_946 : decode cL_law 946 = .ok (.istore 6, 2) := by decide +kernel
theorem dL_law_948 : decode cL_law 948 = .ok (.aload_n 2, 1) := by decide +kernel
theorem dL_law_949 : decode cL_law 949 = .ok (.invokevirtual 83, 3) := by decide +kernel
theorem dL_law_952 : decode cL_law 952 = .ok (.iload 5, 2) := by decide +kernel
theorem dL_law_954 : decode cL_law 954 = .ok (.if_icmp .eq 5, 3) := by decide +kernel
theorem dL_law_957 : decode cL_law 957 = .ok (.iconst 0, 1) := by decide +kernel
theorem dL_law_958 : decode cL_law 958 = .ok (.ireturn, 1) := by decide +kernel
theorem dL_law_959 : decode cL_law 959 = .ok (.iload 5, 2) := by decide +kernel
theorem dL_law_961 : decode cL_law 961 = .ok (.ifCond .ne 15, 3) := by decide +kernel
theorem dL_law_964 : decode cL_law 964 = .ok (.aload_n 3, 1) := by decide +kernel
theorem dL_law_965 : decode cL_law 965 = .ok (.iconst 0, 1) := by decide +kernel
theorem dL_law_966 : decode cL_law 966 = .ok (.laload, 1) := by decide +kernel
theorem dL_law_967 : decode cL_law 967 = .ok (.iload 6, 2) := by decide +kernel
theorem dL_law_969 : decode cL_law 969 = .ok (.i2l, 1) := by decide +kernel
theorem dL_law_970 : decode cL_law 970 = .ok (.lcmp, 1) := by decide +kernel
theorem dL_law_971 : decode cL_law 971 = .ok (.ifCond .eq 5, 3) := by decide +kernel
theorem dL_law_974 : decode cL_law 974 = .ok (.iconst 0, 1) := by decide +kernel
theorem dL_law_975 : decode cL_law 975 = .ok (.ireturn, 1) := by decide +kernel
theorem dL_law_976 : decode cL_law 976 = .ok (.goto 503, 3) := by decide +kernel
theorem dL_law_979 : decode cL_law 979 = .ok (.aload_n 1, 1) := by decide +kernel
theorem dL_law_980 : decode cL_law 980 = .ok (.aload_n 0, 1) := by decide +kernel
theorem dL_law_981 : decode cL_law 981 = .ok (.iload 4, 2) := by decide +kernel
theorem dL_law_983 : decode cL_law 983 = .ok (.iconst 1, 1) := by decide +kernel
theorem dL_law_984 : decode cL_law 984 = .ok (.iadd, 1) := by decide +kernel
theorem dL_law_985 : decode cL_law 985 = .ok (.iaload, 1) := by decide +kernel
theorem dL_law_986 : decode cL_law 986 = .ok (.aload_n 3, 1) := by decide +kernel
theorem dL_law_987 : decode cL_law 987 = .ok (.invokestatic 147, 3) := by decide +kernel
theorem dL_law_990 : decode cL_law 990 = .ok (.istore 5, 2) := by decide +kernel
theorem dL_law_992 : decode cL_law 992 = .ok (.aload_n 2, 1) := by decide +kernel
theorem dL_law_993 : decode cL_law 993 = .ok (.aload_n 0, 1) := by decide +kernel
theorem dL_law_994 : decode cL_law 994 = .ok (.iload 4, 2) := by decide +kernel
theorem dL_law_996 : decode cL_law 996 = .ok (.iconst 1, 1) := by decide +kernel
theorem dL_law_997 : decode cL_law 997 = .ok (.iadd, 1) := by decide +kernel
theorem dL_law_998 : decode cL_law 998 = .ok (.iaload, 1) := by decide +kernel
theorem dL_law_999 : decode cL_law 999 = .ok (.invokevirtual 149, 3) := by decide +kernel
theorem dL_law_1002 : decode cL_law 1002 = .ok (.istore 6, 2) := by decide +kernel
theorem dL_law_1004 : decode cL_law 1004 = .ok (.aload_n 2, 1) := by decide +kernel
theorem dL_law_1005 : decode cL_law 1005 = .ok (.invokevirtual 83, 3) := by decide +kernel
theorem dL_law_1008 : decode cL_law 1008 = .ok (.iload 5, 2) := by decide +kernel
theorem dL_law_1010 : decode cL_law 1010 = .ok (.if_icmp .eq 5, 3) := by decide +kernel
theorem dL_law_1013 : decode cL_law 1013 = .ok (.iconst 0, 1) := by decide +kernel
theorem dL_law_1014 : decode cL_law 1014 = .ok (.ireturn, 1) := by decide +kernel
theorem dL_law_1015 : decode cL_law 1015 = .ok (.iload 5, 2) := by decide +kernel
theorem dL_law_1017 : decode cL_law 1017 = .ok (.ifCond .ne 15, 3) := by decide +kernel
theorem dL_law_1020 : decode cL_law 1020 = .ok (.aload_n 3, 1) := by decide +kernel
theorem dL_law_1021 : decode cL_law 1021 = .ok (.iconst 0, 1) := by decide +kernel
theorem dL_law_1022 : decode cL_law 1022 = .ok (.laload, 1) := by decide +kernel
theorem dL_law_1023 : decode cL_law 1023 = .ok (.iload 6, 2) := by decide +kernel
theorem dL_law_1025 : decode cL_law 1025 = .ok (.i2l, 1) := by decide +kernel
theorem dL_law_1026 : decode cL_law 1026 = .ok (.lcmp, 1) := by decide +kernel
theorem dL_law_1027 : decode cL_law 1027 = .ok (.ifCond .eq 5, 3) := by decide +kernel
theorem dL_law_1030 : decode cL_law 1030 = .ok (.iconst 0, 1) := by decide +kernel
theorem dL_law_1031 : decode cL_law 1031 = .ok (.ireturn, 1) := by decide +kernel
theorem dL_law_1032 : decode cL_law 1032 = .ok (.goto 447, 3) := by decide +kernel
theorem dL_law_1035 : decode cL_law 1035 = .ok (.aload_n 1, 1) := by decide +kernel
theorem dL_law_1036 : decode cL_law 1036 = .ok (.aload_n 0, 1) := by decide +kernel
theorem dL_law_1037 : decode cL_law 1037 = .ok (.iload 4, 2) := by decide +kernel
theorem dL_law_1039 : decode cL_law 1039 = .ok (.iconst 1, 1) := by decide +kernel
theorem dL_law_1040 : decode cL_law 1040 = .ok (.iadd, 1) := by decide +kernel
theorem dL_law_1041 : decode cL_law 1041 = .ok (.iaload, 1) := by decide +kernel
theorem dL_law_1042 : decode cL_law 1042 = .ok (.aload_n 3, 1) := by decide +kernel
theorem dL_law_1043 : decode cL_law 1043 = .ok (.invokestatic 150, 3) := by decide +kernel
theorem dL_law_1046 : decode cL_law 1046 = .ok (.istore 5, 2) := by decide +kernel
theorem dL_law_1048 : decode cL_law 1048 = .ok (.aload_n 2, 1) := by decide +kernel
theorem dL_law_1049 : decode cL_law 1049 = .ok (.aload_n 0, 1) := by decide +kernel
theorem dL_law_1050 : decode cL_law 1050 = .ok (.iload 4, 2) := by decide +kernel
theorem dL_law_1052 : decode cL_law 1052 = .ok (.iconst 1, 1) := by decide +kernel
theorem dL_law_1053 : decode cL_law 1053 = .ok (.iadd, 1) := by decide +kernel
theorem dL_law_1054 : decode cL_law 1054 = .ok (.iaload, 1) := by decide +kernel
theorem dL_law_1055 : decode cL_law 1055 = .ok (.invokevirtual 152, 3) := by decide +kernel
theorem dL_law_1058 : decode cL_law 1058 = .ok (.istore 6, 2) := by decide +kernel
theorem dL_law_1060 : decode cL_law 1060 = .ok (.aload_n 2, 1) := by decide +kernel
theorem dL_law_1061 : decode cL_law 1061 = .ok (.invokevirtual 83, 3) := by decide +kernel
theorem dL_law_1064 : decode cL_law 1064 = .ok (.iload 5, 2) := by decide +kernel
theorem dL_law_1066 : decode cL_law 1066 = .ok (.if_icmp .eq 5, 3) := by decide +kernel
theorem dL_law_1069 : decode cL_law 1069 = .ok (.iconst 0, 1) := by decide +kernel
theorem dL_law_1070 : decode cL_law 1070 = .ok (.ireturn, 1) := by decide +kernel
theorem dL_law_1071 : decode cL_law 1071 = .ok (.iload 5, 2) := by decide +kernel
theorem dL_law_1073 : decode cL_law 1073 = .ok (.ifCond .ne 15, 3) := by decide +kernel
theorem dL_law_1076 : decode cL_law 1076 = .ok (.aload_n 3, 1) := by decide +kernel
theorem dL_law_1077 : decode cL_law 1077 = .ok (.iconst 0, 1) := by decide +kernel
theorem dL_law_1078 : decode cL_law 1078 = .ok (.laload, 1) := by decide +kernel
theorem dL_law_1079 : decode cL_law 1079 = .ok (.iload 6, 2) := by decide +kernel
theorem dL_law_1081 : decode cL_law 1081 = .ok (.i2l, 1) := by decide +kernel
theorem dL_law_1082 : decode cL_law 1082 = .ok (.lcmp, 1) := by decide +kernel
theorem dL_law_1083 : decode cL_law 1083 = .ok (.ifCond .eq 5, 3) := by decide +kernel
theorem dL_law_1086 : decode cL_law 1086 = .ok (.iconst 0, 1) := by decide +kernel
theorem dL_law_1087 : decode cL_law 1087 = .ok (.ireturn, 1) := by decide +kernel
theorem dL_law_1088 : decode cL_law 1088 = .ok (.goto 391, 3) := by decide +kernel
theorem dL_law_1091 : decode cL_law 1091 = .ok (.aload_n 1, 1) := by decide +kernel
theorem dL_law_1092 : decode cL_law 1092 = .ok (.invokevirtual 153, 3) := by decide +kernel
theorem dL_law_1095 : decode cL_law 1095 = .ok (.aload_n 2, 1) := by decide +kernel
theorem dL_law_1096 : decode cL_law 1096 = .ok (.invokevirtual 156, 3) := by decide +kernel
theorem dL_law_1099 : decode cL_law 1099 = .ok (.if_icmp .eq 380, 3) := by decide +kernel
theorem dL_law_1102 : decode cL_law 1102 = .ok (.iconst 0, 1) := by decide +kernel
theorem dL_law_1103 : decode cL_law 1103 = .ok (.ireturn, 1) := by decide +kernel
theorem dL_law_1104 : decode cL_law 1104 = .ok (.aload_n 1, 1) := by decide +kernel
theorem dL_law_1105 : decode cL_law 1105 = .ok (.invokevirtual 157, 3) := by decide +kernel
theorem dL_law_1108 : decode cL_law 1108 = .ok (.aload_n 2, 1) := by decide +kernel
theorem dL_law_1109 : decode cL_law 1109 = .ok (.invokevirtual 160, 3) := by decide +kernel
theorem dL_law_1112 : decode cL_law 1112 = .ok (.if_icmp .eq 367, 3) := by decide +kernel
theorem dL_law_1115 : decode cL_law 1115 = .ok (.iconst 0, 1) := by decide +kernel
theorem dL_law_1116 : decode cL_law 1116 = .ok (.ireturn, 1) := by decide +kernel
theorem dL_law_1117 : decode cL_law 1117 = .ok (.aload_n 1, 1) := by decide +kernel
theorem dL_law_1118 : decode cL_law 1118 = .ok (.aload_n 0, 1) := by decide +kernel
theorem dL_law_1119 : decode cL_law 1119 = .ok (.iload 4, 2) := by decide +kernel
theorem dL_law_1121 : decode cL_law 1121 = .ok (.iconst 1, 1) := by decide +kernel
theorem dL_law_1122 : decode cL_law 1122 = .ok (.iadd, 1) := by decide +kernel
theorem dL_law_1123 : decode cL_law 1123 = .ok (.iaload, 1) := by decide +kernel
theorem dL_law_1124 : decode cL_law 1124 = .ok (.aload_n 0, 1) := by decide +kernel
theorem dL_law_1125 : decode cL_law 1125 = .ok (.iload 4, 2) := by decide +kernel
theorem dL_law_1127 : decode cL_law 1127 = .ok (.iconst 2, 1) := by decide +kernel
theorem dL_law_1128 : decode cL_law 1128 = .ok (.iadd, 1) := by decide +kernel
theorem dL_law_1129 : decode cL_law 1129 = .ok (.iaload, 1) := by decide +kernel
theorem dL_law_1130 : decode cL_law 1130 = .ok (.aload_n 0, 1) := by decide +kernel
theorem dL_law_1131 : decode cL_law 1131 = .ok (.iload 4, 2) := by decide +kernel
theorem dL_law_1133 : decode cL_law 1133 = .ok (.iconst 3, 1) := by decide +kernel
theorem dL_law_1134 : decode cL_law 1134 = .ok (.iadd, 1) := by decide +kernel
theorem dL_law_1135 : decode cL_law 1135 = .ok (.iaload, 1) := by decide +kernel
theorem dL_law_1136 : decode cL_law 1136 = .ok (.ifCond .eq 7, 3) := by decide +kernel
theorem dL_law_1139 : decode cL_law 1139 = .ok (.iconst 1, 1) := by decide +kernel
theorem dL_law_1140 : decode cL_law 1140 = .ok (.goto 4, 3) := by decide +kernel
theorem dL_law_1143 : decode cL_law 1143 = .ok (.iconst 0, 1) := by decide +kernel
theorem dL_law_1144 : decode cL_law 1144 = .ok (.aload_n 3, 1) := by decide +kernel
theorem dL_law_1145 : decode cL_law 1145 = .ok (.invokestatic 161, 3) := by decide +kernel
theorem dL_law_1148 : decode cL_law 1148 = .ok (.istore 5, 2) := by decide +kernel
theorem dL_law_1150 : decode cL_law 1150 = .ok (.aload_n 2, 1) := by decide +kernel
theorem dL_law_1151 : decode cL_law 1151 = .ok (.aload_n 0, 1) := by decide +kernel
theorem dL_law_1152 : decode cL_law 1152 = .ok (.iload 4, 2) := by decide +kernel
theorem dL_law_1154 : decode cL_law 1154 = .ok (.iconst 1, 1) := by decide +kernel
theorem dL_law_1155 : decode cL_law 1155 = .ok (.iadd, 1) := by decide +kernel
theorem dL_law_1156 : decode cL_law 1156 = .ok (.iaload, 1) := by decide +kernel
theorem dL_law_1157 : decode cL_law 1157 = .ok (.aload_n 0, 1) := by decide +kernel
theorem dL_law_1158 : decode cL_law 1158 = .ok (.iload 4, 2) := by decide +kernel
theorem dL_law_1160 : decode cL_law 1160 = .ok (.iconst 2, 1) := by decide +kernel
theorem dL_law_1161 : decode cL_law 1161 = .ok (.iadd, 1) := by decide +kernel
theorem dL_law_1162 : decode cL_law 1162 = .ok (.iaload, 1) := by decide +kernel
theorem dL_law_1163 : decode cL_law 1163 = .ok (.aload_n 0, 1) := by decide +kernel
theorem dL_law_1164 : decode cL_law 1164 = .ok (.iload 4, 2) := by decide +kernel
theorem dL_law_1166 : decode cL_law 1166 = .ok (.iconst 3, 1) := by decide +kernel
theorem dL_law_1167 : decode cL_law 1167 = .ok (.iadd, 1) := by decide +kernel
theorem dL_law_1168 : decode cL_law 1168 = .ok (.iaload, 1) := by decide +kernel
theorem dL_law_1169 : decode cL_law 1169 = .ok (.ifCond .eq 7, 3) := by decide +kernel
theorem dL_law_1172 : decode cL_law 1172 = .ok (.iconst 1, 1) := by decide +kernel
theorem dL_law_1173 : decode cL_law 1173 = .ok (.goto 4, 3) := by decide +kernel
theorem dL_law_1176 : decode cL_law 1176 = .ok (.iconst 0, 1) := by decide +kernel
theorem dL_law_1177 : decode cL_law 1177 = .ok (.invokevirtual 163, 3) := by decide +kernel
theorem dL_law_1180 : decode cL_law 1180 = .ok (.istore 6, 2) := by decide +kernel
theorem dL_law_1182 : decode cL_law 1182 = .ok (.aload_n 2, 1) := by decide +kernel
theorem dL_law_1183 : decode cL_law 1183 = .ok (.invokevirtual 83, 3) := by decide +kernel
theorem dL_law_1186 : decode cL_law 1186 = .ok (.iload 5, 2) := by decide +kernel
theorem dL_law_1188 : decode cL_law 1188 = .ok (.if_icmp .eq 5, 3) := by decide +kernel
theorem dL_law_1191 : decode cL_law 1191 = .ok (.iconst 0, 1) := by decide +kernel
theorem dL_law_1192 : decode cL_law 1192 = .ok (.ireturn, 1) := by decide +kernel
theorem dL_law_1193 : decode cL_law 1193 = .ok (.iload 5, 2) := by decide +kernel
theorem dL_law_1195 : decode cL_law 1195 = .ok (.ifCond .ne 15, 3) := by decide +kernel
theorem dL_law_1198 : decode cL_law 1198 = .ok (.aload_n 3, 1) := by decide +kernel
theorem dL_law_1199 : decode cL_law 1199 = .ok (.iconst 0, 1) := by decide +kernel
theorem dL_law_1200 : decode cL_law 1200 = .ok (.laload, 1) := by decide +kernel
theorem dL_law_1201 : decode cL_law 1201 = .ok (.iload 6, 2) := by decide +kernel
theorem dL_law_1203 : decode cL_law 1203 = .ok (.i2l, 1) := by decide +kernel
theorem dL_law_1204 : decode cL_law 1204 = .ok (.lcmp, 1) := by decide +kernel
theorem dL_law_1205 : decode cL_law 1205 = .ok (.ifCond .eq 5, 3) := by decide +kernel
theorem dL_law_1208 : decode cL_law 1208 = .ok (.iconst 0, 1) := by decide +kernel
theorem dL_law_1209 : decode cL_law 1209 = .ok (.ireturn, 1) := by decide +kernel
theorem dL_law_1210 : decode cL_law 1210 = .ok (.goto 269, 3) := by decide +kernel
theorem dL_law_1213 : decode cL_law 1213 = .ok (.aload_n 1, 1) := by decide +kernel
theorem dL_law_1214 : decode cL_law 1214 = .ok (.aload_n 0, 1) := by decide +kernel
theorem dL_law_1215 : decode cL_law 1215 = .ok (.iload 4, 2) := by decide +kernel
theorem dL_law_1217 : decode cL_law 1217 = .ok (.iconst 1, 1) := by decide +kernel
theorem dL_law_1218 : decode cL_law 1218 = .ok (.iadd, 1) := by decide +kernel
theorem dL_law_1219 : decode cL_law 1219 = .ok (.iaload, 1) := by decide +kernel
theorem dL_law_1220 : decode cL_law 1220 = .ok (.aload_n 3, 1) := by decide +kernel
theorem dL_law_1221 : decode cL_law 1221 = .ok (.invokestatic 164, 3) := by decide +kernel
theorem dL_law_1224 : decode cL_law 1224 = .ok (.istore 5, 2) := by decide +kernel
theorem dL_law_1226 : decode cL_law 1226 = .ok (.aload_n 2, 1) := by decide +kernel
theorem dL_law_1227 : decode cL_law 1227 = .ok (.aload_n 0, 1) := by decide +kernel
theorem dL_law_1228 : decode cL_law 1228 = .ok (.iload 4, 2) := by decide +kernel
theorem dL_law_1230 : decode cL_law 1230 = .ok (.iconst 1, 1) := by decide +kernel
theorem dL_law_1231 : decode cL_law 1231 = .ok (.iadd, 1) := by decide +kernel
theorem dL_law_1232 : decode cL_law 1232 = .ok (.iaload, 1) := by decide +kernel
theorem dL_law_1233 : decode cL_law 1233 = .ok (.invokevirtual 166, 3) := by decide +kernel
theorem dL_law_1236 : decode cL_law 1236 = .ok (.istore 6, 2) := by decide +kernel
theorem dL_law_1238 : decode cL_law 1238 = .ok (.aload_n 2, 1) := by decide +kernel
theorem dL_law_1239 : decode cL_law 1239 = .ok (.invokevirtual 83, 3) := by decide +kernel
theorem dL_law_1242 : decode cL_law 1242 = .ok (.iload 5, 2) := by decide +kernel
theorem dL_law_1244 : decode cL_law 1244 = .ok (.if_icmp .eq 5, 3) := by decide +kernel
theorem dL_law_1247 : decode cL_law 1247 = .ok (.iconst 0, 1) := by decide +kernel
theorem dL_law_1248 : decode cL_law 1248 = .ok (.ireturn, 1) := by decide +kernel
theorem dL_law_1249 : decode cL_law 1249 = .ok (.iload 5, 2) := by decide +kernel
theorem dL_law_1251 : decode cL_law 1251 = .ok (.ifCond .ne 15, 3) := by decide +kernel
theorem dL_law_1254 : decode cL_law 1254 = .ok (.aload_n 3, 1) := by decide +kernel
theorem dL_law_1255 : decode cL_law 1255 = .ok (.iconst 0, 1) := by decide +kernel
theorem dL_law_1256 : decode cL_law 1256 = .ok (.laload, 1) := by decide +kernel
theorem dL_law_1257 : decode cL_law 1257 = .ok (.iload 6, 2) := by decide +kernel
theorem dL_law_1259 : decode cL_law 1259 = .ok (.i2l, 1) := by decide +kernel
theorem dL_law_1260 : decode cL_law 1260 = .ok (.lcmp, 1) := by decide +kernel
theorem dL_law_1261 : decode cL_law 1261 = .ok (.ifCond .eq 5, 3) := by decide +kernel
theorem dL_law_1264 : decode cL_law 1264 = .ok (.iconst 0, 1) := by decide +kernel
theorem dL_law_1265 : decode cL_law 1265 = .ok (.ireturn, 1) := by decide +kernel
theorem dL_law_1266 : decode cL_law 1266 = .ok (.goto 213, 3) := by decide +kernel
theorem dL_law_1269 : decode cL_law 1269 = .ok (.aload_n 1, 1) := by decide +kernel
theorem dL_law_1270 : decode cL_law 1270 = .ok (.invokevirtual 167, 3) := by decide +kernel
theorem dL_law_1273 : decode cL_law 1273 = .ok (.aload_n 2, 1) := by decide +kernel
theorem dL_law_1274 : decode cL_law 1274 = .ok (.invokevirtual 170, 3) := by decide +kernel
theorem dL_law_1277 : decode cL_law 1277 = .ok (.if_icmp .eq 202, 3) := by decide +kernel
theorem dL_law_1280 : decode cL_law 1280 = .ok (.iconst 0, 1) := by decide +kernel
theorem dL_law_1281 : decode cL_law 1281 = .ok (.ireturn, 1) := by decide +kernel
theorem dL_law_1282 : decode cL_law 1282 = .ok (.aload_n 1, 1) := by decide +kernel
theorem dL_law_1283 : decode cL_law 1283 = .ok (.aload_n 0, 1) := by decide +kernel
theorem dL_law_1284 : decode cL_law 1284 = .ok (.iload 4, 2) := by decide +kernel
theorem dL_law_1286 : decode cL_law 1286 = .ok (.iconst 1, 1) := by decide +kernel
theorem dL_law_1287 : decode cL_law 1287 = .ok (.iadd, 1) := by decide +kernel
theorem dL_law_1288 : decode cL_law 1288 = .ok (.iaload, 1) := by decide +kernel
theorem dL_law_1289 : decode cL_law 1289 = .ok (.aload_n 3, 1) := by decide +kernel
theorem dL_law_1290 : decode cL_law 1290 = .ok (.invokestatic 171, 3) := by decide +kernel
theorem dL_law_1293 : decode cL_law 1293 = .ok (.istore 5, 2) := by decide +kernel
theorem dL_law_1295 : decode cL_law 1295 = .ok (.aload_n 2, 1) := by decide +kernel
theorem dL_law_1296 : decode cL_law 1296 = .ok (.aload_n 0, 1) := by decide +kernel
theorem dL_law_1297 : decode cL_law 1297 = .ok (.iload 4, 2) := by decide +kernel
theorem dL_law_1299 : decode cL_law 1299 = .ok (.iconst 1, 1) := by decide +kernel
theorem dL_law_1300 : decode cL_law 1300 = .ok (.iadd, 1) := by decide +kernel
theorem dL_law_1301 : decode cL_law 1301 = .ok (.iaload, 1) := by decide +kernel
theorem dL_law_1302 : decode cL_law 1302 = .ok (.invokevirtual 173, 3) := by decide +kernel
theorem dL_law_1305 : decode cL_law 1305 = .ok (.istore 6, 2) := by decide +kernel
theorem dL_law_1307 : decode cL_law 1307 = .ok (.aload_n 2, 1) := by decide +kernel
theorem dL_law_1308 : decode cL_law 1308 = .ok (.invokevirtual 83, 3) := by decide +kernel
theorem dL_law_1311 : decode cL_law 1311 = .ok (.iload 5, 2) := by decide +kernel
theorem dL_law_1313 : decode cL_law 1313 = .ok (.if_icmp .eq 5, 3) := by decide +kernel
theorem dL_law_1316 : decode cL_law 1316 = .ok (.iconst 0, 1) := by decide +kernel
theorem dL_law_1317 : decode cL_law 1317 = .ok (.ireturn, 1) := by decide +kernel
theorem dL_law_1318 : decode cL_law 1318 = .ok (.iload 5, 2) := by decide +kernel
theorem dL_law_1320 : decode cL_law 1320 = .ok (.ifCond .ne 15, 3) := by decide +kernel
theorem dL_law_1323 : decode cL_law 1323 = .ok (.aload_n 3, 1) := by decide +kernel
theorem dL_law_1324 : decode cL_law 1324 = .ok (.iconst 0, 1) := by decide +kernel
theorem dL_law_1325 : decode cL_law 1325 = .ok (.laload, 1) := by decide +kernel
theorem dL_law_1326 : decode cL_law 1326 = .ok (.iload 6, 2) := by decide +kernel
theorem dL_law_1328 : decode cL_law 1328 = .ok (.i2l, 1) := by decide +kernel
theorem dL_law_1329 : decode cL_law 1329 = .ok (.lcmp, 1) := by decide +kernel
theorem dL_law_1330 : decode cL_law 1330 = .ok (.ifCond .eq 5, 3) := by decide +kernel
theorem dL_law_1333 : decode cL_law 1333 = .ok (.iconst 0, 1) := by decide +kernel
theorem dL_law_1334 : decode cL_law 1334 = .ok (.ireturn, 1) := by decide +kernel
theorem dL_law_1335 : decode cL_law 1335 = .ok (.goto 144, 3) := by decide +kernel
theorem dL_law_1338 : decode cL_law 1338 = .ok (.aload_n 1, 1) := by decide +kernel
theorem dL_law_1339 : decode cL_law 1339 = .ok (.invokevirtual 174, 3) := by decide +kernel
theorem dL_law_1342 : decode cL_law 1342 = .ok (.aload_n 2, 1) := by decide +kernel
theorem dL_law_1343 : decode cL_law 1343 = .ok (.invokevirtual 177, 3) := by decide +kernel
theorem dL_law_1346 : decode cL_law 1346 = .ok (.if_icmp .eq 133, 3) := by decide +kernel
theorem dL_law_1349 : decode cL_law 1349 = .ok (.iconst 0, 1) := by decide +kernel
theorem dL_law_1350 : decode cL_law 1350 = .ok (.ireturn, 1) := by decide +kernel
theorem dL_law_1351 : decode cL_law 1351 = .ok (.aload_n 1, 1) := by decide +kernel
theorem dL_law_1352 : decode cL_law 1352 = .ok (.invokevirtual 178, 3) := by decide +kernel
theorem dL_law_1355 : decode cL_law 1355 = .ok (.aload_n 2, 1) := by decide +kernel
theorem dL_law_1356 : decode cL_law 1356 = .ok (.invokevirtual 181, 3) := by decide +kernel
theorem dL_law_1359 : decode cL_law 1359 = .ok (.if_icmp .eq 120, 3) := by decide +kernel
theorem dL_law_1362 : decode cL_law 1362 = .ok (.iconst 0, 1) := by decide +kernel
theorem dL_law_1363 : decode cL_law 1363 = .ok (.ireturn, 1) := by decide +kernel
theorem dL_law_1364 : decode cL_law 1364 = .ok (.aload_n 1, 1) := by decide +kernel
theorem dL_law_1365 : decode cL_law 1365 = .ok (.aload_n 3, 1) := by decide +kernel
theorem dL_law_1366 : decode cL_law 1366 = .ok (.invokestatic 182, 3) := by decide +kernel
theorem dL_law_1369 : decode cL_law 1369 = .ok (.istore 5, 2) := by decide +kernel
theorem dL_law_1371 : decode cL_law 1371 = .ok (.aload_n 2, 1) := by decide +kernel
theorem dL_law_1372 : decode cL_law 1372 = .ok (.invokevirtual 185, 3) := by decide +kernel
theorem dL_law_1375 : decode cL_law 1375 = .ok (.istore 6, 2) := by decide +kernel
theorem dL_law_1377 : decode cL_law 1377 = .ok (.aload_n 2, 1) := by decide +kernel
theorem dL_law_1378 : decode cL_law 1378 = .ok (.invokevirtual 83, 3) := by decide +kernel
theorem dL_law_1381 : decode cL_law 1381 = .ok (.iload 5, 2) := by decide +kernel
theorem dL_law_1383 : decode cL_law 1383 = .ok (.if_icmp .eq 5, 3) := by decide +kernel
theorem dL_law_1386 : decode cL_law 1386 = .ok (.iconst 0, 1) := by decide +kernel
theorem dL_law_1387 : decode cL_law 1387 = .ok (.ireturn, 1) := by decide +kernel
theorem dL_law_1388 : decode cL_law 1388 = .ok (.iload 5, 2) := by decide +kernel
theorem dL_law_1390 : decode cL_law 1390 = .ok (.ifCond .ne 15, 3) := by decide +kernel
theorem dL_law_1393 : decode cL_law 1393 = .ok (.aload_n 3, 1) := by decide +kernel
theorem dL_law_1394 : decode cL_law 1394 = .ok (.iconst 0, 1) := by decide +kernel
theorem dL_law_1395 : decode cL_law 1395 = .ok (.laload, 1) := by decide +kernel
theorem dL_law_1396 : decode cL_law 1396 = .ok (.iload 6, 2) := by decide +kernel
theorem dL_law_1398 : decode cL_law 1398 = .ok (.i2l, 1) := by decide +kernel
theorem dL_law_1399 : decode cL_law 1399 = .ok (.lcmp, 1) := by decide +kernel
theorem dL_law_1400 : decode cL_law 1400 = .ok (.ifCond .eq 5, 3) := by decide +kernel
theorem dL_law_1403 : decode cL_law 1403 = .ok (.iconst 0, 1) := by decide +kernel
theorem dL_law_1404 : decode cL_law 1404 = .ok (.ireturn, 1) := by decide +kernel
theorem dL_law_1405 : decode cL_law 1405 = .ok (.goto 74, 3) := by decide +kernel
theorem dL_law_1408 : decode cL_law 1408 = .ok (.aload_n 1, 1) := by decide +kernel
theorem dL_law_1409 : decode cL_law 1409 = .ok (.aload_n 3, 1) := by decide +kernel
theorem dL_law_1410 : decode cL_law 1410 = .ok (.invokestatic 186, 3) := by decide +kernel
theorem dL_law_1413 : decode cL_law 1413 = .ok (.istore 5, 2) := by decide +kernel
theorem dL_law_1415 : decode cL_law 1415 = .ok (.aload_n 2, 1) := by decide +kernel
theorem dL_law_1416 : decode cL_law 1416 = .ok (.invokevirtual 188, 3) := by decide +kernel
theorem dL_law_1419 : decode cL_law 1419 = .ok (.istore 6, 2) := by decide +kernel
theorem dL_law_1421 : decode cL_law 1421 = .ok (.aload_n 2, 1) := by decide +kernel
theorem dL_law_1422 : decode cL_law 1422 = .ok (.invokevirtual 83, 3) := by decide +kernel
theorem dL_law_1425 : decode cL_law 1425 = .ok (.iload 5, 2) := by decide +kernel
theorem dL_law_1427 : decode cL_law 1427 = .ok (.if_icmp .eq 5, 3) := by decide +kernel
theorem dL_law_1430 : decode cL_law 1430 = .ok (.iconst 0, 1) := by decide +kernel
theorem dL_law_1431 : decode cL_law 1431 = .ok (.ireturn, 1) := by decide +kernel
theorem dL_law_1432 : decode cL_law 1432 = .ok (.iload 5, 2) := by decide +kernel
theorem dL_law_1434 : decode cL_law 1434 = .ok (.ifCond .ne 15, 3) := by decide +kernel
theorem dL_law_1437 : decode cL_law 1437 = .ok (.aload_n 3, 1) := by decide +kernel
theorem dL_law_1438 : decode cL_law 1438 = .ok (.iconst 0, 1) := by decide +kernel
theorem dL_law_1439 : decode cL_law 1439 = .ok (.laload, 1) := by decide +kernel
theorem dL_law_1440 : decode cL_law 1440 = .ok (.iload 6, 2) := by decide +kernel
theorem dL_law_1442 : decode cL_law 1442 = .ok (.i2l, 1) := by decide +kernel
theorem dL_law_1443 : decode cL_law 1443 = .ok (.lcmp, 1) := by decide +kernel
theorem dL_law_1444 : decode cL_law 1444 = .ok (.ifCond .eq 5, 3) := by decide +kernel
theorem dL_law_1447 : decode cL_law 1447 = .ok (.iconst 0, 1) := by decide +kernel
theorem dL_law_1448 : decode cL_law 1448 = .ok (.ireturn, 1) := by decide +kernel
theorem dL_law_1449 : decode cL_law 1449 = .ok (.goto 30, 3) := by decide +kernel
theorem dL_law_1452 : decode cL_law 1452 = .ok (.aload_n 1, 1) := by decide +kernel
theorem dL_law_1453 : decode cL_law 1453 = .ok (.invokevirtual 189, 3) := by decide +kernel
theorem dL_law_1456 : decode cL_law 1456 = .ok (.aload_n 2, 1) := by decide +kernel
theorem dL_law_1457 : decode cL_law 1457 = .ok (.invokevirtual 192, 3) := by decide +kernel
theorem dL_law_1460 : decode cL_law 1460 = .ok (.if_icmp .eq 19, 3) := by decide +kernel
theorem dL_law_1463 : decode cL_law 1463 = .ok (.iconst 0, 1) := by decide +kernel
theorem dL_law_1464 : decode cL_law 1464 = .ok (.ireturn, 1) := by decide +kernel
theorem dL_law_1465 : decode cL_law 1465 = .ok (.aload_n 1, 1) := by decide +kernel
theorem dL_law_1466 : decode cL_law 1466 = .ok (.invokevirtual 193, 3) := by decide +kernel
theorem dL_law_1469 : decode cL_law 1469 = .ok (.aload_n 2, 1) := by decide +kernel
theorem dL_law_1470 : decode cL_law 1470 = .ok (.invokevirtual 197, 3) := by decide +kernel
theorem dL_law_1473 : decode cL_law 1473 = .ok (.lcmp, 1) := by decide +kernel
theorem dL_law_1474 : decode cL_law 1474 = .ok (.ifCond .eq 5, 3) := by decide +kernel
theorem dL_law_1477 : decode cL_law 1477 = .ok (.iconst 0, 1) := by decide +kernel
theorem dL_law_1478 : decode cL_law 1478 = .ok (.ireturn, 1) := by decide +kernel
theorem dL_law_1479 : decode cL_law 1479 = .ok (.iinc 4 4, 3) := by decide +kernel
theorem dL_law_1482 : decode cL_law 1482 = .ok (.goto (-1459), 3) := by decide +kernel
theorem dL_law_1485 : decode cL_law 1485 = .ok (.iconst 1, 1) := by decide +kernel
theorem dL_law_1486 : decode cL_law 1486 = .ok (.ireturn, 1) := by decide +kernel
theorem lg_same {o : Int64} {x y : Int32} (h : o = x.toInt64) (e : x = y) : lg_cmp o y.toInt64 = 0 := by
  rw [h, e]
  exact lgc _
set_option maxHeartbeats 8000000 in
set_option maxRecDepth 100000 in
theorem law_c0 {p : Program} {l : Launch} {e : Env} {s : State} {m : MethodId} {below : List Frame} {meth : Method} {c : Code} {b L : Nat} {xs : Nat → Int32} (hst : l.stackTraces = false) (D : va_G) (C0 : lw_At p s m meth c b L xs) (hG : k_G (fun q : Nat => s.heap.size ≤ q) s s.heap) {a : Nat → Nat} {K KS KL KC : ClassId} {mo ms mk mfd mb out : Nat} (hK : va_K D vwCl [(K, .int), (KS, .object "BarcodeWand$State"), (KL, .long), (KC, .char)] s) (hL : L ≤ 2048) {i : Nat} (hiL : i + 4 ≤ L) {C9 S9 Cn Sn : Nat} (hC9 : C9 + 1 ≤ Cn) (hS9 : S9 + 6 ≤ Sn) (hCn : Cn ≤ 601024) (hSn : Sn ≤ 7293034) (next : ∀ (st : ST) (hs : HT) (sc : SCT) (sf lk fd bf cf : Nat → Int32) (ofn : Nat → Int64) (ty : Nat) (th ml mf sp on tw pk pf ps pn pp pm : Int32) (H : Heap) (locs : List Loc) (ls : Array Slot), LAW st hs sf → BUR ty bf cf pm → va_P D vwCl ((mo, .inr (8, [.ref ms, .int (nI (h_kp hs)), .ref mb, .int (nI ty), .int th, .ref mk, .int ml, .ref mfd, .int mf, .int sp, .int on, .int tw])) :: (ms, .inl (K, 889, .inl sf)) :: (mk, .inl (K, 41, .inl lk)) :: (mfd, .inl (K, 9, .inl fd)) :: (mb, .inl (KC, 60, .inl cf)) :: ((a 25), .inr (4, [.ref (a 26), .int (nI ty)])) :: ((a 26), .inl (K, 60, .inl bf)) :: ((a 27), .inr (1, [.int pk, .int pf, .int ps, .int pn, .int pp, .int pm])) :: (out, .inl (KL, 1, .inr (.inl ofn))) :: (WW a K KS st hs sc)) H → va_D (fun q : Nat => s.heap.size ≤ q) ((mo, .inr (8, [.ref ms, .int (nI (h_kp hs)), .ref mb, .int (nI ty), .int th, .ref mk, .int ml, .ref mfd, .int mf, .int sp, .int on, .int tw])) :: (ms, .inl (K, 889, .inl sf)) :: (mk, .inl (K, 41, .inl lk)) :: (mfd, .inl (K, 9, .inl fd)) :: (mb, .inl (KC, 60, .inl cf)) :: ((a 25), .inr (4, [.ref (a 26), .int (nI ty)])) :: ((a 26), .inl (K, 60, .inl bf)) :: ((a 27), .inr (1, [.int pk, .int pf, .int ps, .int pn, .int pp, .int pm])) :: (out, .inl (KL, 1, .inr (.inl ofn))) :: (WW a K KS st hs sc)) → va_S (fun q : Nat => s.heap.size ≤ q) s.heap H locs → lv_has ls 7 [(4, .int (nI i)), (3, .ref out), (2, .ref mo), (1, .ref (a 0)), (0, .ref b)] → W p l e room_1 s m #[Value.ref b] below meth c H locs Cn Sn (lw_Z below #[Value.ref b] s) (F0 m 1479 ls [])) (st : ST) (hs : HT) (sc : SCT) (sf lk fd bf cf : Nat → Int32) (ofn : Nat → Int64) (ty : Nat) (th ml mf sp on tw pk pf ps pn pp pm : Int32) {H : Heap} {locs : List Loc} {ls : Array Slot} (hLW : LAW st hs sf) (hBU : BUR ty bf cf pm) (hP : va_P D vwCl ((mo, .inr (8, [.ref ms, .int (nI (h_kp hs)), .ref mb, .int (nI ty), .int th, .ref mk, .int ml, .ref mfd, .int mf, .int sp, .int on, .int tw])) :: (ms, .inl (K, 889, .inl sf)) :: (mk, .inl (K, 41, .inl lk)) :: (mfd, .inl (K, 9, .inl fd)) :: (mb, .inl (KC, 60, .inl cf)) :: ((a 25), .inr (4, [.ref (a 26), .int (nI ty)])) :: ((a 26), .inl (K, 60, .inl bf)) :: ((a 27), .inr (1, [.int pk, .int pf, .int ps, .int pn, .int pp, .int pm])) :: (out, .inl (KL, 1, .inr (.inl ofn))) :: (WW a K KS st hs sc)) H) (hD : va_D (fun q : Nat => s.heap.size ≤ q) ((mo, .inr (8, [.ref ms, .int (nI (h_kp hs)), .ref mb, .int (nI ty), .int th, .ref mk, .int ml, .ref mfd, .int mf, .int sp, .int on, .int tw])) :: (ms, .inl (K, 889, .inl sf)) :: (mk, .inl (K, 41, .inl lk)) :: (mfd, .inl (K, 9, .inl fd)) :: (mb, .inl (KC, 60, .inl cf)) :: ((a 25), .inr (4, [.ref (a 26), .int (nI ty)])) :: ((a 26), .inl (K, 60, .inl bf)) :: ((a 27), .inr (1, [.int pk, .int pf, .int ps, .int pn, .int pp, .int pm])) :: (out, .inl (KL, 1, .inr (.inl ofn))) :: (WW a K KS st hs sc))) (hS : va_S (fun q : Nat => s.heap.size ≤ q) s.heap H locs) (hl : lv_has ls 7 [(4, .int (nI i)), (3, .ref out), (2, .ref mo), (1, .ref (a 0)), (0, .ref b)]) : W p l e room_1 s m #[Value.ref b] below meth c H locs C9 S9 (lw_Z below #[Value.ref b] s) (F0 m 180 ls []) := by
  have C1 := C0
  obtain ⟨hx, hb, hr, hml, hown, hts, hX, hbl, hlocks, hgv⟩ := C1
  have hown : s.vm.findClass RL = some m.cls := hown
  have ht : ∀ v9 ∈ wsA, v9.before #[Value.ref b] s = true := fun v9 h9 => hts v9 (wsA_tbl h9)
  have S0 : k_C p s m #[Value.ref b] c cL_law 7 RL := ⟨hx, hb, hml, hown, ht⟩
  have hbA : ¬ (fun q : Nat => s.heap.size ≤ q) b := Nat.not_le.mpr hbl
  have hA : ∀ q : Nat, s.heap.size ≤ q → (fun q : Nat => s.heap.size ≤ q) q := fun _ h9 => h9
  have hLW9 := hLW
  obtain ⟨hbst, hlx, hh, hoL, hR, hHR⟩ := hLW9
  have hkp := kp_6 hh
  have hBU9 := hBU
  obtain ⟨hty, hcf, hm⟩ := hBU9
  obtain ⟨hb1, hb2, hb3, hb4⟩ := bST_le hbst
  obtain ⟨y1, hy1⟩ : ∃ z9 : Int32, z9 = xs (i + 1) := ⟨_, rfl⟩
  obtain ⟨y2, hy2⟩ : ∃ z9 : Int32, z9 = xs (i + 2) := ⟨_, rfl⟩
  obtain ⟨y3, hy3⟩ : ∃ z9 : Int32, z9 = xs (i + 3) := ⟨_, rfl⟩
  generalize hAe : (fun q : Nat => s.heap.size ≤ q) = A at hG hD hS hA hbA
  by_cases hok : pOk y1 y2
  · obtain ⟨hz1, hz2, hd0, hd1⟩ := hok
    obtain ⟨j, hj1, hj8, rfl⟩ := cnt_of hz1 hz2
    rw [nI_clamp (by omega)] at hd1
    refine lv_aload_n hx hb dL_law_180 rfl (lv_at hl 3 rfl) ?_
    refine lv_aload_n hx hb dL_law_181 rfl (lv_at hl 4 rfl) ?_
    refine lv_iload hx hb dL_law_182 (lv_at hl 0 rfl) ?_
    refine lv_iconst (v := 1) hx hb dL_law_184 (by decide) ?_
    refine lv_iadd hx hb dL_law_185 ?_
    refine k_nrm (y := (nI (i + 1))) (nI_add i 1) ?_
    refine va_sld hx hb hX hbl hbA hS (vp_in_nI (by omega) (by omega)) dL_law_186 ?_
    refine k_nrm (y := y1) ((by rw [nI_clamp (by omega)]; exact hy1.symm)) ?_
    refine lv_aload_n hx hb dL_law_187 rfl (lv_at hl 4 rfl) ?_
    refine lv_iload hx hb dL_law_188 (lv_at hl 0 rfl) ?_
    refine lv_iconst (v := 2) hx hb dL_law_190 (by decide) ?_
    refine lv_iadd hx hb dL_law_191 ?_
    refine k_nrm (y := (nI (i + 2))) (nI_add i 2) ?_
    refine va_sld hx hb hX hbl hbA hS (vp_in_nI (by omega) (by omega)) dL_law_192 ?_
    refine k_nrm (y := (nI j)) ((by rw [nI_clamp (by omega)]; exact hy2.symm)) ?_
    refine lv_aload_n hx hb dL_law_193 rfl (lv_at hl 1 rfl) ?_
    have ct := k_cut_TT (wp := [(mo, .inr (8, [.ref ms, .int (nI (h_kp hs)), .ref mb, .int (nI ty), .int th, .ref mk, .int ml, .ref mfd, .int mf, .int sp, .int on, .int tw])), (ms, .inl (K, 889, .inl sf)), (mk, .inl (K, 41, .inl lk)), (mfd, .inl (K, 9, .inl fd)), (mb, .inl (KC, 60, .inl cf)), ((a 25), .inr (4, [.ref (a 26), .int (nI ty)])), ((a 26), .inl (K, 60, .inl bf)), ((a 27), .inr (1, [.int pk, .int pf, .int ps, .int pn, .int pp, .int pm])), (out, .inl (KL, 1, .inr (.inl ofn)))]) (T := (WW a K KS st hs sc)) (wc := [(out, .inl (KL, 1, .inr (.inl ofn)))]) (wr := [(mo, .inr (8, [.ref ms, .int (nI (h_kp hs)), .ref mb, .int (nI ty), .int th, .ref mk, .int ml, .ref mfd, .int mf, .int sp, .int on, .int tw])), (ms, .inl (K, 889, .inl sf)), (mk, .inl (K, 41, .inl lk)), (mfd, .inl (K, 9, .inl fd)), (mb, .inl (KC, 60, .inl cf)), ((a 25), .inr (4, [.ref (a 26), .int (nI ty)])), ((a 26), .inl (K, 60, .inl bf)), ((a 27), .inr (1, [.int pk, .int pf, .int ps, .int pn, .int pp, .int pm]))]) (tc := [(K, .int), (KS, .object "BarcodeWand$State"), (KL, .long)]) hG hS hA hK hP hD [8] [0, 1, 2, 3, 4, 5, 6, 7] [0, 1, 2] rfl rfl (by decide) (by decide) (by decide) rfl
    refine k_endi (As := [.ref (a 0), .int y1, .int (nI j), .ref out]) ct (k_runSW (As := [.ref (a 0), .int y1, .int (nI j), .ref out]) (rest := []) S0 Ls_L_77 ct (c_L_print l D a K KS st hs sc y1 j out KL ofn (by assumption) (by assumption) (by assumption) (by assumption) (by assumption) (by assumption) H.size) hl.1 rfl (Nat.le_of_ble_eq_true rfl) rfl dL_law_194 ⟨⟨Nat.le_of_ble_eq_true rfl, Nat.le_of_ble_eq_true rfl⟩, (show C9 ≤ 601024 by omega), (show S9 ≤ 7293034 by omega)⟩) rfl rfl (fun r_1 u H locs hw_4 hP hD hK hS => ?_)
    obtain ⟨og_2, rv_3⟩ := u
    have hK : va_K D vwCl [(K, .int), (KS, .object "BarcodeWand$State"), (KL, .long), (KC, .char)] s := hK
    have hP : va_P D vwCl ((mo, .inr (8, [.ref ms, .int (nI (h_kp hs)), .ref mb, .int (nI ty), .int th, .ref mk, .int ml, .ref mfd, .int mf, .int sp, .int on, .int tw])) :: (ms, .inl (K, 889, .inl sf)) :: (mk, .inl (K, 41, .inl lk)) :: (mfd, .inl (K, 9, .inl fd)) :: (mb, .inl (KC, 60, .inl cf)) :: ((a 25), .inr (4, [.ref (a 26), .int (nI ty)])) :: ((a 26), .inl (K, 60, .inl bf)) :: ((a 27), .inr (1, [.int pk, .int pf, .int ps, .int pn, .int pp, .int pm])) :: (out, .inl (KL, 1, .inr (.inl og_2))) :: (WW a K KS (setP y1 j st) (svH hs st) sc)) H := hP
    have hD : va_D A ((mo, .inr (8, [.ref ms, .int (nI (h_kp hs)), .ref mb, .int (nI ty), .int th, .ref mk, .int ml, .ref mfd, .int mf, .int sp, .int on, .int tw])) :: (ms, .inl (K, 889, .inl sf)) :: (mk, .inl (K, 41, .inl lk)) :: (mfd, .inl (K, 9, .inl fd)) :: (mb, .inl (KC, 60, .inl cf)) :: ((a 25), .inr (4, [.ref (a 26), .int (nI ty)])) :: ((a 26), .inl (K, 60, .inl bf)) :: ((a 27), .inr (1, [.int pk, .int pf, .int ps, .int pn, .int pp, .int pm])) :: (out, .inl (KL, 1, .inr (.inl og_2))) :: (WW a K KS (setP y1 j st) (svH hs st) sc)) := hD
    rcases hw_4 with ⟨rfl, rfl, c_5⟩
    · skip
      refine lv_istore (lv' := [(5, .int 0), (4, .int (nI i)), (3, .ref out), (2, .ref mo), (1, .ref (a 0)), (0, .ref b)]) hx hb dL_law_197 hl (by decide) rfl (fun ls hl => ?_)
      refine lv_aload_n hx hb dL_law_199 rfl (lv_at hl 3 rfl) ?_
      refine lv_aload_n hx hb dL_law_200 rfl (lv_at hl 5 rfl) ?_
      refine lv_iload hx hb dL_law_201 (lv_at hl 1 rfl) ?_
      refine lv_iconst (v := 1) hx hb dL_law_203 (by decide) ?_
      refine lv_iadd hx hb dL_law_204 ?_
      refine k_nrm (y := (nI (i + 1))) (nI_add i 1) ?_
      refine va_sld hx hb hX hbl hbA hS (vp_in_nI (by omega) (by omega)) dL_law_205 ?_
      refine k_nrm (y := y1) ((by rw [nI_clamp (by omega)]; exact hy1.symm)) ?_
      refine lv_aload_n hx hb dL_law_206 rfl (lv_at hl 5 rfl) ?_
      refine lv_iload hx hb dL_law_207 (lv_at hl 1 rfl) ?_
      refine lv_iconst (v := 2) hx hb dL_law_209 (by decide) ?_
      refine lv_iadd hx hb dL_law_210 ?_
      refine k_nrm (y := (nI (i + 2))) (nI_add i 2) ?_
      refine va_sld hx hb hX hbl hbA hS (vp_in_nI (by omega) (by omega)) dL_law_211 ?_
      refine k_nrm (y := (nI j)) ((by rw [nI_clamp (by omega)]; exact hy2.symm)) ?_
      have ct := k_cut_T (wp := [(mo, .inr (8, [.ref ms, .int (nI (h_kp hs)), .ref mb, .int (nI ty), .int th, .ref mk, .int ml, .ref mfd, .int mf, .int sp, .int on, .int tw])), (ms, .inl (K, 889, .inl sf)), (mk, .inl (K, 41, .inl lk)), (mfd, .inl (K, 9, .inl fd)), (mb, .inl (KC, 60, .inl cf)), ((a 25), .inr (4, [.ref (a 26), .int (nI ty)])), ((a 26), .inl (K, 60, .inl bf)), ((a 27), .inr (1, [.int pk, .int pf, .int ps, .int pn, .int pp, .int pm])), (out, .inl (KL, 1, .inr (.inl og_2)))]) (T := (WW a K KS (setP y1 j st) (svH hs st) sc)) (wc := [(mo, .inr (8, [.ref ms, .int (nI (h_kp hs)), .ref mb, .int (nI ty), .int th, .ref mk, .int ml, .ref mfd, .int mf, .int sp, .int on, .int tw])), (ms, .inl (K, 889, .inl sf))]) (wr := [(mk, .inl (K, 41, .inl lk)), (mfd, .inl (K, 9, .inl fd)), (mb, .inl (KC, 60, .inl cf)), ((a 25), .inr (4, [.ref (a 26), .int (nI ty)])), ((a 26), .inl (K, 60, .inl bf)), ((a 27), .inr (1, [.int pk, .int pf, .int ps, .int pn, .int pp, .int pm])), (out, .inl (KL, 1, .inr (.inl og_2)))]) (tc := [(K, .int)]) hG hS hA hK hP hD [0, 1] [2, 3, 4, 5, 6, 7, 8] [0] rfl rfl (by decide) (by decide) (by decide) rfl
      refine k_endi (As := [.ref mo, .int y1, .int (nI j)]) ct (k_runV (As := [.int y1, .int (nI j)]) (rest := []) S0 Lv_L_82 rfl (ci := 8) (q0 := 0) rfl rfl ct (c_M_print l D mo ms (h_kp hs) mb (nI ty) th mk ml mfd mf sp on tw K sf st y1 j (by assumption) (by assumption) (by first | assumption | omega) (by assumption) (by assumption) (by assumption) (by assumption) H.size) hl.1 rfl (Nat.le_of_ble_eq_true rfl) rfl dL_law_212 ⟨⟨Nat.le_of_ble_eq_true rfl, Nat.le_of_ble_eq_true rfl⟩, (show C9 ≤ 601024 by omega), (show S9 ≤ 7293034 by omega)⟩) rfl rfl (fun r_6 sg_7 H locs hw_8 hP hD hK hS => ?_)
      have hP : va_P D vwCl ((mk, .inl (K, 41, .inl lk)) :: (mfd, .inl (K, 9, .inl fd)) :: (mb, .inl (KC, 60, .inl cf)) :: ((a 25), .inr (4, [.ref (a 26), .int (nI ty)])) :: ((a 26), .inl (K, 60, .inl bf)) :: ((a 27), .inr (1, [.int pk, .int pf, .int ps, .int pn, .int pp, .int pm])) :: (out, .inl (KL, 1, .inr (.inl og_2))) :: (mo, .inr (8, [.ref ms, .int (nI (min ((h_kp hs) + 1) 6)), .ref mb, .int (nI ty), .int 0, .ref mk, .int ml, .ref mfd, .int mf, .int sp, .int on, .int tw])) :: (ms, .inl (K, 889, .inl sg_7)) :: (WW a K KS (setP y1 j st) (svH hs st) sc)) H := k_swapP (a := [(mk, .inl (K, 41, .inl lk)), (mfd, .inl (K, 9, .inl fd)), (mb, .inl (KC, 60, .inl cf)), ((a 25), .inr (4, [.ref (a 26), .int (nI ty)])), ((a 26), .inl (K, 60, .inl bf)), ((a 27), .inr (1, [.int pk, .int pf, .int ps, .int pn, .int pp, .int pm])), (out, .inl (KL, 1, .inr (.inl og_2)))]) (b := (WW a K KS (setP y1 j st) (svH hs st) sc)) (c := [(mo, .inr (8, [.ref ms, .int (nI (min ((h_kp hs) + 1) 6)), .ref mb, .int (nI ty), .int 0, .ref mk, .int ml, .ref mfd, .int mf, .int sp, .int on, .int tw])), (ms, .inl (K, 889, .inl sg_7))]) hP
      have hD : va_D A ((mk, .inl (K, 41, .inl lk)) :: (mfd, .inl (K, 9, .inl fd)) :: (mb, .inl (KC, 60, .inl cf)) :: ((a 25), .inr (4, [.ref (a 26), .int (nI ty)])) :: ((a 26), .inl (K, 60, .inl bf)) :: ((a 27), .inr (1, [.int pk, .int pf, .int ps, .int pn, .int pp, .int pm])) :: (out, .inl (KL, 1, .inr (.inl og_2))) :: (mo, .inr (8, [.ref ms, .int (nI (min ((h_kp hs) + 1) 6)), .ref mb, .int (nI ty), .int 0, .ref mk, .int ml, .ref mfd, .int mf, .int sp, .int on, .int tw])) :: (ms, .inl (K, 889, .inl sg_7)) :: (WW a K KS (setP y1 j st) (svH hs st) sc)) := va_D.swap (a := [(mk, .inl (K, 41, .inl lk)), (mfd, .inl (K, 9, .inl fd)), (mb, .inl (KC, 60, .inl cf)), ((a 25), .inr (4, [.ref (a 26), .int (nI ty)])), ((a 26), .inl (K, 60, .inl bf)), ((a 27), .inr (1, [.int pk, .int pf, .int ps, .int pn, .int pp, .int pm])), (out, .inl (KL, 1, .inr (.inl og_2)))]) (b := (WW a K KS (setP y1 j st) (svH hs st) sc)) (c := [(mo, .inr (8, [.ref ms, .int (nI (min ((h_kp hs) + 1) 6)), .ref mb, .int (nI ty), .int 0, .ref mk, .int ml, .ref mfd, .int mf, .int sp, .int on, .int tw])), (ms, .inl (K, 889, .inl sg_7))]) hD
      have hK : va_K D vwCl [(K, .int), (KS, .object "BarcodeWand$State"), (KL, .long), (KC, .char)] s := hK
      have hP : va_P D vwCl ((mk, .inl (K, 41, .inl lk)) :: (mfd, .inl (K, 9, .inl fd)) :: (mb, .inl (KC, 60, .inl cf)) :: ((a 25), .inr (4, [.ref (a 26), .int (nI ty)])) :: ((a 26), .inl (K, 60, .inl bf)) :: ((a 27), .inr (1, [.int pk, .int pf, .int ps, .int pn, .int pp, .int pm])) :: (out, .inl (KL, 1, .inr (.inl og_2))) :: (mo, .inr (8, [.ref ms, .int (nI (min ((h_kp hs) + 1) 6)), .ref mb, .int (nI ty), .int 0, .ref mk, .int ml, .ref mfd, .int mf, .int sp, .int on, .int tw])) :: (ms, .inl (K, 889, .inl sg_7)) :: (WW a K KS (setP y1 j st) (svH hs st) sc)) H := hP
      have hD : va_D A ((mk, .inl (K, 41, .inl lk)) :: (mfd, .inl (K, 9, .inl fd)) :: (mb, .inl (KC, 60, .inl cf)) :: ((a 25), .inr (4, [.ref (a 26), .int (nI ty)])) :: ((a 26), .inl (K, 60, .inl bf)) :: ((a 27), .inr (1, [.int pk, .int pf, .int ps, .int pn, .int pp, .int pm])) :: (out, .inl (KL, 1, .inr (.inl og_2))) :: (mo, .inr (8, [.ref ms, .int (nI (min ((h_kp hs) + 1) 6)), .ref mb, .int (nI ty), .int 0, .ref mk, .int ml, .ref mfd, .int mf, .int sp, .int on, .int tw])) :: (ms, .inl (K, 889, .inl sg_7)) :: (WW a K KS (setP y1 j st) (svH hs st) sc)) := hD
      have hw_8 : r_6 = (chkd (cS y1 j)) ∧ RS (setP y1 j st) sg_7 ∧ hiEq sg_7 (svM (h_kp hs) sf) := hw_8
      refine lv_istore (lv' := [(6, .int r_6), (5, .int 0), (4, .int (nI i)), (3, .ref out), (2, .ref mo), (1, .ref (a 0)), (0, .ref b)]) hx hb dL_law_215 hl (by decide) rfl (fun ls hl => ?_)
      refine lv_aload_n hx hb dL_law_217 rfl (lv_at hl 4 rfl) ?_
      have ct := k_cut_T (wp := [(mk, .inl (K, 41, .inl lk)), (mfd, .inl (K, 9, .inl fd)), (mb, .inl (KC, 60, .inl cf)), ((a 25), .inr (4, [.ref (a 26), .int (nI ty)])), ((a 26), .inl (K, 60, .inl bf)), ((a 27), .inr (1, [.int pk, .int pf, .int ps, .int pn, .int pp, .int pm])), (out, .inl (KL, 1, .inr (.inl og_2))), (mo, .inr (8, [.ref ms, .int (nI (min ((h_kp hs) + 1) 6)), .ref mb, .int (nI ty), .int 0, .ref mk, .int ml, .ref mfd, .int mf, .int sp, .int on, .int tw])), (ms, .inl (K, 889, .inl sg_7))]) (T := (WW a K KS (setP y1 j st) (svH hs st) sc)) (wc := [(mo, .inr (8, [.ref ms, .int (nI (min ((h_kp hs) + 1) 6)), .ref mb, .int (nI ty), .int 0, .ref mk, .int ml, .ref mfd, .int mf, .int sp, .int on, .int tw]))]) (wr := [(mk, .inl (K, 41, .inl lk)), (mfd, .inl (K, 9, .inl fd)), (mb, .inl (KC, 60, .inl cf)), ((a 25), .inr (4, [.ref (a 26), .int (nI ty)])), ((a 26), .inl (K, 60, .inl bf)), ((a 27), .inr (1, [.int pk, .int pf, .int ps, .int pn, .int pp, .int pm])), (out, .inl (KL, 1, .inr (.inl og_2))), (ms, .inl (K, 889, .inl sg_7))]) (tc := []) hG hS hA hK hP hD [7] [0, 1, 2, 3, 4, 5, 6, 8] [] rfl rfl (by decide) (by decide) (by decide) rfl
      refine k_endi (As := [.ref mo]) ct (k_runV (As := []) (rest := []) S0 Lv_L_83 rfl (ci := 8) (q0 := 0) rfl rfl ct (c_M_thrown l D mo ms (nI (min ((h_kp hs) + 1) 6)) mb (nI ty) 0 mk ml mfd mf sp on tw H.size) hl.1 rfl (Nat.le_of_ble_eq_true rfl) rfl dL_law_218 ⟨⟨Nat.le_of_ble_eq_true rfl, Nat.le_of_ble_eq_true rfl⟩, (show C9 ≤ 601024 by omega), (show S9 ≤ 7293034 by omega)⟩) rfl rfl (fun r_9 _ H locs hw_10 hP hD hK hS => ?_)
      have hP : va_P D vwCl ((mk, .inl (K, 41, .inl lk)) :: (mfd, .inl (K, 9, .inl fd)) :: (mb, .inl (KC, 60, .inl cf)) :: ((a 25), .inr (4, [.ref (a 26), .int (nI ty)])) :: ((a 26), .inl (K, 60, .inl bf)) :: ((a 27), .inr (1, [.int pk, .int pf, .int ps, .int pn, .int pp, .int pm])) :: (out, .inl (KL, 1, .inr (.inl og_2))) :: (ms, .inl (K, 889, .inl sg_7)) :: (mo, .inr (8, [.ref ms, .int (nI (min ((h_kp hs) + 1) 6)), .ref mb, .int (nI ty), .int 0, .ref mk, .int ml, .ref mfd, .int mf, .int sp, .int on, .int tw])) :: (WW a K KS (setP y1 j st) (svH hs st) sc)) H := k_swapP (a := [(mk, .inl (K, 41, .inl lk)), (mfd, .inl (K, 9, .inl fd)), (mb, .inl (KC, 60, .inl cf)), ((a 25), .inr (4, [.ref (a 26), .int (nI ty)])), ((a 26), .inl (K, 60, .inl bf)), ((a 27), .inr (1, [.int pk, .int pf, .int ps, .int pn, .int pp, .int pm])), (out, .inl (KL, 1, .inr (.inl og_2))), (ms, .inl (K, 889, .inl sg_7))]) (b := (WW a K KS (setP y1 j st) (svH hs st) sc)) (c := [(mo, .inr (8, [.ref ms, .int (nI (min ((h_kp hs) + 1) 6)), .ref mb, .int (nI ty), .int 0, .ref mk, .int ml, .ref mfd, .int mf, .int sp, .int on, .int tw]))]) hP
      have hD : va_D A ((mk, .inl (K, 41, .inl lk)) :: (mfd, .inl (K, 9, .inl fd)) :: (mb, .inl (KC, 60, .inl cf)) :: ((a 25), .inr (4, [.ref (a 26), .int (nI ty)])) :: ((a 26), .inl (K, 60, .inl bf)) :: ((a 27), .inr (1, [.int pk, .int pf, .int ps, .int pn, .int pp, .int pm])) :: (out, .inl (KL, 1, .inr (.inl og_2))) :: (ms, .inl (K, 889, .inl sg_7)) :: (mo, .inr (8, [.ref ms, .int (nI (min ((h_kp hs) + 1) 6)), .ref mb, .int (nI ty), .int 0, .ref mk, .int ml, .ref mfd, .int mf, .int sp, .int on, .int tw])) :: (WW a K KS (setP y1 j st) (svH hs st) sc)) := va_D.swap (a := [(mk, .inl (K, 41, .inl lk)), (mfd, .inl (K, 9, .inl fd)), (mb, .inl (KC, 60, .inl cf)), ((a 25), .inr (4, [.ref (a 26), .int (nI ty)])), ((a 26), .inl (K, 60, .inl bf)), ((a 27), .inr (1, [.int pk, .int pf, .int ps, .int pn, .int pp, .int pm])), (out, .inl (KL, 1, .inr (.inl og_2))), (ms, .inl (K, 889, .inl sg_7))]) (b := (WW a K KS (setP y1 j st) (svH hs st) sc)) (c := [(mo, .inr (8, [.ref ms, .int (nI (min ((h_kp hs) + 1) 6)), .ref mb, .int (nI ty), .int 0, .ref mk, .int ml, .ref mfd, .int mf, .int sp, .int on, .int tw]))]) hD
      have hK : va_K D vwCl [(K, .int), (KS, .object "BarcodeWand$State"), (KL, .long), (KC, .char)] s := hK
      have hP : va_P D vwCl ((mk, .inl (K, 41, .inl lk)) :: (mfd, .inl (K, 9, .inl fd)) :: (mb, .inl (KC, 60, .inl cf)) :: ((a 25), .inr (4, [.ref (a 26), .int (nI ty)])) :: ((a 26), .inl (K, 60, .inl bf)) :: ((a 27), .inr (1, [.int pk, .int pf, .int ps, .int pn, .int pp, .int pm])) :: (out, .inl (KL, 1, .inr (.inl og_2))) :: (ms, .inl (K, 889, .inl sg_7)) :: (mo, .inr (8, [.ref ms, .int (nI (min ((h_kp hs) + 1) 6)), .ref mb, .int (nI ty), .int 0, .ref mk, .int ml, .ref mfd, .int mf, .int sp, .int on, .int tw])) :: (WW a K KS (setP y1 j st) (svH hs st) sc)) H := hP
      have hD : va_D A ((mk, .inl (K, 41, .inl lk)) :: (mfd, .inl (K, 9, .inl fd)) :: (mb, .inl (KC, 60, .inl cf)) :: ((a 25), .inr (4, [.ref (a 26), .int (nI ty)])) :: ((a 26), .inl (K, 60, .inl bf)) :: ((a 27), .inr (1, [.int pk, .int pf, .int ps, .int pn, .int pp, .int pm])) :: (out, .inl (KL, 1, .inr (.inl og_2))) :: (ms, .inl (K, 889, .inl sg_7)) :: (mo, .inr (8, [.ref ms, .int (nI (min ((h_kp hs) + 1) 6)), .ref mb, .int (nI ty), .int 0, .ref mk, .int ml, .ref mfd, .int mf, .int sp, .int on, .int tw])) :: (WW a K KS (setP y1 j st) (svH hs st) sc)) := hD
      have hw_10 : r_9 = 0 := hw_10
      have hw_10 := hw_10.symm
      subst hw_10
      refine k_nrm (y := 0) rfl ?_
      refine lv_iload hx hb dL_law_221 (lv_at hl 1 rfl) ?_
      refine lv_icmp_eq (tgt := 228) hx hb dL_law_223 (by decide) (fun _ => ?_) (fun c9 => absurd (by decide) c9)
      refine lv_iload hx hb dL_law_228 (lv_at hl 1 rfl) ?_
      refine lv_if_ne (tgt := 245) hx hb dL_law_230 (by decide) (fun c9 => absurd (by decide) c9) (fun _ => ?_)
      refine lv_aload_n hx hb dL_law_233 rfl (lv_at hl 3 rfl) ?_
      refine lv_iconst (v := 0) hx hb dL_law_234 (by decide) ?_
      refine va_lald hx hb hK hP 6 2 rfl rfl (by unfold vp_in; decide) dL_law_235 ?_
      refine k_nrml (y := (chkd (cS y1 j)).toInt64) (show og_2 (0 : Int32).toNatClampNeg = (chkd (cS y1 j)).toInt64 from c_5) ?_
      refine lv_iload hx hb dL_law_236 (lv_at hl 0 rfl) ?_
      refine lv_i2l (v := r_6.toInt64) hx hb dL_law_238 rfl ?_
      refine W.lcmp hx hb dL_law_239 ?_
      refine k_nrm (y := 0) (lg_same rfl (hw_8.1.symm)) ?_
      refine lv_if_eq (tgt := 245) hx hb dL_law_240 (by decide) (fun _ => ?_) (fun c9 => absurd (by decide) c9)
      refine lv_goto (tgt := 1479) hx hb dL_law_245 (by decide) ?_
      have hf_11 : ((nI (min ((h_kp hs) + 1) 6)) : Int32) = (nI (h_kp (svH hs st))) := by rw [kp_sv]
      have hP : va_P D vwCl ((mk, .inl (K, 41, .inl lk)) :: (mfd, .inl (K, 9, .inl fd)) :: (mb, .inl (KC, 60, .inl cf)) :: ((a 25), .inr (4, [.ref (a 26), .int (nI ty)])) :: ((a 26), .inl (K, 60, .inl bf)) :: ((a 27), .inr (1, [.int pk, .int pf, .int ps, .int pn, .int pp, .int pm])) :: (out, .inl (KL, 1, .inr (.inl og_2))) :: (ms, .inl (K, 889, .inl sg_7)) :: (mo, .inr (8, [.ref ms, .int (nI (h_kp (svH hs st))), .ref mb, .int (nI ty), .int 0, .ref mk, .int ml, .ref mfd, .int mf, .int sp, .int on, .int tw])) :: (WW a K KS (setP y1 j st) (svH hs st) sc)) H := (congrArg (fun z9 : Int32 => va_P D vwCl ((mk, .inl (K, 41, .inl lk)) :: (mfd, .inl (K, 9, .inl fd)) :: (mb, .inl (KC, 60, .inl cf)) :: ((a 25), .inr (4, [.ref (a 26), .int (nI ty)])) :: ((a 26), .inl (K, 60, .inl bf)) :: ((a 27), .inr (1, [.int pk, .int pf, .int ps, .int pn, .int pp, .int pm])) :: (out, .inl (KL, 1, .inr (.inl og_2))) :: (ms, .inl (K, 889, .inl sg_7)) :: (mo, .inr (8, [.ref ms, .int z9, .ref mb, .int (nI ty), .int 0, .ref mk, .int ml, .ref mfd, .int mf, .int sp, .int on, .int tw])) :: (WW a K KS (setP y1 j st) (svH hs st) sc)) H) hf_11).mp hP
      have hD : va_D A ((mk, .inl (K, 41, .inl lk)) :: (mfd, .inl (K, 9, .inl fd)) :: (mb, .inl (KC, 60, .inl cf)) :: ((a 25), .inr (4, [.ref (a 26), .int (nI ty)])) :: ((a 26), .inl (K, 60, .inl bf)) :: ((a 27), .inr (1, [.int pk, .int pf, .int ps, .int pn, .int pp, .int pm])) :: (out, .inl (KL, 1, .inr (.inl og_2))) :: (ms, .inl (K, 889, .inl sg_7)) :: (mo, .inr (8, [.ref ms, .int (nI (h_kp (svH hs st))), .ref mb, .int (nI ty), .int 0, .ref mk, .int ml, .ref mfd, .int mf, .int sp, .int on, .int tw])) :: (WW a K KS (setP y1 j st) (svH hs st) sc)) := (congrArg (fun z9 : Int32 => va_D A ((mk, .inl (K, 41, .inl lk)) :: (mfd, .inl (K, 9, .inl fd)) :: (mb, .inl (KC, 60, .inl cf)) :: ((a 25), .inr (4, [.ref (a 26), .int (nI ty)])) :: ((a 26), .inl (K, 60, .inl bf)) :: ((a 27), .inr (1, [.int pk, .int pf, .int ps, .int pn, .int pp, .int pm])) :: (out, .inl (KL, 1, .inr (.inl og_2))) :: (ms, .inl (K, 889, .inl sg_7)) :: (mo, .inr (8, [.ref ms, .int z9, .ref mb, .int (nI ty), .int 0, .ref mk, .int ml, .ref mfd, .int mf, .int sp, .int on, .int tw])) :: (WW a K KS (setP y1 j st) (svH hs st) sc))) hf_11).mp hD
      have hP9 : va_P D vwCl ((mo, .inr (8, [.ref ms, .int (nI (h_kp (svH hs st))), .ref mb, .int (nI ty), .int 0, .ref mk, .int ml, .ref mfd, .int mf, .int sp, .int on, .int tw])) :: (ms, .inl (K, 889, .inl sg_7)) :: (mk, .inl (K, 41, .inl lk)) :: (mfd, .inl (K, 9, .inl fd)) :: (mb, .inl (KC, 60, .inl cf)) :: ((a 25), .inr (4, [.ref (a 26), .int (nI ty)])) :: ((a 26), .inl (K, 60, .inl bf)) :: ((a 27), .inr (1, [.int pk, .int pf, .int ps, .int pn, .int pp, .int pm])) :: (out, .inl (KL, 1, .inr (.inl og_2))) :: (WW a K KS (setP y1 j st) (svH hs st) sc)) H := k_subP (wp := [(mk, .inl (K, 41, .inl lk)), (mfd, .inl (K, 9, .inl fd)), (mb, .inl (KC, 60, .inl cf)), ((a 25), .inr (4, [.ref (a 26), .int (nI ty)])), ((a 26), .inl (K, 60, .inl bf)), ((a 27), .inr (1, [.int pk, .int pf, .int ps, .int pn, .int pp, .int pm])), (out, .inl (KL, 1, .inr (.inl og_2))), (ms, .inl (K, 889, .inl sg_7)), (mo, .inr (8, [.ref ms, .int (nI (h_kp (svH hs st))), .ref mb, .int (nI ty), .int 0, .ref mk, .int ml, .ref mfd, .int mf, .int sp, .int on, .int tw]))]) (wp' := [(mo, .inr (8, [.ref ms, .int (nI (h_kp (svH hs st))), .ref mb, .int (nI ty), .int 0, .ref mk, .int ml, .ref mfd, .int mf, .int sp, .int on, .int tw])), (ms, .inl (K, 889, .inl sg_7)), (mk, .inl (K, 41, .inl lk)), (mfd, .inl (K, 9, .inl fd)), (mb, .inl (KC, 60, .inl cf)), ((a 25), .inr (4, [.ref (a 26), .int (nI ty)])), ((a 26), .inl (K, 60, .inl bf)), ((a 27), .inr (1, [.int pk, .int pf, .int ps, .int pn, .int pp, .int pm])), (out, .inl (KL, 1, .inr (.inl og_2)))]) (T := (WW a K KS (setP y1 j st) (svH hs st) sc)) hP [8, 7, 0, 1, 2, 3, 4, 5, 6] rfl
      have hD9 : va_D A ((mo, .inr (8, [.ref ms, .int (nI (h_kp (svH hs st))), .ref mb, .int (nI ty), .int 0, .ref mk, .int ml, .ref mfd, .int mf, .int sp, .int on, .int tw])) :: (ms, .inl (K, 889, .inl sg_7)) :: (mk, .inl (K, 41, .inl lk)) :: (mfd, .inl (K, 9, .inl fd)) :: (mb, .inl (KC, 60, .inl cf)) :: ((a 25), .inr (4, [.ref (a 26), .int (nI ty)])) :: ((a 26), .inl (K, 60, .inl bf)) :: ((a 27), .inr (1, [.int pk, .int pf, .int ps, .int pn, .int pp, .int pm])) :: (out, .inl (KL, 1, .inr (.inl og_2))) :: (WW a K KS (setP y1 j st) (svH hs st) sc)) := k_subD (wp := [(mk, .inl (K, 41, .inl lk)), (mfd, .inl (K, 9, .inl fd)), (mb, .inl (KC, 60, .inl cf)), ((a 25), .inr (4, [.ref (a 26), .int (nI ty)])), ((a 26), .inl (K, 60, .inl bf)), ((a 27), .inr (1, [.int pk, .int pf, .int ps, .int pn, .int pp, .int pm])), (out, .inl (KL, 1, .inr (.inl og_2))), (ms, .inl (K, 889, .inl sg_7)), (mo, .inr (8, [.ref ms, .int (nI (h_kp (svH hs st))), .ref mb, .int (nI ty), .int 0, .ref mk, .int ml, .ref mfd, .int mf, .int sp, .int on, .int tw]))]) (wp' := [(mo, .inr (8, [.ref ms, .int (nI (h_kp (svH hs st))), .ref mb, .int (nI ty), .int 0, .ref mk, .int ml, .ref mfd, .int mf, .int sp, .int on, .int tw])), (ms, .inl (K, 889, .inl sg_7)), (mk, .inl (K, 41, .inl lk)), (mfd, .inl (K, 9, .inl fd)), (mb, .inl (KC, 60, .inl cf)), ((a 25), .inr (4, [.ref (a 26), .int (nI ty)])), ((a 26), .inl (K, 60, .inl bf)), ((a 27), .inr (1, [.int pk, .int pf, .int ps, .int pn, .int pp, .int pm])), (out, .inl (KL, 1, .inr (.inl og_2)))]) (T := (WW a K KS (setP y1 j st) (svH hs st) sc)) hD [8, 7, 0, 1, 2, 3, 4, 5, 6] (by decide) rfl
      subst hAe
      refine W.widen (k := Cn) (n := Sn) (by omega) (by omega) ?_
      exact next (setP y1 j st) (svH hs st) sc sg_7 lk fd bf cf og_2 ty 0 ml mf sp on tw pk pf ps pn pp pm H locs ls (law_sv hLW ((setP_ok hbst hd0 hj1 hj8).1) ((setP_ok hbst hd0 hj1 hj8).2) hw_8.2.1 hw_8.2.2) hBU hP9 hD9 hS (lv_sub hl [2, 3, 4, 5, 6] rfl)
  · skip
    refine lv_aload_n hx hb dL_law_180 rfl (lv_at hl 3 rfl) ?_
    refine lv_aload_n hx hb dL_law_181 rfl (lv_at hl 4 rfl) ?_
    refine lv_iload hx hb dL_law_182 (lv_at hl 0 rfl) ?_
    refine lv_iconst (v := 1) hx hb dL_law_184 (by decide) ?_
    refine lv_iadd hx hb dL_law_185 ?_
    refine k_nrm (y := (nI (i + 1))) (nI_add i 1) ?_
    refine va_sld hx hb hX hbl hbA hS (vp_in_nI (by omega) (by omega)) dL_law_186 ?_
    refine k_nrm (y := y1) ((by rw [nI_clamp (by omega)]; exact hy1.symm)) ?_
    refine lv_aload_n hx hb dL_law_187 rfl (lv_at hl 4 rfl) ?_
    refine lv_iload hx hb dL_law_188 (lv_at hl 0 rfl) ?_
    refine lv_iconst (v := 2) hx hb dL_law_190 (by decide) ?_
    refine lv_iadd hx hb dL_law_191 ?_
    refine k_nrm (y := (nI (i + 2))) (nI_add i 2) ?_
    refine va_sld hx hb hX hbl hbA hS (vp_in_nI (by omega) (by omega)) dL_law_192 ?_
    refine k_nrm (y := y2) ((by rw [nI_clamp (by omega)]; exact hy2.symm)) ?_
    refine lv_aload_n hx hb dL_law_193 rfl (lv_at hl 1 rfl) ?_
    have ct := k_cut_TT (wp := [(mo, .inr (8, [.ref ms, .int (nI (h_kp hs)), .ref mb, .int (nI ty), .int th, .ref mk, .int ml, .ref mfd, .int mf, .int sp, .int on, .int tw])), (ms, .inl (K, 889, .inl sf)), (mk, .inl (K, 41, .inl lk)), (mfd, .inl (K, 9, .inl fd)), (mb, .inl (KC, 60, .inl cf)), ((a 25), .inr (4, [.ref (a 26), .int (nI ty)])), ((a 26), .inl (K, 60, .inl bf)), ((a 27), .inr (1, [.int pk, .int pf, .int ps, .int pn, .int pp, .int pm])), (out, .inl (KL, 1, .inr (.inl ofn)))]) (T := (WW a K KS st hs sc)) (wc := [(out, .inl (KL, 1, .inr (.inl ofn)))]) (wr := [(mo, .inr (8, [.ref ms, .int (nI (h_kp hs)), .ref mb, .int (nI ty), .int th, .ref mk, .int ml, .ref mfd, .int mf, .int sp, .int on, .int tw])), (ms, .inl (K, 889, .inl sf)), (mk, .inl (K, 41, .inl lk)), (mfd, .inl (K, 9, .inl fd)), (mb, .inl (KC, 60, .inl cf)), ((a 25), .inr (4, [.ref (a 26), .int (nI ty)])), ((a 26), .inl (K, 60, .inl bf)), ((a 27), .inr (1, [.int pk, .int pf, .int ps, .int pn, .int pp, .int pm]))]) (tc := [(K, .int), (KS, .object "BarcodeWand$State"), (KL, .long)]) hG hS hA hK hP hD [8] [0, 1, 2, 3, 4, 5, 6, 7] [0, 1, 2] rfl rfl (by decide) (by decide) (by decide) rfl
    refine k_endi (As := [.ref (a 0), .int y1, .int y2, .ref out]) ct (k_runSW (As := [.ref (a 0), .int y1, .int y2, .ref out]) (rest := []) S0 Ls_L_77 ct (c_L_printX l hst D a K KS st hs sc y1 y2 out KL ofn (by assumption) H.size) hl.1 rfl (Nat.le_of_ble_eq_true rfl) rfl dL_law_194 ⟨⟨Nat.le_of_ble_eq_true rfl, Nat.le_of_ble_eq_true rfl⟩, (show C9 + 1 ≤ 601024 by omega), (show S9 + 6 ≤ 7293034 by omega)⟩) rfl rfl (fun r_12 _ H locs hw_13 hP hD hK hS => ?_)
    have hK : va_K D vwCl [(K, .int), (KS, .object "BarcodeWand$State"), (KL, .long), (KC, .char)] s := hK
    have hP : va_P D vwCl ((mo, .inr (8, [.ref ms, .int (nI (h_kp hs)), .ref mb, .int (nI ty), .int th, .ref mk, .int ml, .ref mfd, .int mf, .int sp, .int on, .int tw])) :: (ms, .inl (K, 889, .inl sf)) :: (mk, .inl (K, 41, .inl lk)) :: (mfd, .inl (K, 9, .inl fd)) :: (mb, .inl (KC, 60, .inl cf)) :: ((a 25), .inr (4, [.ref (a 26), .int (nI ty)])) :: ((a 26), .inl (K, 60, .inl bf)) :: ((a 27), .inr (1, [.int pk, .int pf, .int ps, .int pn, .int pp, .int pm])) :: (out, .inl (KL, 1, .inr (.inl ofn))) :: (WW a K KS st hs sc)) H := hP
    have hD : va_D A ((mo, .inr (8, [.ref ms, .int (nI (h_kp hs)), .ref mb, .int (nI ty), .int th, .ref mk, .int ml, .ref mfd, .int mf, .int sp, .int on, .int tw])) :: (ms, .inl (K, 889, .inl sf)) :: (mk, .inl (K, 41, .inl lk)) :: (mfd, .inl (K, 9, .inl fd)) :: (mb, .inl (KC, 60, .inl cf)) :: ((a 25), .inr (4, [.ref (a 26), .int (nI ty)])) :: ((a 26), .inl (K, 60, .inl bf)) :: ((a 27), .inr (1, [.int pk, .int pf, .int ps, .int pn, .int pp, .int pm])) :: (out, .inl (KL, 1, .inr (.inl ofn))) :: (WW a K KS st hs sc)) := hD
    have hw_13 : r_12 = (1) := hw_13
    have hw_13 := hw_13.symm
    subst hw_13
    refine k_nrm (y := 1) rfl ?_
    refine lv_istore (lv' := [(5, .int 1), (4, .int (nI i)), (3, .ref out), (2, .ref mo), (1, .ref (a 0)), (0, .ref b)]) hx hb dL_law_197 hl (by decide) rfl (fun ls hl => ?_)
    refine lv_aload_n hx hb dL_law_199 rfl (lv_at hl 3 rfl) ?_
    refine lv_aload_n hx hb dL_law_200 rfl (lv_at hl 5 rfl) ?_
    refine lv_iload hx hb dL_law_201 (lv_at hl 1 rfl) ?_
    refine lv_iconst (v := 1) hx hb dL_law_203 (by decide) ?_
    refine lv_iadd hx hb dL_law_204 ?_
    refine k_nrm (y := (nI (i + 1))) (nI_add i 1) ?_
    refine va_sld hx hb hX hbl hbA hS (vp_in_nI (by omega) (by omega)) dL_law_205 ?_
    refine k_nrm (y := y1) ((by rw [nI_clamp (by omega)]; exact hy1.symm)) ?_
    refine lv_aload_n hx hb dL_law_206 rfl (lv_at hl 5 rfl) ?_
    refine lv_iload hx hb dL_law_207 (lv_at hl 1 rfl) ?_
    refine lv_iconst (v := 2) hx hb dL_law_209 (by decide) ?_
    refine lv_iadd hx hb dL_law_210 ?_
    refine k_nrm (y := (nI (i + 2))) (nI_add i 2) ?_
    refine va_sld hx hb hX hbl hbA hS (vp_in_nI (by omega) (by omega)) dL_law_211 ?_
    refine k_nrm (y := y2) ((by rw [nI_clamp (by omega)]; exact hy2.symm)) ?_
    have ct := k_cut_T (wp := [(mo, .inr (8, [.ref ms, .int (nI (h_kp hs)), .ref mb, .int (nI ty), .int th, .ref mk, .int ml, .ref mfd, .int mf, .int sp, .int on, .int tw])), (ms, .inl (K, 889, .inl sf)), (mk, .inl (K, 41, .inl lk)), (mfd, .inl (K, 9, .inl fd)), (mb, .inl (KC, 60, .inl cf)), ((a 25), .inr (4, [.ref (a 26), .int (nI ty)])), ((a 26), .inl (K, 60, .inl bf)), ((a 27), .inr (1, [.int pk, .int pf, .int ps, .int pn, .int pp, .int pm])), (out, .inl (KL, 1, .inr (.inl ofn)))]) (T := (WW a K KS st hs sc)) (wc := [(mo, .inr (8, [.ref ms, .int (nI (h_kp hs)), .ref mb, .int (nI ty), .int th, .ref mk, .int ml, .ref mfd, .int mf, .int sp, .int on, .int tw])), (ms, .inl (K, 889, .inl sf))]) (wr := [(mk, .inl (K, 41, .inl lk)), (mfd, .inl (K, 9, .inl fd)), (mb, .inl (KC, 60, .inl cf)), ((a 25), .inr (4, [.ref (a 26), .int (nI ty)])), ((a 26), .inl (K, 60, .inl bf)), ((a 27), .inr (1, [.int pk, .int pf, .int ps, .int pn, .int pp, .int pm])), (out, .inl (KL, 1, .inr (.inl ofn)))]) (tc := [(K, .int)]) hG hS hA hK hP hD [0, 1] [2, 3, 4, 5, 6, 7, 8] [0] rfl rfl (by decide) (by decide) (by decide) rfl
    refine k_endi (As := [.ref mo, .int y1, .int y2]) ct (k_runV (As := [.int y1, .int y2]) (rest := []) S0 Lv_L_82 rfl (ci := 8) (q0 := 0) rfl rfl ct (c_M_printX l D mo ms (nI (h_kp hs)) mb (nI ty) th mk ml mfd mf sp on tw K sf st y1 y2 (by assumption) (by assumption) (by assumption) H.size) hl.1 rfl (Nat.le_of_ble_eq_true rfl) rfl dL_law_212 ⟨⟨Nat.le_of_ble_eq_true rfl, Nat.le_of_ble_eq_true rfl⟩, (show C9 + 1 ≤ 601024 by omega), (show S9 + 6 ≤ 7293034 by omega)⟩) rfl rfl (fun r_14 _ H locs hw_15 hP hD hK hS => ?_)
    have hP : va_P D vwCl ((mk, .inl (K, 41, .inl lk)) :: (mfd, .inl (K, 9, .inl fd)) :: (mb, .inl (KC, 60, .inl cf)) :: ((a 25), .inr (4, [.ref (a 26), .int (nI ty)])) :: ((a 26), .inl (K, 60, .inl bf)) :: ((a 27), .inr (1, [.int pk, .int pf, .int ps, .int pn, .int pp, .int pm])) :: (out, .inl (KL, 1, .inr (.inl ofn))) :: (mo, .inr (8, [.ref ms, .int (nI (h_kp hs)), .ref mb, .int (nI ty), .int 1, .ref mk, .int ml, .ref mfd, .int mf, .int sp, .int on, .int tw])) :: (ms, .inl (K, 889, .inl sf)) :: (WW a K KS st hs sc)) H := k_swapP (a := [(mk, .inl (K, 41, .inl lk)), (mfd, .inl (K, 9, .inl fd)), (mb, .inl (KC, 60, .inl cf)), ((a 25), .inr (4, [.ref (a 26), .int (nI ty)])), ((a 26), .inl (K, 60, .inl bf)), ((a 27), .inr (1, [.int pk, .int pf, .int ps, .int pn, .int pp, .int pm])), (out, .inl (KL, 1, .inr (.inl ofn)))]) (b := (WW a K KS st hs sc)) (c := [(mo, .inr (8, [.ref ms, .int (nI (h_kp hs)), .ref mb, .int (nI ty), .int 1, .ref mk, .int ml, .ref mfd, .int mf, .int sp, .int on, .int tw])), (ms, .inl (K, 889, .inl sf))]) hP
    have hD : va_D A ((mk, .inl (K, 41, .inl lk)) :: (mfd, .inl (K, 9, .inl fd)) :: (mb, .inl (KC, 60, .inl cf)) :: ((a 25), .inr (4, [.ref (a 26), .int (nI ty)])) :: ((a 26), .inl (K, 60, .inl bf)) :: ((a 27), .inr (1, [.int pk, .int pf, .int ps, .int pn, .int pp, .int pm])) :: (out, .inl (KL, 1, .inr (.inl ofn))) :: (mo, .inr (8, [.ref ms, .int (nI (h_kp hs)), .ref mb, .int (nI ty), .int 1, .ref mk, .int ml, .ref mfd, .int mf, .int sp, .int on, .int tw])) :: (ms, .inl (K, 889, .inl sf)) :: (WW a K KS st hs sc)) := va_D.swap (a := [(mk, .inl (K, 41, .inl lk)), (mfd, .inl (K, 9, .inl fd)), (mb, .inl (KC, 60, .inl cf)), ((a 25), .inr (4, [.ref (a 26), .int (nI ty)])), ((a 26), .inl (K, 60, .inl bf)), ((a 27), .inr (1, [.int pk, .int pf, .int ps, .int pn, .int pp, .int pm])), (out, .inl (KL, 1, .inr (.inl ofn)))]) (b := (WW a K KS st hs sc)) (c := [(mo, .inr (8, [.ref ms, .int (nI (h_kp hs)), .ref mb, .int (nI ty), .int 1, .ref mk, .int ml, .ref mfd, .int mf, .int sp, .int on, .int tw])), (ms, .inl (K, 889, .inl sf))]) hD
    have hK : va_K D vwCl [(K, .int), (KS, .object "BarcodeWand$State"), (KL, .long), (KC, .char)] s := hK
    have hP : va_P D vwCl ((mk, .inl (K, 41, .inl lk)) :: (mfd, .inl (K, 9, .inl fd)) :: (mb, .inl (KC, 60, .inl cf)) :: ((a 25), .inr (4, [.ref (a 26), .int (nI ty)])) :: ((a 26), .inl (K, 60, .inl bf)) :: ((a 27), .inr (1, [.int pk, .int pf, .int ps, .int pn, .int pp, .int pm])) :: (out, .inl (KL, 1, .inr (.inl ofn))) :: (mo, .inr (8, [.ref ms, .int (nI (h_kp hs)), .ref mb, .int (nI ty), .int 1, .ref mk, .int ml, .ref mfd, .int mf, .int sp, .int on, .int tw])) :: (ms, .inl (K, 889, .inl sf)) :: (WW a K KS st hs sc)) H := hP
    have hD : va_D A ((mk, .inl (K, 41, .inl lk)) :: (mfd, .inl (K, 9, .inl fd)) :: (mb, .inl (KC, 60, .inl cf)) :: ((a 25), .inr (4, [.ref (a 26), .int (nI ty)])) :: ((a 26), .inl (K, 60, .inl bf)) :: ((a 27), .inr (1, [.int pk, .int pf, .int ps, .int pn, .int pp, .int pm])) :: (out, .inl (KL, 1, .inr (.inl ofn))) :: (mo, .inr (8, [.ref ms, .int (nI (h_kp hs)), .ref mb, .int (nI ty), .int 1, .ref mk, .int ml, .ref mfd, .int mf, .int sp, .int on, .int tw])) :: (ms, .inl (K, 889, .inl sf)) :: (WW a K KS st hs sc)) := hD
    have hw_15 : r_14 = (0) := hw_15
    have hw_15 := hw_15.symm
    subst hw_15
    refine k_nrm (y := 0) rfl ?_
    refine lv_istore (lv' := [(6, .int 0), (5, .int 1), (4, .int (nI i)), (3, .ref out), (2, .ref mo), (1, .ref (a 0)), (0, .ref b)]) hx hb dL_law_215 hl (by decide) rfl (fun ls hl => ?_)
    refine lv_aload_n hx hb dL_law_217 rfl (lv_at hl 4 rfl) ?_
    have ct := k_cut_T (wp := [(mk, .inl (K, 41, .inl lk)), (mfd, .inl (K, 9, .inl fd)), (mb, .inl (KC, 60, .inl cf)), ((a 25), .inr (4, [.ref (a 26), .int (nI ty)])), ((a 26), .inl (K, 60, .inl bf)), ((a 27), .inr (1, [.int pk, .int pf, .int ps, .int pn, .int pp, .int pm])), (out, .inl (KL, 1, .inr (.inl ofn))), (mo, .inr (8, [.ref ms, .int (nI (h_kp hs)), .ref mb, .int (nI ty), .int 1, .ref mk, .int ml, .ref mfd, .int mf, .int sp, .int on, .int tw])), (ms, .inl (K, 889, .inl sf))]) (T := (WW a K KS st hs sc)) (wc := [(mo, .inr (8, [.ref ms, .int (nI (h_kp hs)), .ref mb, .int (nI ty), .int 1, .ref mk, .int ml, .ref mfd, .int mf, .int sp, .int on, .int tw]))]) (wr := [(mk, .inl (K, 41, .inl lk)), (mfd, .inl (K, 9, .inl fd)), (mb, .inl (KC, 60, .inl cf)), ((a 25), .inr (4, [.ref (a 26), .int (nI ty)])), ((a 26), .inl (K, 60, .inl bf)), ((a 27), .inr (1, [.int pk, .int pf, .int ps, .int pn, .int pp, .int pm])), (out, .inl (KL, 1, .inr (.inl ofn))), (ms, .inl (K, 889, .inl sf))]) (tc := []) hG hS hA hK hP hD [7] [0, 1, 2, 3, 4, 5, 6, 8] [] rfl rfl (by decide) (by decide) (by decide) rfl
    refine k_endi (As := [.ref mo]) ct (k_runV (As := []) (rest := []) S0 Lv_L_83 rfl (ci := 8) (q0 := 0) rfl rfl ct (c_M_thrown l D mo ms (nI (h_kp hs)) mb (nI ty) 1 mk ml mfd mf sp on tw H.size) hl.1 rfl (Nat.le_of_ble_eq_true rfl) rfl dL_law_218 ⟨⟨Nat.le_of_ble_eq_true rfl, Nat.le_of_ble_eq_true rfl⟩, (show C9 + 1 ≤ 601024 by omega), (show S9 + 6 ≤ 7293034 by omega)⟩) rfl rfl (fun r_16 _ H locs hw_17 hP hD hK hS => ?_)
    have hP : va_P D vwCl ((mk, .inl (K, 41, .inl lk)) :: (mfd, .inl (K, 9, .inl fd)) :: (mb, .inl (KC, 60, .inl cf)) :: ((a 25), .inr (4, [.ref (a 26), .int (nI ty)])) :: ((a 26), .inl (K, 60, .inl bf)) :: ((a 27), .inr (1, [.int pk, .int pf, .int ps, .int pn, .int pp, .int pm])) :: (out, .inl (KL, 1, .inr (.inl ofn))) :: (ms, .inl (K, 889, .inl sf)) :: (mo, .inr (8, [.ref ms, .int (nI (h_kp hs)), .ref mb, .int (nI ty), .int 1, .ref mk, .int ml, .ref mfd, .int mf, .int sp, .int on, .int tw])) :: (WW a K KS st hs sc)) H := k_swapP (a := [(mk, .inl (K, 41, .inl lk)), (mfd, .inl (K, 9, .inl fd)), (mb, .inl (KC, 60, .inl cf)), ((a 25), .inr (4, [.ref (a 26), .int (nI ty)])), ((a 26), .inl (K, 60, .inl bf)), ((a 27), .inr (1, [.int pk, .int pf, .int ps, .int pn, .int pp, .int pm])), (out, .inl (KL, 1, .inr (.inl ofn))), (ms, .inl (K, 889, .inl sf))]) (b := (WW a K KS st hs sc)) (c := [(mo, .inr (8, [.ref ms, .int (nI (h_kp hs)), .ref mb, .int (nI ty), .int 1, .ref mk, .int ml, .ref mfd, .int mf, .int sp, .int on, .int tw]))]) hP
    have hD : va_D A ((mk, .inl (K, 41, .inl lk)) :: (mfd, .inl (K, 9, .inl fd)) :: (mb, .inl (KC, 60, .inl cf)) :: ((a 25), .inr (4, [.ref (a 26), .int (nI ty)])) :: ((a 26), .inl (K, 60, .inl bf)) :: ((a 27), .inr (1, [.int pk, .int pf, .int ps, .int pn, .int pp, .int pm])) :: (out, .inl (KL, 1, .inr (.inl ofn))) :: (ms, .inl (K, 889, .inl sf)) :: (mo, .inr (8, [.ref ms, .int (nI (h_kp hs)), .ref mb, .int (nI ty), .int 1, .ref mk, .int ml, .ref mfd, .int mf, .int sp, .int on, .int tw])) :: (WW a K KS st hs sc)) := va_D.swap (a := [(mk, .inl (K, 41, .inl lk)), (mfd, .inl (K, 9, .inl fd)), (mb, .inl (KC, 60, .inl cf)), ((a 25), .inr (4, [.ref (a 26), .int (nI ty)])), ((a 26), .inl (K, 60, .inl bf)), ((a 27), .inr (1, [.int pk, .int pf, .int ps, .int pn, .int pp, .int pm])), (out, .inl (KL, 1, .inr (.inl ofn))), (ms, .inl (K, 889, .inl sf))]) (b := (WW a K KS st hs sc)) (c := [(mo, .inr (8, [.ref ms, .int (nI (h_kp hs)), .ref mb, .int (nI ty), .int 1, .ref mk, .int ml, .ref mfd, .int mf, .int sp, .int on, .int tw]))]) hD
    have hK : va_K D vwCl [(K, .int), (KS, .object "BarcodeWand$State"), (KL, .long), (KC, .char)] s := hK
    have hP : va_P D vwCl ((mk, .inl (K, 41, .inl lk)) :: (mfd, .inl (K, 9, .inl fd)) :: (mb, .inl (KC, 60, .inl cf)) :: ((a 25), .inr (4, [.ref (a 26), .int (nI ty)])) :: ((a 26), .inl (K, 60, .inl bf)) :: ((a 27), .inr (1, [.int pk, .int pf, .int ps, .int pn, .int pp, .int pm])) :: (out, .inl (KL, 1, .inr (.inl ofn))) :: (ms, .inl (K, 889, .inl sf)) :: (mo, .inr (8, [.ref ms, .int (nI (h_kp hs)), .ref mb, .int (nI ty), .int 1, .ref mk, .int ml, .ref mfd, .int mf, .int sp, .int on, .int tw])) :: (WW a K KS st hs sc)) H := hP
    have hD : va_D A ((mk, .inl (K, 41, .inl lk)) :: (mfd, .inl (K, 9, .inl fd)) :: (mb, .inl (KC, 60, .inl cf)) :: ((a 25), .inr (4, [.ref (a 26), .int (nI ty)])) :: ((a 26), .inl (K, 60, .inl bf)) :: ((a 27), .inr (1, [.int pk, .int pf, .int ps, .int pn, .int pp, .int pm])) :: (out, .inl (KL, 1, .inr (.inl ofn))) :: (ms, .inl (K, 889, .inl sf)) :: (mo, .inr (8, [.ref ms, .int (nI (h_kp hs)), .ref mb, .int (nI ty), .int 1, .ref mk, .int ml, .ref mfd, .int mf, .int sp, .int on, .int tw])) :: (WW a K KS st hs sc)) := hD
    have hw_17 : r_16 = 1 := hw_17
    have hw_17 := hw_17.symm
    subst hw_17
    refine k_nrm (y := 1) rfl ?_
    refine lv_iload hx hb dL_law_221 (lv_at hl 1 rfl) ?_
    refine lv_icmp_eq (tgt := 228) hx hb dL_law_223 (by decide) (fun _ => ?_) (fun c9 => absurd (by decide) c9)
    refine lv_iload hx hb dL_law_228 (lv_at hl 1 rfl) ?_
    refine lv_if_ne (tgt := 245) hx hb dL_law_230 (by decide) (fun _ => ?_) (fun c9 => absurd c9 (by decide))
    refine lv_goto (tgt := 1479) hx hb dL_law_245 (by decide) ?_
    have hP9 : va_P D vwCl ((mo, .inr (8, [.ref ms, .int (nI (h_kp hs)), .ref mb, .int (nI ty), .int 1, .ref mk, .int ml, .ref mfd, .int mf, .int sp, .int on, .int tw])) :: (ms, .inl (K, 889, .inl sf)) :: (mk, .inl (K, 41, .inl lk)) :: (mfd, .inl (K, 9, .inl fd)) :: (mb, .inl (KC, 60, .inl cf)) :: ((a 25), .inr (4, [.ref (a 26), .int (nI ty)])) :: ((a 26), .inl (K, 60, .inl bf)) :: ((a 27), .inr (1, [.int pk, .int pf, .int ps, .int pn, .int pp, .int pm])) :: (out, .inl (KL, 1, .inr (.inl ofn))) :: (WW a K KS st hs sc)) H := k_subP (wp := [(mk, .inl (K, 41, .inl lk)), (mfd, .inl (K, 9, .inl fd)), (mb, .inl (KC, 60, .inl cf)), ((a 25), .inr (4, [.ref (a 26), .int (nI ty)])), ((a 26), .inl (K, 60, .inl bf)), ((a 27), .inr (1, [.int pk, .int pf, .int ps, .int pn, .int pp, .int pm])), (out, .inl (KL, 1, .inr (.inl ofn))), (ms, .inl (K, 889, .inl sf)), (mo, .inr (8, [.ref ms, .int (nI (h_kp hs)), .ref mb, .int (nI ty), .int 1, .ref mk, .int ml, .ref mfd, .int mf, .int sp, .int on, .int tw]))]) (wp' := [(mo, .inr (8, [.ref ms, .int (nI (h_kp hs)), .ref mb, .int (nI ty), .int 1, .ref mk, .int ml, .ref mfd, .int mf, .int sp, .int on, .int tw])), (ms, .inl (K, 889, .inl sf)), (mk, .inl (K, 41, .inl lk)), (mfd, .inl (K, 9, .inl fd)), (mb, .inl (KC, 60, .inl cf)), ((a 25), .inr (4, [.ref (a 26), .int (nI ty)])), ((a 26), .inl (K, 60, .inl bf)), ((a 27), .inr (1, [.int pk, .int pf, .int ps, .int pn, .int pp, .int pm])), (out, .inl (KL, 1, .inr (.inl ofn)))]) (T := (WW a K KS st hs sc)) hP [8, 7, 0, 1, 2, 3, 4, 5, 6] rfl
    have hD9 : va_D A ((mo, .inr (8, [.ref ms, .int (nI (h_kp hs)), .ref mb, .int (nI ty), .int 1, .ref mk, .int ml, .ref mfd, .int mf, .int sp, .int on, .int tw])) :: (ms, .inl (K, 889, .inl sf)) :: (mk, .inl (K, 41, .inl lk)) :: (mfd, .inl (K, 9, .inl fd)) :: (mb, .inl (KC, 60, .inl cf)) :: ((a 25), .inr (4, [.ref (a 26), .int (nI ty)])) :: ((a 26), .inl (K, 60, .inl bf)) :: ((a 27), .inr (1, [.int pk, .int pf, .int ps, .int pn, .int pp, .int pm])) :: (out, .inl (KL, 1, .inr (.inl ofn))) :: (WW a K KS st hs sc)) := k_subD (wp := [(mk, .inl (K, 41, .inl lk)), (mfd, .inl (K, 9, .inl fd)), (mb, .inl (KC, 60, .inl cf)), ((a 25), .inr (4, [.ref (a 26), .int (nI ty)])), ((a 26), .inl (K, 60, .inl bf)), ((a 27), .inr (1, [.int pk, .int pf, .int ps, .int pn, .int pp, .int pm])), (out, .inl (KL, 1, .inr (.inl ofn))), (ms, .inl (K, 889, .inl sf)), (mo, .inr (8, [.ref ms, .int (nI (h_kp hs)), .ref mb, .int (nI ty), .int 1, .ref mk, .int ml, .ref mfd, .int mf, .int sp, .int on, .int tw]))]) (wp' := [(mo, .inr (8, [.ref ms, .int (nI (h_kp hs)), .ref mb, .int (nI ty), .int 1, .ref mk, .int ml, .ref mfd, .int mf, .int sp, .int on, .int tw])), (ms, .inl (K, 889, .inl sf)), (mk, .inl (K, 41, .inl lk)), (mfd, .inl (K, 9, .inl fd)), (mb, .inl (KC, 60, .inl cf)), ((a 25), .inr (4, [.ref (a 26), .int (nI ty)])), ((a 26), .inl (K, 60, .inl bf)), ((a 27), .inr (1, [.int pk, .int pf, .int ps, .int pn, .int pp, .int pm])), (out, .inl (KL, 1, .inr (.inl ofn)))]) (T := (WW a K KS st hs sc)) hD [8, 7, 0, 1, 2, 3, 4, 5, 6] (by decide) rfl
    subst hAe
    refine W.widen (k := Cn) (n := Sn) (by omega) (by omega) ?_
    exact next st hs sc sf lk fd bf cf ofn ty 1 ml mf sp on tw pk pf ps pn pp pm H locs ls hLW hBU hP9 hD9 hS (lv_sub hl [2, 3, 4, 5, 6] rfl)
set_option maxHeartbeats 8000000 in
set_option maxRecDepth 100000 in
theorem law_c1 {p : Program} {l : Launch} {e : Env} {s : State} {m : MethodId} {below : List Frame} {meth : Method} {c : Code} {b L : Nat} {xs : Nat → Int32} (hst : l.stackTraces = false) (D : va_G) (C0 : lw_At p s m meth c b L xs) (hG : k_G (fun q : Nat => s.heap.size ≤ q) s s.heap) {a : Nat → Nat} {K KS KL KC : ClassId} {mo ms mk mfd mb out : Nat} (hK : va_K D vwCl [(K, .int), (KS, .object "BarcodeWand$State"), (KL, .long), (KC, .char)] s) (hL : L ≤ 2048) {i : Nat} (hiL : i + 4 ≤ L) {C9 S9 Cn Sn : Nat} (hC9 : C9 + 1 ≤ Cn) (hS9 : S9 + 6 ≤ Sn) (hCn : Cn ≤ 601024) (hSn : Sn ≤ 7293034) (next : ∀ (st : ST) (hs : HT) (sc : SCT) (sf lk fd bf cf : Nat → Int32) (ofn : Nat → Int64) (ty : Nat) (th ml mf sp on tw pk pf ps pn pp pm : Int32) (H : Heap) (locs : List Loc) (ls : Array Slot), LAW st hs sf → BUR ty bf cf pm → va_P D vwCl ((mo, .inr (8, [.ref ms, .int (nI (h_kp hs)), .ref mb, .int (nI ty), .int th, .ref mk, .int ml, .ref mfd, .int mf, .int sp, .int on, .int tw])) :: (ms, .inl (K, 889, .inl sf)) :: (mk, .inl (K, 41, .inl lk)) :: (mfd, .inl (K, 9, .inl fd)) :: (mb, .inl (KC, 60, .inl cf)) :: ((a 25), .inr (4, [.ref (a 26), .int (nI ty)])) :: ((a 26), .inl (K, 60, .inl bf)) :: ((a 27), .inr (1, [.int pk, .int pf, .int ps, .int pn, .int pp, .int pm])) :: (out, .inl (KL, 1, .inr (.inl ofn))) :: (WW a K KS st hs sc)) H → va_D (fun q : Nat => s.heap.size ≤ q) ((mo, .inr (8, [.ref ms, .int (nI (h_kp hs)), .ref mb, .int (nI ty), .int th, .ref mk, .int ml, .ref mfd, .int mf, .int sp, .int on, .int tw])) :: (ms, .inl (K, 889, .inl sf)) :: (mk, .inl (K, 41, .inl lk)) :: (mfd, .inl (K, 9, .inl fd)) :: (mb, .inl (KC, 60, .inl cf)) :: ((a 25), .inr (4, [.ref (a 26), .int (nI ty)])) :: ((a 26), .inl (K, 60, .inl bf)) :: ((a 27), .inr (1, [.int pk, .int pf, .int ps, .int pn, .int pp, .int pm])) :: (out, .inl (KL, 1, .inr (.inl ofn))) :: (WW a K KS st hs sc)) → va_S (fun q : Nat => s.heap.size ≤ q) s.heap H locs → lv_has ls 7 [(4, .int (nI i)), (3, .ref out), (2, .ref mo), (1, .ref (a 0)), (0, .ref b)] → W p l e room_1 s m #[Value.ref b] below meth c H locs Cn Sn (lw_Z below #[Value.ref b] s) (F0 m 1479 ls [])) (st : ST) (hs : HT) (sc : SCT) (sf lk fd bf cf : Nat → Int32) (ofn : Nat → Int64) (ty : Nat) (th ml mf sp on tw pk pf ps pn pp pm : Int32) {H : Heap} {locs : List Loc} {ls : Array Slot} (hLW : LAW st hs sf) (hBU : BUR ty bf cf pm) (hP : va_P D vwCl ((mo, .inr (8, [.ref ms, .int (nI (h_kp hs)), .ref mb, .int (nI ty), .int th, .ref mk, .int ml, .ref mfd, .int mf, .int sp, .int on, .int tw])) :: (ms, .inl (K, 889, .inl sf)) :: (mk, .inl (K, 41, .inl lk)) :: (mfd, .inl (K, 9, .inl fd)) :: (mb, .inl (KC, 60, .inl cf)) :: ((a 25), .inr (4, [.ref (a 26), .int (nI ty)])) :: ((a 26), .inl (K, 60, .inl bf)) :: ((a 27), .inr (1, [.int pk, .int pf, .int ps, .int pn, .int pp, .int pm])) :: (out, .inl (KL, 1, .inr (.inl ofn))) :: (WW a K KS st hs sc)) H) (hD : va_D (fun q : Nat => s.heap.size ≤ q) ((mo, .inr (8, [.ref ms, .int (nI (h_kp hs)), .ref mb, .int (nI ty), .int th, .ref mk, .int ml, .ref mfd, .int mf, .int sp, .int on, .int tw])) :: (ms, .inl (K, 889, .inl sf)) :: (mk, .inl (K, 41, .inl lk)) :: (mfd, .inl (K, 9, .inl fd)) :: (mb, .inl (KC, 60, .inl cf)) :: ((a 25), .inr (4, [.ref (a 26), .int (nI ty)])) :: ((a 26), .inl (K, 60, .inl bf)) :: ((a 27), .inr (1, [.int pk, .int pf, .int ps, .int pn, .int pp, .int pm])) :: (out, .inl (KL, 1, .inr (.inl ofn))) :: (WW a K KS st hs sc))) (hS : va_S (fun q : Nat => s.heap.size ≤ q) s.heap H locs) (hl : lv_has ls 7 [(4, .int (nI i)), (3, .ref out), (2, .ref mo), (1, .ref (a 0)), (0, .ref b)]) : W p l e room_1 s m #[Value.ref b] below meth c H locs C9 S9 (lw_Z below #[Value.ref b] s) (F0 m 248 ls []) := by
  have C1 := C0
  obtain ⟨hx, hb, hr, hml, hown, hts, hX, hbl, hlocks, hgv⟩ := C1
  have hown : s.vm.findClass RL = some m.cls := hown
  have ht : ∀ v9 ∈ wsA, v9.before #[Value.ref b] s = true := fun v9 h9 => hts v9 (wsA_tbl h9)
  have S0 : k_C p s m #[Value.ref b] c cL_law 7 RL := ⟨hx, hb, hml, hown, ht⟩
  have hbA : ¬ (fun q : Nat => s.heap.size ≤ q) b := Nat.not_le.mpr hbl
  have hA : ∀ q : Nat, s.heap.size ≤ q → (fun q : Nat => s.heap.size ≤ q) q := fun _ h9 => h9
  have hLW9 := hLW
  obtain ⟨hbst, hlx, hh, hoL, hR, hHR⟩ := hLW9
  have hkp := kp_6 hh
  have hBU9 := hBU
  obtain ⟨hty, hcf, hm⟩ := hBU9
  obtain ⟨hb1, hb2, hb3, hb4⟩ := bST_le hbst
  obtain ⟨y1, hy1⟩ : ∃ z9 : Int32, z9 = xs (i + 1) := ⟨_, rfl⟩
  obtain ⟨y2, hy2⟩ : ∃ z9 : Int32, z9 = xs (i + 2) := ⟨_, rfl⟩
  obtain ⟨y3, hy3⟩ : ∃ z9 : Int32, z9 = xs (i + 3) := ⟨_, rfl⟩
  generalize hAe : (fun q : Nat => s.heap.size ≤ q) = A at hG hD hS hA hbA
  rcases smu_or (v := y1) hbst with hxi | ⟨en, hen, rfl⟩
  · skip
    refine lv_aload_n hx hb dL_law_248 rfl (lv_at hl 3 rfl) ?_
    refine lv_aload_n hx hb dL_law_249 rfl (lv_at hl 4 rfl) ?_
    refine lv_iload hx hb dL_law_250 (lv_at hl 0 rfl) ?_
    refine lv_iconst (v := 1) hx hb dL_law_252 (by decide) ?_
    refine lv_iadd hx hb dL_law_253 ?_
    refine k_nrm (y := (nI (i + 1))) (nI_add i 1) ?_
    refine va_sld hx hb hX hbl hbA hS (vp_in_nI (by omega) (by omega)) dL_law_254 ?_
    refine k_nrm (y := y1) ((by rw [nI_clamp (by omega)]; exact hy1.symm)) ?_
    refine lv_aload_n hx hb dL_law_255 rfl (lv_at hl 4 rfl) ?_
    refine lv_iload hx hb dL_law_256 (lv_at hl 0 rfl) ?_
    refine lv_iconst (v := 2) hx hb dL_law_258 (by decide) ?_
    refine lv_iadd hx hb dL_law_259 ?_
    refine k_nrm (y := (nI (i + 2))) (nI_add i 2) ?_
    refine va_sld hx hb hX hbl hbA hS (vp_in_nI (by omega) (by omega)) dL_law_260 ?_
    refine k_nrm (y := y2) ((by rw [nI_clamp (by omega)]; exact hy2.symm)) ?_
    refine lv_aload_n hx hb dL_law_261 rfl (lv_at hl 1 rfl) ?_
    have ct := k_cut_TT (wp := [(mo, .inr (8, [.ref ms, .int (nI (h_kp hs)), .ref mb, .int (nI ty), .int th, .ref mk, .int ml, .ref mfd, .int mf, .int sp, .int on, .int tw])), (ms, .inl (K, 889, .inl sf)), (mk, .inl (K, 41, .inl lk)), (mfd, .inl (K, 9, .inl fd)), (mb, .inl (KC, 60, .inl cf)), ((a 25), .inr (4, [.ref (a 26), .int (nI ty)])), ((a 26), .inl (K, 60, .inl bf)), ((a 27), .inr (1, [.int pk, .int pf, .int ps, .int pn, .int pp, .int pm])), (out, .inl (KL, 1, .inr (.inl ofn)))]) (T := (WW a K KS st hs sc)) (wc := [(out, .inl (KL, 1, .inr (.inl ofn)))]) (wr := [(mo, .inr (8, [.ref ms, .int (nI (h_kp hs)), .ref mb, .int (nI ty), .int th, .ref mk, .int ml, .ref mfd, .int mf, .int sp, .int on, .int tw])), (ms, .inl (K, 889, .inl sf)), (mk, .inl (K, 41, .inl lk)), (mfd, .inl (K, 9, .inl fd)), (mb, .inl (KC, 60, .inl cf)), ((a 25), .inr (4, [.ref (a 26), .int (nI ty)])), ((a 26), .inl (K, 60, .inl bf)), ((a 27), .inr (1, [.int pk, .int pf, .int ps, .int pn, .int pp, .int pm]))]) (tc := [(K, .int), (KS, .object "BarcodeWand$State"), (KL, .long)]) hG hS hA hK hP hD [8] [0, 1, 2, 3, 4, 5, 6, 7] [0, 1, 2] rfl rfl (by decide) (by decide) (by decide) rfl
    refine k_endi (As := [.ref (a 0), .int y1, .int y2, .ref out]) ct (k_runSW (As := [.ref (a 0), .int y1, .int y2, .ref out]) (rest := []) S0 Ls_L_86 ct (c_L_smudgeX1 l hst D a K KS st hs sc y1 y2 out KL ofn (by assumption) H.size) hl.1 rfl (Nat.le_of_ble_eq_true rfl) rfl dL_law_262 ⟨⟨Nat.le_of_ble_eq_true rfl, Nat.le_of_ble_eq_true rfl⟩, (show C9 + 1 ≤ 601024 by omega), (show S9 + 6 ≤ 7293034 by omega)⟩) rfl rfl (fun r_1 _ H locs hw_2 hP hD hK hS => ?_)
    have hK : va_K D vwCl [(K, .int), (KS, .object "BarcodeWand$State"), (KL, .long), (KC, .char)] s := hK
    have hP : va_P D vwCl ((mo, .inr (8, [.ref ms, .int (nI (h_kp hs)), .ref mb, .int (nI ty), .int th, .ref mk, .int ml, .ref mfd, .int mf, .int sp, .int on, .int tw])) :: (ms, .inl (K, 889, .inl sf)) :: (mk, .inl (K, 41, .inl lk)) :: (mfd, .inl (K, 9, .inl fd)) :: (mb, .inl (KC, 60, .inl cf)) :: ((a 25), .inr (4, [.ref (a 26), .int (nI ty)])) :: ((a 26), .inl (K, 60, .inl bf)) :: ((a 27), .inr (1, [.int pk, .int pf, .int ps, .int pn, .int pp, .int pm])) :: (out, .inl (KL, 1, .inr (.inl ofn))) :: (WW a K KS st hs sc)) H := hP
    have hD : va_D A ((mo, .inr (8, [.ref ms, .int (nI (h_kp hs)), .ref mb, .int (nI ty), .int th, .ref mk, .int ml, .ref mfd, .int mf, .int sp, .int on, .int tw])) :: (ms, .inl (K, 889, .inl sf)) :: (mk, .inl (K, 41, .inl lk)) :: (mfd, .inl (K, 9, .inl fd)) :: (mb, .inl (KC, 60, .inl cf)) :: ((a 25), .inr (4, [.ref (a 26), .int (nI ty)])) :: ((a 26), .inl (K, 60, .inl bf)) :: ((a 27), .inr (1, [.int pk, .int pf, .int ps, .int pn, .int pp, .int pm])) :: (out, .inl (KL, 1, .inr (.inl ofn))) :: (WW a K KS st hs sc)) := hD
    have hw_2 : r_1 = (1) := hw_2
    have hw_2 := hw_2.symm
    subst hw_2
    refine k_nrm (y := 1) rfl ?_
    refine lv_istore (lv' := [(5, .int 1), (4, .int (nI i)), (3, .ref out), (2, .ref mo), (1, .ref (a 0)), (0, .ref b)]) hx hb dL_law_265 hl (by decide) rfl (fun ls hl => ?_)
    refine lv_aload_n hx hb dL_law_267 rfl (lv_at hl 3 rfl) ?_
    refine lv_aload_n hx hb dL_law_268 rfl (lv_at hl 5 rfl) ?_
    refine lv_iload hx hb dL_law_269 (lv_at hl 1 rfl) ?_
    refine lv_iconst (v := 1) hx hb dL_law_271 (by decide) ?_
    refine lv_iadd hx hb dL_law_272 ?_
    refine k_nrm (y := (nI (i + 1))) (nI_add i 1) ?_
    refine va_sld hx hb hX hbl hbA hS (vp_in_nI (by omega) (by omega)) dL_law_273 ?_
    refine k_nrm (y := y1) ((by rw [nI_clamp (by omega)]; exact hy1.symm)) ?_
    refine lv_aload_n hx hb dL_law_274 rfl (lv_at hl 5 rfl) ?_
    refine lv_iload hx hb dL_law_275 (lv_at hl 1 rfl) ?_
    refine lv_iconst (v := 2) hx hb dL_law_277 (by decide) ?_
    refine lv_iadd hx hb dL_law_278 ?_
    refine k_nrm (y := (nI (i + 2))) (nI_add i 2) ?_
    refine va_sld hx hb hX hbl hbA hS (vp_in_nI (by omega) (by omega)) dL_law_279 ?_
    refine k_nrm (y := y2) ((by rw [nI_clamp (by omega)]; exact hy2.symm)) ?_
    have ct := k_cut_T (wp := [(mo, .inr (8, [.ref ms, .int (nI (h_kp hs)), .ref mb, .int (nI ty), .int th, .ref mk, .int ml, .ref mfd, .int mf, .int sp, .int on, .int tw])), (ms, .inl (K, 889, .inl sf)), (mk, .inl (K, 41, .inl lk)), (mfd, .inl (K, 9, .inl fd)), (mb, .inl (KC, 60, .inl cf)), ((a 25), .inr (4, [.ref (a 26), .int (nI ty)])), ((a 26), .inl (K, 60, .inl bf)), ((a 27), .inr (1, [.int pk, .int pf, .int ps, .int pn, .int pp, .int pm])), (out, .inl (KL, 1, .inr (.inl ofn)))]) (T := (WW a K KS st hs sc)) (wc := [(mo, .inr (8, [.ref ms, .int (nI (h_kp hs)), .ref mb, .int (nI ty), .int th, .ref mk, .int ml, .ref mfd, .int mf, .int sp, .int on, .int tw])), (ms, .inl (K, 889, .inl sf))]) (wr := [(mk, .inl (K, 41, .inl lk)), (mfd, .inl (K, 9, .inl fd)), (mb, .inl (KC, 60, .inl cf)), ((a 25), .inr (4, [.ref (a 26), .int (nI ty)])), ((a 26), .inl (K, 60, .inl bf)), ((a 27), .inr (1, [.int pk, .int pf, .int ps, .int pn, .int pp, .int pm])), (out, .inl (KL, 1, .inr (.inl ofn)))]) (tc := [(K, .int)]) hG hS hA hK hP hD [0, 1] [2, 3, 4, 5, 6, 7, 8] [0] rfl rfl (by decide) (by decide) (by decide) rfl
    refine k_endi (As := [.ref mo, .int y1, .int y2]) ct (k_runV (As := [.int y1, .int y2]) (rest := []) S0 Lv_L_88 rfl (ci := 8) (q0 := 0) rfl rfl ct (c_M_smudgeX1 l D mo ms (nI (h_kp hs)) mb (nI ty) th mk ml mfd mf sp on tw K sf st y1 y2 (by assumption) (by assumption) (by assumption) (by assumption) H.size) hl.1 rfl (Nat.le_of_ble_eq_true rfl) rfl dL_law_280 ⟨⟨Nat.le_of_ble_eq_true rfl, Nat.le_of_ble_eq_true rfl⟩, (show C9 + 1 ≤ 601024 by omega), (show S9 + 6 ≤ 7293034 by omega)⟩) rfl rfl (fun r_3 _ H locs hw_4 hP hD hK hS => ?_)
    have hP : va_P D vwCl ((mk, .inl (K, 41, .inl lk)) :: (mfd, .inl (K, 9, .inl fd)) :: (mb, .inl (KC, 60, .inl cf)) :: ((a 25), .inr (4, [.ref (a 26), .int (nI ty)])) :: ((a 26), .inl (K, 60, .inl bf)) :: ((a 27), .inr (1, [.int pk, .int pf, .int ps, .int pn, .int pp, .int pm])) :: (out, .inl (KL, 1, .inr (.inl ofn))) :: (mo, .inr (8, [.ref ms, .int (nI (h_kp hs)), .ref mb, .int (nI ty), .int 1, .ref mk, .int ml, .ref mfd, .int mf, .int sp, .int on, .int tw])) :: (ms, .inl (K, 889, .inl sf)) :: (WW a K KS st hs sc)) H := k_swapP (a := [(mk, .inl (K, 41, .inl lk)), (mfd, .inl (K, 9, .inl fd)), (mb, .inl (KC, 60, .inl cf)), ((a 25), .inr (4, [.ref (a 26), .int (nI ty)])), ((a 26), .inl (K, 60, .inl bf)), ((a 27), .inr (1, [.int pk, .int pf, .int ps, .int pn, .int pp, .int pm])), (out, .inl (KL, 1, .inr (.inl ofn)))]) (b := (WW a K KS st hs sc)) (c := [(mo, .inr (8, [.ref ms, .int (nI (h_kp hs)), .ref mb, .int (nI ty), .int 1, .ref mk, .int ml, .ref mfd, .int mf, .int sp, .int on, .int tw])), (ms, .inl (K, 889, .inl sf))]) hP
    have hD : va_D A ((mk, .inl (K, 41, .inl lk)) :: (mfd, .inl (K, 9, .inl fd)) :: (mb, .inl (KC, 60, .inl cf)) :: ((a 25), .inr (4, [.ref (a 26), .int (nI ty)])) :: ((a 26), .inl (K, 60, .inl bf)) :: ((a 27), .inr (1, [.int pk, .int pf, .int ps, .int pn, .int pp, .int pm])) :: (out, .inl (KL, 1, .inr (.inl ofn))) :: (mo, .inr (8, [.ref ms, .int (nI (h_kp hs)), .ref mb, .int (nI ty), .int 1, .ref mk, .int ml, .ref mfd, .int mf, .int sp, .int on, .int tw])) :: (ms, .inl (K, 889, .inl sf)) :: (WW a K KS st hs sc)) := va_D.swap (a := [(mk, .inl (K, 41, .inl lk)), (mfd, .inl (K, 9, .inl fd)), (mb, .inl (KC, 60, .inl cf)), ((a 25), .inr (4, [.ref (a 26), .int (nI ty)])), ((a 26), .inl (K, 60, .inl bf)), ((a 27), .inr (1, [.int pk, .int pf, .int ps, .int pn, .int pp, .int pm])), (out, .inl (KL, 1, .inr (.inl ofn)))]) (b := (WW a K KS st hs sc)) (c := [(mo, .inr (8, [.ref ms, .int (nI (h_kp hs)), .ref mb, .int (nI ty), .int 1, .ref mk, .int ml, .ref mfd, .int mf, .int sp, .int on, .int tw])), (ms, .inl (K, 889, .inl sf))]) hD
    have hK : va_K D vwCl [(K, .int), (KS, .object "BarcodeWand$State"), (KL, .long), (KC, .char)] s := hK
    have hP : va_P D vwCl ((mk, .inl (K, 41, .inl lk)) :: (mfd, .inl (K, 9, .inl fd)) :: (mb, .inl (KC, 60, .inl cf)) :: ((a 25), .inr (4, [.ref (a 26), .int (nI ty)])) :: ((a 26), .inl (K, 60, .inl bf)) :: ((a 27), .inr (1, [.int pk, .int pf, .int ps, .int pn, .int pp, .int pm])) :: (out, .inl (KL, 1, .inr (.inl ofn))) :: (mo, .inr (8, [.ref ms, .int (nI (h_kp hs)), .ref mb, .int (nI ty), .int 1, .ref mk, .int ml, .ref mfd, .int mf, .int sp, .int on, .int tw])) :: (ms, .inl (K, 889, .inl sf)) :: (WW a K KS st hs sc)) H := hP
    have hD : va_D A ((mk, .inl (K, 41, .inl lk)) :: (mfd, .inl (K, 9, .inl fd)) :: (mb, .inl (KC, 60, .inl cf)) :: ((a 25), .inr (4, [.ref (a 26), .int (nI ty)])) :: ((a 26), .inl (K, 60, .inl bf)) :: ((a 27), .inr (1, [.int pk, .int pf, .int ps, .int pn, .int pp, .int pm])) :: (out, .inl (KL, 1, .inr (.inl ofn))) :: (mo, .inr (8, [.ref ms, .int (nI (h_kp hs)), .ref mb, .int (nI ty), .int 1, .ref mk, .int ml, .ref mfd, .int mf, .int sp, .int on, .int tw])) :: (ms, .inl (K, 889, .inl sf)) :: (WW a K KS st hs sc)) := hD
    have hw_4 : r_3 = (0) := hw_4
    have hw_4 := hw_4.symm
    subst hw_4
    refine k_nrm (y := 0) rfl ?_
    refine lv_istore (lv' := [(6, .int 0), (5, .int 1), (4, .int (nI i)), (3, .ref out), (2, .ref mo), (1, .ref (a 0)), (0, .ref b)]) hx hb dL_law_283 hl (by decide) rfl (fun ls hl => ?_)
    refine lv_aload_n hx hb dL_law_285 rfl (lv_at hl 4 rfl) ?_
    have ct := k_cut_T (wp := [(mk, .inl (K, 41, .inl lk)), (mfd, .inl (K, 9, .inl fd)), (mb, .inl (KC, 60, .inl cf)), ((a 25), .inr (4, [.ref (a 26), .int (nI ty)])), ((a 26), .inl (K, 60, .inl bf)), ((a 27), .inr (1, [.int pk, .int pf, .int ps, .int pn, .int pp, .int pm])), (out, .inl (KL, 1, .inr (.inl ofn))), (mo, .inr (8, [.ref ms, .int (nI (h_kp hs)), .ref mb, .int (nI ty), .int 1, .ref mk, .int ml, .ref mfd, .int mf, .int sp, .int on, .int tw])), (ms, .inl (K, 889, .inl sf))]) (T := (WW a K KS st hs sc)) (wc := [(mo, .inr (8, [.ref ms, .int (nI (h_kp hs)), .ref mb, .int (nI ty), .int 1, .ref mk, .int ml, .ref mfd, .int mf, .int sp, .int on, .int tw]))]) (wr := [(mk, .inl (K, 41, .inl lk)), (mfd, .inl (K, 9, .inl fd)), (mb, .inl (KC, 60, .inl cf)), ((a 25), .inr (4, [.ref (a 26), .int (nI ty)])), ((a 26), .inl (K, 60, .inl bf)), ((a 27), .inr (1, [.int pk, .int pf, .int ps, .int pn, .int pp, .int pm])), (out, .inl (KL, 1, .inr (.inl ofn))), (ms, .inl (K, 889, .inl sf))]) (tc := []) hG hS hA hK hP hD [7] [0, 1, 2, 3, 4, 5, 6, 8] [] rfl rfl (by decide) (by decide) (by decide) rfl
    refine k_endi (As := [.ref mo]) ct (k_runV (As := []) (rest := []) S0 Lv_L_83 rfl (ci := 8) (q0 := 0) rfl rfl ct (c_M_thrown l D mo ms (nI (h_kp hs)) mb (nI ty) 1 mk ml mfd mf sp on tw H.size) hl.1 rfl (Nat.le_of_ble_eq_true rfl) rfl dL_law_286 ⟨⟨Nat.le_of_ble_eq_true rfl, Nat.le_of_ble_eq_true rfl⟩, (show C9 + 1 ≤ 601024 by omega), (show S9 + 6 ≤ 7293034 by omega)⟩) rfl rfl (fun r_5 _ H locs hw_6 hP hD hK hS => ?_)
    have hP : va_P D vwCl ((mk, .inl (K, 41, .inl lk)) :: (mfd, .inl (K, 9, .inl fd)) :: (mb, .inl (KC, 60, .inl cf)) :: ((a 25), .inr (4, [.ref (a 26), .int (nI ty)])) :: ((a 26), .inl (K, 60, .inl bf)) :: ((a 27), .inr (1, [.int pk, .int pf, .int ps, .int pn, .int pp, .int pm])) :: (out, .inl (KL, 1, .inr (.inl ofn))) :: (ms, .inl (K, 889, .inl sf)) :: (mo, .inr (8, [.ref ms, .int (nI (h_kp hs)), .ref mb, .int (nI ty), .int 1, .ref mk, .int ml, .ref mfd, .int mf, .int sp, .int on, .int tw])) :: (WW a K KS st hs sc)) H := k_swapP (a := [(mk, .inl (K, 41, .inl lk)), (mfd, .inl (K, 9, .inl fd)), (mb, .inl (KC, 60, .inl cf)), ((a 25), .inr (4, [.ref (a 26), .int (nI ty)])), ((a 26), .inl (K, 60, .inl bf)), ((a 27), .inr (1, [.int pk, .int pf, .int ps, .int pn, .int pp, .int pm])), (out, .inl (KL, 1, .inr (.inl ofn))), (ms, .inl (K, 889, .inl sf))]) (b := (WW a K KS st hs sc)) (c := [(mo, .inr (8, [.ref ms, .int (nI (h_kp hs)), .ref mb, .int (nI ty), .int 1, .ref mk, .int ml, .ref mfd, .int mf, .int sp, .int on, .int tw]))]) hP
    have hD : va_D A ((mk, .inl (K, 41, .inl lk)) :: (mfd, .inl (K, 9, .inl fd)) :: (mb, .inl (KC, 60, .inl cf)) :: ((a 25), .inr (4, [.ref (a 26), .int (nI ty)])) :: ((a 26), .inl (K, 60, .inl bf)) :: ((a 27), .inr (1, [.int pk, .int pf, .int ps, .int pn, .int pp, .int pm])) :: (out, .inl (KL, 1, .inr (.inl ofn))) :: (ms, .inl (K, 889, .inl sf)) :: (mo, .inr (8, [.ref ms, .int (nI (h_kp hs)), .ref mb, .int (nI ty), .int 1, .ref mk, .int ml, .ref mfd, .int mf, .int sp, .int on, .int tw])) :: (WW a K KS st hs sc)) := va_D.swap (a := [(mk, .inl (K, 41, .inl lk)), (mfd, .inl (K, 9, .inl fd)), (mb, .inl (KC, 60, .inl cf)), ((a 25), .inr (4, [.ref (a 26), .int (nI ty)])), ((a 26), .inl (K, 60, .inl bf)), ((a 27), .inr (1, [.int pk, .int pf, .int ps, .int pn, .int pp, .int pm])), (out, .inl (KL, 1, .inr (.inl ofn))), (ms, .inl (K, 889, .inl sf))]) (b := (WW a K KS st hs sc)) (c := [(mo, .inr (8, [.ref ms, .int (nI (h_kp hs)), .ref mb, .int (nI ty), .int 1, .ref mk, .int ml, .ref mfd, .int mf, .int sp, .int on, .int tw]))]) hD
    have hK : va_K D vwCl [(K, .int), (KS, .object "BarcodeWand$State"), (KL, .long), (KC, .char)] s := hK
    have hP : va_P D vwCl ((mk, .inl (K, 41, .inl lk)) :: (mfd, .inl (K, 9, .inl fd)) :: (mb, .inl (KC, 60, .inl cf)) :: ((a 25), .inr (4, [.ref (a 26), .int (nI ty)])) :: ((a 26), .inl (K, 60, .inl bf)) :: ((a 27), .inr (1, [.int pk, .int pf, .int ps, .int pn, .int pp, .int pm])) :: (out, .inl (KL, 1, .inr (.inl ofn))) :: (ms, .inl (K, 889, .inl sf)) :: (mo, .inr (8, [.ref ms, .int (nI (h_kp hs)), .ref mb, .int (nI ty), .int 1, .ref mk, .int ml, .ref mfd, .int mf, .int sp, .int on, .int tw])) :: (WW a K KS st hs sc)) H := hP
    have hD : va_D A ((mk, .inl (K, 41, .inl lk)) :: (mfd, .inl (K, 9, .inl fd)) :: (mb, .inl (KC, 60, .inl cf)) :: ((a 25), .inr (4, [.ref (a 26), .int (nI ty)])) :: ((a 26), .inl (K, 60, .inl bf)) :: ((a 27), .inr (1, [.int pk, .int pf, .int ps, .int pn, .int pp, .int pm])) :: (out, .inl (KL, 1, .inr (.inl ofn))) :: (ms, .inl (K, 889, .inl sf)) :: (mo, .inr (8, [.ref ms, .int (nI (h_kp hs)), .ref mb, .int (nI ty), .int 1, .ref mk, .int ml, .ref mfd, .int mf, .int sp, .int on, .int tw])) :: (WW a K KS st hs sc)) := hD
    have hw_6 : r_5 = 1 := hw_6
    have hw_6 := hw_6.symm
    subst hw_6
    refine k_nrm (y := 1) rfl ?_
    refine lv_iload hx hb dL_law_289 (lv_at hl 1 rfl) ?_
    refine lv_icmp_eq (tgt := 296) hx hb dL_law_291 (by decide) (fun _ => ?_) (fun c9 => absurd (by decide) c9)
    refine lv_iload hx hb dL_law_296 (lv_at hl 1 rfl) ?_
    refine lv_if_ne (tgt := 313) hx hb dL_law_298 (by decide) (fun _ => ?_) (fun c9 => absurd c9 (by decide))
    refine lv_goto (tgt := 1479) hx hb dL_law_313 (by decide) ?_
    have hP9 : va_P D vwCl ((mo, .inr (8, [.ref ms, .int (nI (h_kp hs)), .ref mb, .int (nI ty), .int 1, .ref mk, .int ml, .ref mfd, .int mf, .int sp, .int on, .int tw])) :: (ms, .inl (K, 889, .inl sf)) :: (mk, .inl (K, 41, .inl lk)) :: (mfd, .inl (K, 9, .inl fd)) :: (mb, .inl (KC, 60, .inl cf)) :: ((a 25), .inr (4, [.ref (a 26), .int (nI ty)])) :: ((a 26), .inl (K, 60, .inl bf)) :: ((a 27), .inr (1, [.int pk, .int pf, .int ps, .int pn, .int pp, .int pm])) :: (out, .inl (KL, 1, .inr (.inl ofn))) :: (WW a K KS st hs sc)) H := k_subP (wp := [(mk, .inl (K, 41, .inl lk)), (mfd, .inl (K, 9, .inl fd)), (mb, .inl (KC, 60, .inl cf)), ((a 25), .inr (4, [.ref (a 26), .int (nI ty)])), ((a 26), .inl (K, 60, .inl bf)), ((a 27), .inr (1, [.int pk, .int pf, .int ps, .int pn, .int pp, .int pm])), (out, .inl (KL, 1, .inr (.inl ofn))), (ms, .inl (K, 889, .inl sf)), (mo, .inr (8, [.ref ms, .int (nI (h_kp hs)), .ref mb, .int (nI ty), .int 1, .ref mk, .int ml, .ref mfd, .int mf, .int sp, .int on, .int tw]))]) (wp' := [(mo, .inr (8, [.ref ms, .int (nI (h_kp hs)), .ref mb, .int (nI ty), .int 1, .ref mk, .int ml, .ref mfd, .int mf, .int sp, .int on, .int tw])), (ms, .inl (K, 889, .inl sf)), (mk, .inl (K, 41, .inl lk)), (mfd, .inl (K, 9, .inl fd)), (mb, .inl (KC, 60, .inl cf)), ((a 25), .inr (4, [.ref (a 26), .int (nI ty)])), ((a 26), .inl (K, 60, .inl bf)), ((a 27), .inr (1, [.int pk, .int pf, .int ps, .int pn, .int pp, .int pm])), (out, .inl (KL, 1, .inr (.inl ofn)))]) (T := (WW a K KS st hs sc)) hP [8, 7, 0, 1, 2, 3, 4, 5, 6] rfl
    have hD9 : va_D A ((mo, .inr (8, [.ref ms, .int (nI (h_kp hs)), .ref mb, .int (nI ty), .int 1, .ref mk, .int ml, .ref mfd, .int mf, .int sp, .int on, .int tw])) :: (ms, .inl (K, 889, .inl sf)) :: (mk, .inl (K, 41, .inl lk)) :: (mfd, .inl (K, 9, .inl fd)) :: (mb, .inl (KC, 60, .inl cf)) :: ((a 25), .inr (4, [.ref (a 26), .int (nI ty)])) :: ((a 26), .inl (K, 60, .inl bf)) :: ((a 27), .inr (1, [.int pk, .int pf, .int ps, .int pn, .int pp, .int pm])) :: (out, .inl (KL, 1, .inr (.inl ofn))) :: (WW a K KS st hs sc)) := k_subD (wp := [(mk, .inl (K, 41, .inl lk)), (mfd, .inl (K, 9, .inl fd)), (mb, .inl (KC, 60, .inl cf)), ((a 25), .inr (4, [.ref (a 26), .int (nI ty)])), ((a 26), .inl (K, 60, .inl bf)), ((a 27), .inr (1, [.int pk, .int pf, .int ps, .int pn, .int pp, .int pm])), (out, .inl (KL, 1, .inr (.inl ofn))), (ms, .inl (K, 889, .inl sf)), (mo, .inr (8, [.ref ms, .int (nI (h_kp hs)), .ref mb, .int (nI ty), .int 1, .ref mk, .int ml, .ref mfd, .int mf, .int sp, .int on, .int tw]))]) (wp' := [(mo, .inr (8, [.ref ms, .int (nI (h_kp hs)), .ref mb, .int (nI ty), .int 1, .ref mk, .int ml, .ref mfd, .int mf, .int sp, .int on, .int tw])), (ms, .inl (K, 889, .inl sf)), (mk, .inl (K, 41, .inl lk)), (mfd, .inl (K, 9, .inl fd)), (mb, .inl (KC, 60, .inl cf)), ((a 25), .inr (4, [.ref (a 26), .int (nI ty)])), ((a 26), .inl (K, 60, .inl bf)), ((a 27), .inr (1, [.int pk, .int pf, .int ps, .int pn, .int pp, .int pm])), (out, .inl (KL, 1, .inr (.inl ofn)))]) (T := (WW a K KS st hs sc)) hD [8, 7, 0, 1, 2, 3, 4, 5, 6] (by decide) rfl
    subst hAe
    refine W.widen (k := Cn) (n := Sn) (by omega) (by omega) ?_
    exact next st hs sc sf lk fd bf cf ofn ty 1 ml mf sp on tw pk pf ps pn pp pm H locs ls hLW hBU hP9 hD9 hS (lv_sub hl [2, 3, 4, 5, 6] rfl)
  · by_cases hx9 : ¬ y2 < (-9) ∧ y2 ≤ 9
    · obtain ⟨hx1, hx2⟩ := hx9
      refine lv_aload_n hx hb dL_law_248 rfl (lv_at hl 3 rfl) ?_
      refine lv_aload_n hx hb dL_law_249 rfl (lv_at hl 4 rfl) ?_
      refine lv_iload hx hb dL_law_250 (lv_at hl 0 rfl) ?_
      refine lv_iconst (v := 1) hx hb dL_law_252 (by decide) ?_
      refine lv_iadd hx hb dL_law_253 ?_
      refine k_nrm (y := (nI (i + 1))) (nI_add i 1) ?_
      refine va_sld hx hb hX hbl hbA hS (vp_in_nI (by omega) (by omega)) dL_law_254 ?_
      refine k_nrm (y := (nI en)) ((by rw [nI_clamp (by omega)]; exact hy1.symm)) ?_
      refine lv_aload_n hx hb dL_law_255 rfl (lv_at hl 4 rfl) ?_
      refine lv_iload hx hb dL_law_256 (lv_at hl 0 rfl) ?_
      refine lv_iconst (v := 2) hx hb dL_law_258 (by decide) ?_
      refine lv_iadd hx hb dL_law_259 ?_
      refine k_nrm (y := (nI (i + 2))) (nI_add i 2) ?_
      refine va_sld hx hb hX hbl hbA hS (vp_in_nI (by omega) (by omega)) dL_law_260 ?_
      refine k_nrm (y := y2) ((by rw [nI_clamp (by omega)]; exact hy2.symm)) ?_
      refine lv_aload_n hx hb dL_law_261 rfl (lv_at hl 1 rfl) ?_
      have ct := k_cut_TT (wp := [(mo, .inr (8, [.ref ms, .int (nI (h_kp hs)), .ref mb, .int (nI ty), .int th, .ref mk, .int ml, .ref mfd, .int mf, .int sp, .int on, .int tw])), (ms, .inl (K, 889, .inl sf)), (mk, .inl (K, 41, .inl lk)), (mfd, .inl (K, 9, .inl fd)), (mb, .inl (KC, 60, .inl cf)), ((a 25), .inr (4, [.ref (a 26), .int (nI ty)])), ((a 26), .inl (K, 60, .inl bf)), ((a 27), .inr (1, [.int pk, .int pf, .int ps, .int pn, .int pp, .int pm])), (out, .inl (KL, 1, .inr (.inl ofn)))]) (T := (WW a K KS st hs sc)) (wc := [(out, .inl (KL, 1, .inr (.inl ofn)))]) (wr := [(mo, .inr (8, [.ref ms, .int (nI (h_kp hs)), .ref mb, .int (nI ty), .int th, .ref mk, .int ml, .ref mfd, .int mf, .int sp, .int on, .int tw])), (ms, .inl (K, 889, .inl sf)), (mk, .inl (K, 41, .inl lk)), (mfd, .inl (K, 9, .inl fd)), (mb, .inl (KC, 60, .inl cf)), ((a 25), .inr (4, [.ref (a 26), .int (nI ty)])), ((a 26), .inl (K, 60, .inl bf)), ((a 27), .inr (1, [.int pk, .int pf, .int ps, .int pn, .int pp, .int pm]))]) (tc := [(K, .int), (KS, .object "BarcodeWand$State"), (KL, .long)]) hG hS hA hK hP hD [8] [0, 1, 2, 3, 4, 5, 6, 7] [0, 1, 2] rfl rfl (by decide) (by decide) (by decide) rfl
      refine k_endi (As := [.ref (a 0), .int (nI en), .int y2, .ref out]) ct (k_runSW (As := [.ref (a 0), .int (nI en), .int y2, .ref out]) (rest := []) S0 Ls_L_86 ct (c_L_smudge l D a K KS st hs sc en y2 out KL ofn (by assumption) (by assumption) (by assumption) (by assumption) (by assumption) H.size) hl.1 rfl (Nat.le_of_ble_eq_true rfl) rfl dL_law_262 ⟨⟨Nat.le_of_ble_eq_true rfl, Nat.le_of_ble_eq_true rfl⟩, (show C9 ≤ 601024 by omega), (show S9 ≤ 7293034 by omega)⟩) rfl rfl (fun r_7 u H locs hw_10 hP hD hK hS => ?_)
      obtain ⟨og_8, rv_9⟩ := u
      have hK : va_K D vwCl [(K, .int), (KS, .object "BarcodeWand$State"), (KL, .long), (KC, .char)] s := hK
      have hP : va_P D vwCl ((mo, .inr (8, [.ref ms, .int (nI (h_kp hs)), .ref mb, .int (nI ty), .int th, .ref mk, .int ml, .ref mfd, .int mf, .int sp, .int on, .int tw])) :: (ms, .inl (K, 889, .inl sf)) :: (mk, .inl (K, 41, .inl lk)) :: (mfd, .inl (K, 9, .inl fd)) :: (mb, .inl (KC, 60, .inl cf)) :: ((a 25), .inr (4, [.ref (a 26), .int (nI ty)])) :: ((a 26), .inl (K, 60, .inl bf)) :: ((a 27), .inr (1, [.int pk, .int pf, .int ps, .int pn, .int pp, .int pm])) :: (out, .inl (KL, 1, .inr (.inl og_8))) :: (WW a K KS (setZ en y2 st) (svH hs st) sc)) H := hP
      have hD : va_D A ((mo, .inr (8, [.ref ms, .int (nI (h_kp hs)), .ref mb, .int (nI ty), .int th, .ref mk, .int ml, .ref mfd, .int mf, .int sp, .int on, .int tw])) :: (ms, .inl (K, 889, .inl sf)) :: (mk, .inl (K, 41, .inl lk)) :: (mfd, .inl (K, 9, .inl fd)) :: (mb, .inl (KC, 60, .inl cf)) :: ((a 25), .inr (4, [.ref (a 26), .int (nI ty)])) :: ((a 26), .inl (K, 60, .inl bf)) :: ((a 27), .inr (1, [.int pk, .int pf, .int ps, .int pn, .int pp, .int pm])) :: (out, .inl (KL, 1, .inr (.inl og_8))) :: (WW a K KS (setZ en y2 st) (svH hs st) sc)) := hD
      rcases hw_10 with ⟨rfl, rfl, c_11⟩
      · skip
        refine lv_istore (lv' := [(5, .int 0), (4, .int (nI i)), (3, .ref out), (2, .ref mo), (1, .ref (a 0)), (0, .ref b)]) hx hb dL_law_265 hl (by decide) rfl (fun ls hl => ?_)
        refine lv_aload_n hx hb dL_law_267 rfl (lv_at hl 3 rfl) ?_
        refine lv_aload_n hx hb dL_law_268 rfl (lv_at hl 5 rfl) ?_
        refine lv_iload hx hb dL_law_269 (lv_at hl 1 rfl) ?_
        refine lv_iconst (v := 1) hx hb dL_law_271 (by decide) ?_
        refine lv_iadd hx hb dL_law_272 ?_
        refine k_nrm (y := (nI (i + 1))) (nI_add i 1) ?_
        refine va_sld hx hb hX hbl hbA hS (vp_in_nI (by omega) (by omega)) dL_law_273 ?_
        refine k_nrm (y := (nI en)) ((by rw [nI_clamp (by omega)]; exact hy1.symm)) ?_
        refine lv_aload_n hx hb dL_law_274 rfl (lv_at hl 5 rfl) ?_
        refine lv_iload hx hb dL_law_275 (lv_at hl 1 rfl) ?_
        refine lv_iconst (v := 2) hx hb dL_law_277 (by decide) ?_
        refine lv_iadd hx hb dL_law_278 ?_
        refine k_nrm (y := (nI (i + 2))) (nI_add i 2) ?_
        refine va_sld hx hb hX hbl hbA hS (vp_in_nI (by omega) (by omega)) dL_law_279 ?_
        refine k_nrm (y := y2) ((by rw [nI_clamp (by omega)]; exact hy2.symm)) ?_
        have ct := k_cut_T (wp := [(mo, .inr (8, [.ref ms, .int (nI (h_kp hs)), .ref mb, .int (nI ty), .int th, .ref mk, .int ml, .ref mfd, .int mf, .int sp, .int on, .int tw])), (ms, .inl (K, 889, .inl sf)), (mk, .inl (K, 41, .inl lk)), (mfd, .inl (K, 9, .inl fd)), (mb, .inl (KC, 60, .inl cf)), ((a 25), .inr (4, [.ref (a 26), .int (nI ty)])), ((a 26), .inl (K, 60, .inl bf)), ((a 27), .inr (1, [.int pk, .int pf, .int ps, .int pn, .int pp, .int pm])), (out, .inl (KL, 1, .inr (.inl og_8)))]) (T := (WW a K KS (setZ en y2 st) (svH hs st) sc)) (wc := [(mo, .inr (8, [.ref ms, .int (nI (h_kp hs)), .ref mb, .int (nI ty), .int th, .ref mk, .int ml, .ref mfd, .int mf, .int sp, .int on, .int tw])), (ms, .inl (K, 889, .inl sf))]) (wr := [(mk, .inl (K, 41, .inl lk)), (mfd, .inl (K, 9, .inl fd)), (mb, .inl (KC, 60, .inl cf)), ((a 25), .inr (4, [.ref (a 26), .int (nI ty)])), ((a 26), .inl (K, 60, .inl bf)), ((a 27), .inr (1, [.int pk, .int pf, .int ps, .int pn, .int pp, .int pm])), (out, .inl (KL, 1, .inr (.inl og_8)))]) (tc := [(K, .int)]) hG hS hA hK hP hD [0, 1] [2, 3, 4, 5, 6, 7, 8] [0] rfl rfl (by decide) (by decide) (by decide) rfl
        refine k_endi (As := [.ref mo, .int (nI en), .int y2]) ct (k_runV (As := [.int (nI en), .int y2]) (rest := []) S0 Lv_L_88 rfl (ci := 8) (q0 := 0) rfl rfl ct (c_M_smudge l D mo ms (h_kp hs) mb (nI ty) th mk ml mfd mf sp on tw K sf st en y2 (by assumption) (by assumption) (by assumption) (by first | assumption | omega) (by assumption) (by assumption) (by assumption) H.size) hl.1 rfl (Nat.le_of_ble_eq_true rfl) rfl dL_law_280 ⟨⟨Nat.le_of_ble_eq_true rfl, Nat.le_of_ble_eq_true rfl⟩, (show C9 ≤ 601024 by omega), (show S9 ≤ 7293034 by omega)⟩) rfl rfl (fun r_12 sg_13 H locs hw_14 hP hD hK hS => ?_)
        have hP : va_P D vwCl ((mk, .inl (K, 41, .inl lk)) :: (mfd, .inl (K, 9, .inl fd)) :: (mb, .inl (KC, 60, .inl cf)) :: ((a 25), .inr (4, [.ref (a 26), .int (nI ty)])) :: ((a 26), .inl (K, 60, .inl bf)) :: ((a 27), .inr (1, [.int pk, .int pf, .int ps, .int pn, .int pp, .int pm])) :: (out, .inl (KL, 1, .inr (.inl og_8))) :: (mo, .inr (8, [.ref ms, .int (nI (min ((h_kp hs) + 1) 6)), .ref mb, .int (nI ty), .int 0, .ref mk, .int ml, .ref mfd, .int mf, .int sp, .int on, .int tw])) :: (ms, .inl (K, 889, .inl sg_13)) :: (WW a K KS (setZ en y2 st) (svH hs st) sc)) H := k_swapP (a := [(mk, .inl (K, 41, .inl lk)), (mfd, .inl (K, 9, .inl fd)), (mb, .inl (KC, 60, .inl cf)), ((a 25), .inr (4, [.ref (a 26), .int (nI ty)])), ((a 26), .inl (K, 60, .inl bf)), ((a 27), .inr (1, [.int pk, .int pf, .int ps, .int pn, .int pp, .int pm])), (out, .inl (KL, 1, .inr (.inl og_8)))]) (b := (WW a K KS (setZ en y2 st) (svH hs st) sc)) (c := [(mo, .inr (8, [.ref ms, .int (nI (min ((h_kp hs) + 1) 6)), .ref mb, .int (nI ty), .int 0, .ref mk, .int ml, .ref mfd, .int mf, .int sp, .int on, .int tw])), (ms, .inl (K, 889, .inl sg_13))]) hP
        have hD : va_D A ((mk, .inl (K, 41, .inl lk)) :: (mfd, .inl (K, 9, .inl fd)) :: (mb, .inl (KC, 60, .inl cf)) :: ((a 25), .inr (4, [.ref (a 26), .int (nI ty)])) :: ((a 26), .inl (K, 60, .inl bf)) :: ((a 27), .inr (1, [.int pk, .int pf, .int ps, .int pn, .int pp, .int pm])) :: (out, .inl (KL, 1, .inr (.inl og_8))) :: (mo, .inr (8, [.ref ms, .int (nI (min ((h_kp hs) + 1) 6)), .ref mb, .int (nI ty), .int 0, .ref mk, .int ml, .ref mfd, .int mf, .int sp, .int on, .int tw])) :: (ms, .inl (K, 889, .inl sg_13)) :: (WW a K KS (setZ en y2 st) (svH hs st) sc)) := va_D.swap (a := [(mk, .inl (K, 41, .inl lk)), (mfd, .inl (K, 9, .inl fd)), (mb, .inl (KC, 60, .inl cf)), ((a 25), .inr (4, [.ref (a 26), .int (nI ty)])), ((a 26), .inl (K, 60, .inl bf)), ((a 27), .inr (1, [.int pk, .int pf, .int ps, .int pn, .int pp, .int pm])), (out, .inl (KL, 1, .inr (.inl og_8)))]) (b := (WW a K KS (setZ en y2 st) (svH hs st) sc)) (c := [(mo, .inr (8, [.ref ms, .int (nI (min ((h_kp hs) + 1) 6)), .ref mb, .int (nI ty), .int 0, .ref mk, .int ml, .ref mfd, .int mf, .int sp, .int on, .int tw])), (ms, .inl (K, 889, .inl sg_13))]) hD
        have hK : va_K D vwCl [(K, .int), (KS, .object "BarcodeWand$State"), (KL, .long), (KC, .char)] s := hK
        have hP : va_P D vwCl ((mk, .inl (K, 41, .inl lk)) :: (mfd, .inl (K, 9, .inl fd)) :: (mb, .inl (KC, 60, .inl cf)) :: ((a 25), .inr (4, [.ref (a 26), .int (nI ty)])) :: ((a 26), .inl (K, 60, .inl bf)) :: ((a 27), .inr (1, [.int pk, .int pf, .int ps, .int pn, .int pp, .int pm])) :: (out, .inl (KL, 1, .inr (.inl og_8))) :: (mo, .inr (8, [.ref ms, .int (nI (min ((h_kp hs) + 1) 6)), .ref mb, .int (nI ty), .int 0, .ref mk, .int ml, .ref mfd, .int mf, .int sp, .int on, .int tw])) :: (ms, .inl (K, 889, .inl sg_13)) :: (WW a K KS (setZ en y2 st) (svH hs st) sc)) H := hP
        have hD : va_D A ((mk, .inl (K, 41, .inl lk)) :: (mfd, .inl (K, 9, .inl fd)) :: (mb, .inl (KC, 60, .inl cf)) :: ((a 25), .inr (4, [.ref (a 26), .int (nI ty)])) :: ((a 26), .inl (K, 60, .inl bf)) :: ((a 27), .inr (1, [.int pk, .int pf, .int ps, .int pn, .int pp, .int pm])) :: (out, .inl (KL, 1, .inr (.inl og_8))) :: (mo, .inr (8, [.ref ms, .int (nI (min ((h_kp hs) + 1) 6)), .ref mb, .int (nI ty), .int 0, .ref mk, .int ml, .ref mfd, .int mf, .int sp, .int on, .int tw])) :: (ms, .inl (K, 889, .inl sg_13)) :: (WW a K KS (setZ en y2 st) (svH hs st) sc)) := hD
        have hw_14 : r_12 = (s_zf st en) ∧ RS (setZ en y2 st) sg_13 ∧ hiEq sg_13 (svM (h_kp hs) sf) := hw_14
        refine lv_istore (lv' := [(6, .int r_12), (5, .int 0), (4, .int (nI i)), (3, .ref out), (2, .ref mo), (1, .ref (a 0)), (0, .ref b)]) hx hb dL_law_283 hl (by decide) rfl (fun ls hl => ?_)
        refine lv_aload_n hx hb dL_law_285 rfl (lv_at hl 4 rfl) ?_
        have ct := k_cut_T (wp := [(mk, .inl (K, 41, .inl lk)), (mfd, .inl (K, 9, .inl fd)), (mb, .inl (KC, 60, .inl cf)), ((a 25), .inr (4, [.ref (a 26), .int (nI ty)])), ((a 26), .inl (K, 60, .inl bf)), ((a 27), .inr (1, [.int pk, .int pf, .int ps, .int pn, .int pp, .int pm])), (out, .inl (KL, 1, .inr (.inl og_8))), (mo, .inr (8, [.ref ms, .int (nI (min ((h_kp hs) + 1) 6)), .ref mb, .int (nI ty), .int 0, .ref mk, .int ml, .ref mfd, .int mf, .int sp, .int on, .int tw])), (ms, .inl (K, 889, .inl sg_13))]) (T := (WW a K KS (setZ en y2 st) (svH hs st) sc)) (wc := [(mo, .inr (8, [.ref ms, .int (nI (min ((h_kp hs) + 1) 6)), .ref mb, .int (nI ty), .int 0, .ref mk, .int ml, .ref mfd, .int mf, .int sp, .int on, .int tw]))]) (wr := [(mk, .inl (K, 41, .inl lk)), (mfd, .inl (K, 9, .inl fd)), (mb, .inl (KC, 60, .inl cf)), ((a 25), .inr (4, [.ref (a 26), .int (nI ty)])), ((a 26), .inl (K, 60, .inl bf)), ((a 27), .inr (1, [.int pk, .int pf, .int ps, .int pn, .int pp, .int pm])), (out, .inl (KL, 1, .inr (.inl og_8))), (ms, .inl (K, 889, .inl sg_13))]) (tc := []) hG hS hA hK hP hD [7] [0, 1, 2, 3, 4, 5, 6, 8] [] rfl rfl (by decide) (by decide) (by decide) rfl
        refine k_endi (As := [.ref mo]) ct (k_runV (As := []) (rest := []) S0 Lv_L_83 rfl (ci := 8) (q0 := 0) rfl rfl ct (c_M_thrown l D mo ms (nI (min ((h_kp hs) + 1) 6)) mb (nI ty) 0 mk ml mfd mf sp on tw H.size) hl.1 rfl (Nat.le_of_ble_eq_true rfl) rfl dL_law_286 ⟨⟨Nat.le_of_ble_eq_true rfl, Nat.le_of_ble_eq_true rfl⟩, (show C9 ≤ 601024 by omega), (show S9 ≤ 7293034 by omega)⟩) rfl rfl (fun r_15 _ H locs hw_16 hP hD hK hS => ?_)
        have hP : va_P D vwCl ((mk, .inl (K, 41, .inl lk)) :: (mfd, .inl (K, 9, .inl fd)) :: (mb, .inl (KC, 60, .inl cf)) :: ((a 25), .inr (4, [.ref (a 26), .int (nI ty)])) :: ((a 26), .inl (K, 60, .inl bf)) :: ((a 27), .inr (1, [.int pk, .int pf, .int ps, .int pn, .int pp, .int pm])) :: (out, .inl (KL, 1, .inr (.inl og_8))) :: (ms, .inl (K, 889, .inl sg_13)) :: (mo, .inr (8, [.ref ms, .int (nI (min ((h_kp hs) + 1) 6)), .ref mb, .int (nI ty), .int 0, .ref mk, .int ml, .ref mfd, .int mf, .int sp, .int on, .int tw])) :: (WW a K KS (setZ en y2 st) (svH hs st) sc)) H := k_swapP (a := [(mk, .inl (K, 41, .inl lk)), (mfd, .inl (K, 9, .inl fd)), (mb, .inl (KC, 60, .inl cf)), ((a 25), .inr (4, [.ref (a 26), .int (nI ty)])), ((a 26), .inl (K, 60, .inl bf)), ((a 27), .inr (1, [.int pk, .int pf, .int ps, .int pn, .int pp, .int pm])), (out, .inl (KL, 1, .inr (.inl og_8))), (ms, .inl (K, 889, .inl sg_13))]) (b := (WW a K KS (setZ en y2 st) (svH hs st) sc)) (c := [(mo, .inr (8, [.ref ms, .int (nI (min ((h_kp hs) + 1) 6)), .ref mb, .int (nI ty), .int 0, .ref mk, .int ml, .ref mfd, .int mf, .int sp, .int on, .int tw]))]) hP
        have hD : va_D A ((mk, .inl (K, 41, .inl lk)) :: (mfd, .inl (K, 9, .inl fd)) :: (mb, .inl (KC, 60, .inl cf)) :: ((a 25), .inr (4, [.ref (a 26), .int (nI ty)])) :: ((a 26), .inl (K, 60, .inl bf)) :: ((a 27), .inr (1, [.int pk, .int pf, .int ps, .int pn, .int pp, .int pm])) :: (out, .inl (KL, 1, .inr (.inl og_8))) :: (ms, .inl (K, 889, .inl sg_13)) :: (mo, .inr (8, [.ref ms, .int (nI (min ((h_kp hs) + 1) 6)), .ref mb, .int (nI ty), .int 0, .ref mk, .int ml, .ref mfd, .int mf, .int sp, .int on, .int tw])) :: (WW a K KS (setZ en y2 st) (svH hs st) sc)) := va_D.swap (a := [(mk, .inl (K, 41, .inl lk)), (mfd, .inl (K, 9, .inl fd)), (mb, .inl (KC, 60, .inl cf)), ((a 25), .inr (4, [.ref (a 26), .int (nI ty)])), ((a 26), .inl (K, 60, .inl bf)), ((a 27), .inr (1, [.int pk, .int pf, .int ps, .int pn, .int pp, .int pm])), (out, .inl (KL, 1, .inr (.inl og_8))), (ms, .inl (K, 889, .inl sg_13))]) (b := (WW a K KS (setZ en y2 st) (svH hs st) sc)) (c := [(mo, .inr (8, [.ref ms, .int (nI (min ((h_kp hs) + 1) 6)), .ref mb, .int (nI ty), .int 0, .ref mk, .int ml, .ref mfd, .int mf, .int sp, .int on, .int tw]))]) hD
        have hK : va_K D vwCl [(K, .int), (KS, .object "BarcodeWand$State"), (KL, .long), (KC, .char)] s := hK
        have hP : va_P D vwCl ((mk, .inl (K, 41, .inl lk)) :: (mfd, .inl (K, 9, .inl fd)) :: (mb, .inl (KC, 60, .inl cf)) :: ((a 25), .inr (4, [.ref (a 26), .int (nI ty)])) :: ((a 26), .inl (K, 60, .inl bf)) :: ((a 27), .inr (1, [.int pk, .int pf, .int ps, .int pn, .int pp, .int pm])) :: (out, .inl (KL, 1, .inr (.inl og_8))) :: (ms, .inl (K, 889, .inl sg_13)) :: (mo, .inr (8, [.ref ms, .int (nI (min ((h_kp hs) + 1) 6)), .ref mb, .int (nI ty), .int 0, .ref mk, .int ml, .ref mfd, .int mf, .int sp, .int on, .int tw])) :: (WW a K KS (setZ en y2 st) (svH hs st) sc)) H := hP
        have hD : va_D A ((mk, .inl (K, 41, .inl lk)) :: (mfd, .inl (K, 9, .inl fd)) :: (mb, .inl (KC, 60, .inl cf)) :: ((a 25), .inr (4, [.ref (a 26), .int (nI ty)])) :: ((a 26), .inl (K, 60, .inl bf)) :: ((a 27), .inr (1, [.int pk, .int pf, .int ps, .int pn, .int pp, .int pm])) :: (out, .inl (KL, 1, .inr (.inl og_8))) :: (ms, .inl (K, 889, .inl sg_13)) :: (mo, .inr (8, [.ref ms, .int (nI (min ((h_kp hs) + 1) 6)), .ref mb, .int (nI ty), .int 0, .ref mk, .int ml, .ref mfd, .int mf, .int sp, .int on, .int tw])) :: (WW a K KS (setZ en y2 st) (svH hs st) sc)) := hD
        have hw_16 : r_15 = 0 := hw_16
        have hw_16 := hw_16.symm
        subst hw_16
        refine k_nrm (y := 0) rfl ?_
        refine lv_iload hx hb dL_law_289 (lv_at hl 1 rfl) ?_
        refine lv_icmp_eq (tgt := 296) hx hb dL_law_291 (by decide) (fun _ => ?_) (fun c9 => absurd (by decide) c9)
        refine lv_iload hx hb dL_law_296 (lv_at hl 1 rfl) ?_
        refine lv_if_ne (tgt := 313) hx hb dL_law_298 (by decide) (fun c9 => absurd (by decide) c9) (fun _ => ?_)
        refine lv_aload_n hx hb dL_law_301 rfl (lv_at hl 3 rfl) ?_
        refine lv_iconst (v := 0) hx hb dL_law_302 (by decide) ?_
        refine va_lald hx hb hK hP 6 2 rfl rfl (by unfold vp_in; decide) dL_law_303 ?_
        refine k_nrml (y := (s_zf st en).toInt64) (show og_8 (0 : Int32).toNatClampNeg = (s_zf st en).toInt64 from c_11) ?_
        refine lv_iload hx hb dL_law_304 (lv_at hl 0 rfl) ?_
        refine lv_i2l (v := r_12.toInt64) hx hb dL_law_306 rfl ?_
        refine W.lcmp hx hb dL_law_307 ?_
        refine k_nrm (y := 0) (lg_same rfl (hw_14.1.symm)) ?_
        refine lv_if_eq (tgt := 313) hx hb dL_law_308 (by decide) (fun _ => ?_) (fun c9 => absurd (by decide) c9)
        refine lv_goto (tgt := 1479) hx hb dL_law_313 (by decide) ?_
        have hf_17 : ((nI (min ((h_kp hs) + 1) 6)) : Int32) = (nI (h_kp (svH hs st))) := by rw [kp_sv]
        have hP : va_P D vwCl ((mk, .inl (K, 41, .inl lk)) :: (mfd, .inl (K, 9, .inl fd)) :: (mb, .inl (KC, 60, .inl cf)) :: ((a 25), .inr (4, [.ref (a 26), .int (nI ty)])) :: ((a 26), .inl (K, 60, .inl bf)) :: ((a 27), .inr (1, [.int pk, .int pf, .int ps, .int pn, .int pp, .int pm])) :: (out, .inl (KL, 1, .inr (.inl og_8))) :: (ms, .inl (K, 889, .inl sg_13)) :: (mo, .inr (8, [.ref ms, .int (nI (h_kp (svH hs st))), .ref mb, .int (nI ty), .int 0, .ref mk, .int ml, .ref mfd, .int mf, .int sp, .int on, .int tw])) :: (WW a K KS (setZ en y2 st) (svH hs st) sc)) H := (congrArg (fun z9 : Int32 => va_P D vwCl ((mk, .inl (K, 41, .inl lk)) :: (mfd, .inl (K, 9, .inl fd)) :: (mb, .inl (KC, 60, .inl cf)) :: ((a 25), .inr (4, [.ref (a 26), .int (nI ty)])) :: ((a 26), .inl (K, 60, .inl bf)) :: ((a 27), .inr (1, [.int pk, .int pf, .int ps, .int pn, .int pp, .int pm])) :: (out, .inl (KL, 1, .inr (.inl og_8))) :: (ms, .inl (K, 889, .inl sg_13)) :: (mo, .inr (8, [.ref ms, .int z9, .ref mb, .int (nI ty), .int 0, .ref mk, .int ml, .ref mfd, .int mf, .int sp, .int on, .int tw])) :: (WW a K KS (setZ en y2 st) (svH hs st) sc)) H) hf_17).mp hP
        have hD : va_D A ((mk, .inl (K, 41, .inl lk)) :: (mfd, .inl (K, 9, .inl fd)) :: (mb, .inl (KC, 60, .inl cf)) :: ((a 25), .inr (4, [.ref (a 26), .int (nI ty)])) :: ((a 26), .inl (K, 60, .inl bf)) :: ((a 27), .inr (1, [.int pk, .int pf, .int ps, .int pn, .int pp, .int pm])) :: (out, .inl (KL, 1, .inr (.inl og_8))) :: (ms, .inl (K, 889, .inl sg_13)) :: (mo, .inr (8, [.ref ms, .int (nI (h_kp (svH hs st))), .ref mb, .int (nI ty), .int 0, .ref mk, .int ml, .ref mfd, .int mf, .int sp, .int on, .int tw])) :: (WW a K KS (setZ en y2 st) (svH hs st) sc)) := (congrArg (fun z9 : Int32 => va_D A ((mk, .inl (K, 41, .inl lk)) :: (mfd, .inl (K, 9, .inl fd)) :: (mb, .inl (KC, 60, .inl cf)) :: ((a 25), .inr (4, [.ref (a 26), .int (nI ty)])) :: ((a 26), .inl (K, 60, .inl bf)) :: ((a 27), .inr (1, [.int pk, .int pf, .int ps, .int pn, .int pp, .int pm])) :: (out, .inl (KL, 1, .inr (.inl og_8))) :: (ms, .inl (K, 889, .inl sg_13)) :: (mo, .inr (8, [.ref ms, .int z9, .ref mb, .int (nI ty), .int 0, .ref mk, .int ml, .ref mfd, .int mf, .int sp, .int on, .int tw])) :: (WW a K KS (setZ en y2 st) (svH hs st) sc))) hf_17).mp hD
        have hP9 : va_P D vwCl ((mo, .inr (8, [.ref ms, .int (nI (h_kp (svH hs st))), .ref mb, .int (nI ty), .int 0, .ref mk, .int ml, .ref mfd, .int mf, .int sp, .int on, .int tw])) :: (ms, .inl (K, 889, .inl sg_13)) :: (mk, .inl (K, 41, .inl lk)) :: (mfd, .inl (K, 9, .inl fd)) :: (mb, .inl (KC, 60, .inl cf)) :: ((a 25), .inr (4, [.ref (a 26), .int (nI ty)])) :: ((a 26), .inl (K, 60, .inl bf)) :: ((a 27), .inr (1, [.int pk, .int pf, .int ps, .int pn, .int pp, .int pm])) :: (out, .inl (KL, 1, .inr (.inl og_8))) :: (WW a K KS (setZ en y2 st) (svH hs st) sc)) H := k_subP (wp := [(mk, .inl (K, 41, .inl lk)), (mfd, .inl (K, 9, .inl fd)), (mb, .inl (KC, 60, .inl cf)), ((a 25), .inr (4, [.ref (a 26), .int (nI ty)])), ((a 26), .inl (K, 60, .inl bf)), ((a 27), .inr (1, [.int pk, .int pf, .int ps, .int pn, .int pp, .int pm])), (out, .inl (KL, 1, .inr (.inl og_8))), (ms, .inl (K, 889, .inl sg_13)), (mo, .inr (8, [.ref ms, .int (nI (h_kp (svH hs st))), .ref mb, .int (nI ty), .int 0, .ref mk, .int ml, .ref mfd, .int mf, .int sp, .int on, .int tw]))]) (wp' := [(mo, .inr (8, [.ref ms, .int (nI (h_kp (svH hs st))), .ref mb, .int (nI ty), .int 0, .ref mk, .int ml, .ref mfd, .int mf, .int sp, .int on, .int tw])), (ms, .inl (K, 889, .inl sg_13)), (mk, .inl (K, 41, .inl lk)), (mfd, .inl (K, 9, .inl fd)), (mb, .inl (KC, 60, .inl cf)), ((a 25), .inr (4, [.ref (a 26), .int (nI ty)])), ((a 26), .inl (K, 60, .inl bf)), ((a 27), .inr (1, [.int pk, .int pf, .int ps, .int pn, .int pp, .int pm])), (out, .inl (KL, 1, .inr (.inl og_8)))]) (T := (WW a K KS (setZ en y2 st) (svH hs st) sc)) hP [8, 7, 0, 1, 2, 3, 4, 5, 6] rfl
        have hD9 : va_D A ((mo, .inr (8, [.ref ms, .int (nI (h_kp (svH hs st))), .ref mb, .int (nI ty), .int 0, .ref mk, .int ml, .ref mfd, .int mf, .int sp, .int on, .int tw])) :: (ms, .inl (K, 889, .inl sg_13)) :: (mk, .inl (K, 41, .inl lk)) :: (mfd, .inl (K, 9, .inl fd)) :: (mb, .inl (KC, 60, .inl cf)) :: ((a 25), .inr (4, [.ref (a 26), .int (nI ty)])) :: ((a 26), .inl (K, 60, .inl bf)) :: ((a 27), .inr (1, [.int pk, .int pf, .int ps, .int pn, .int pp, .int pm])) :: (out, .inl (KL, 1, .inr (.inl og_8))) :: (WW a K KS (setZ en y2 st) (svH hs st) sc)) := k_subD (wp := [(mk, .inl (K, 41, .inl lk)), (mfd, .inl (K, 9, .inl fd)), (mb, .inl (KC, 60, .inl cf)), ((a 25), .inr (4, [.ref (a 26), .int (nI ty)])), ((a 26), .inl (K, 60, .inl bf)), ((a 27), .inr (1, [.int pk, .int pf, .int ps, .int pn, .int pp, .int pm])), (out, .inl (KL, 1, .inr (.inl og_8))), (ms, .inl (K, 889, .inl sg_13)), (mo, .inr (8, [.ref ms, .int (nI (h_kp (svH hs st))), .ref mb, .int (nI ty), .int 0, .ref mk, .int ml, .ref mfd, .int mf, .int sp, .int on, .int tw]))]) (wp' := [(mo, .inr (8, [.ref ms, .int (nI (h_kp (svH hs st))), .ref mb, .int (nI ty), .int 0, .ref mk, .int ml, .ref mfd, .int mf, .int sp, .int on, .int tw])), (ms, .inl (K, 889, .inl sg_13)), (mk, .inl (K, 41, .inl lk)), (mfd, .inl (K, 9, .inl fd)), (mb, .inl (KC, 60, .inl cf)), ((a 25), .inr (4, [.ref (a 26), .int (nI ty)])), ((a 26), .inl (K, 60, .inl bf)), ((a 27), .inr (1, [.int pk, .int pf, .int ps, .int pn, .int pp, .int pm])), (out, .inl (KL, 1, .inr (.inl og_8)))]) (T := (WW a K KS (setZ en y2 st) (svH hs st) sc)) hD [8, 7, 0, 1, 2, 3, 4, 5, 6] (by decide) rfl
        subst hAe
        refine W.widen (k := Cn) (n := Sn) (by omega) (by omega) ?_
        exact next (setZ en y2 st) (svH hs st) sc sg_13 lk fd bf cf og_8 ty 0 ml mf sp on tw pk pf ps pn pp pm H locs ls (law_sv hLW ((setZ_ok hbst hlx).1) ((setZ_ok hbst hlx).2) hw_14.2.1 hw_14.2.2) hBU hP9 hD9 hS (lv_sub hl [2, 3, 4, 5, 6] rfl)
    · skip
      refine lv_aload_n hx hb dL_law_248 rfl (lv_at hl 3 rfl) ?_
      refine lv_aload_n hx hb dL_law_249 rfl (lv_at hl 4 rfl) ?_
      refine lv_iload hx hb dL_law_250 (lv_at hl 0 rfl) ?_
      refine lv_iconst (v := 1) hx hb dL_law_252 (by decide) ?_
      refine lv_iadd hx hb dL_law_253 ?_
      refine k_nrm (y := (nI (i + 1))) (nI_add i 1) ?_
      refine va_sld hx hb hX hbl hbA hS (vp_in_nI (by omega) (by omega)) dL_law_254 ?_
      refine k_nrm (y := (nI en)) ((by rw [nI_clamp (by omega)]; exact hy1.symm)) ?_
      refine lv_aload_n hx hb dL_law_255 rfl (lv_at hl 4 rfl) ?_
      refine lv_iload hx hb dL_law_256 (lv_at hl 0 rfl) ?_
      refine lv_iconst (v := 2) hx hb dL_law_258 (by decide) ?_
      refine lv_iadd hx hb dL_law_259 ?_
      refine k_nrm (y := (nI (i + 2))) (nI_add i 2) ?_
      refine va_sld hx hb hX hbl hbA hS (vp_in_nI (by omega) (by omega)) dL_law_260 ?_
      refine k_nrm (y := y2) ((by rw [nI_clamp (by omega)]; exact hy2.symm)) ?_
      refine lv_aload_n hx hb dL_law_261 rfl (lv_at hl 1 rfl) ?_
      have ct := k_cut_TT (wp := [(mo, .inr (8, [.ref ms, .int (nI (h_kp hs)), .ref mb, .int (nI ty), .int th, .ref mk, .int ml, .ref mfd, .int mf, .int sp, .int on, .int tw])), (ms, .inl (K, 889, .inl sf)), (mk, .inl (K, 41, .inl lk)), (mfd, .inl (K, 9, .inl fd)), (mb, .inl (KC, 60, .inl cf)), ((a 25), .inr (4, [.ref (a 26), .int (nI ty)])), ((a 26), .inl (K, 60, .inl bf)), ((a 27), .inr (1, [.int pk, .int pf, .int ps, .int pn, .int pp, .int pm])), (out, .inl (KL, 1, .inr (.inl ofn)))]) (T := (WW a K KS st hs sc)) (wc := [(out, .inl (KL, 1, .inr (.inl ofn)))]) (wr := [(mo, .inr (8, [.ref ms, .int (nI (h_kp hs)), .ref mb, .int (nI ty), .int th, .ref mk, .int ml, .ref mfd, .int mf, .int sp, .int on, .int tw])), (ms, .inl (K, 889, .inl sf)), (mk, .inl (K, 41, .inl lk)), (mfd, .inl (K, 9, .inl fd)), (mb, .inl (KC, 60, .inl cf)), ((a 25), .inr (4, [.ref (a 26), .int (nI ty)])), ((a 26), .inl (K, 60, .inl bf)), ((a 27), .inr (1, [.int pk, .int pf, .int ps, .int pn, .int pp, .int pm]))]) (tc := [(K, .int), (KS, .object "BarcodeWand$State"), (KL, .long)]) hG hS hA hK hP hD [8] [0, 1, 2, 3, 4, 5, 6, 7] [0, 1, 2] rfl rfl (by decide) (by decide) (by decide) rfl
      refine k_endi (As := [.ref (a 0), .int (nI en), .int y2, .ref out]) ct (k_runSW (As := [.ref (a 0), .int (nI en), .int y2, .ref out]) (rest := []) S0 Ls_L_86 ct (c_L_smudgeX2 l hst D a K KS st hs sc en y2 out KL ofn (by assumption) (by assumption) (by assumption) H.size) hl.1 rfl (Nat.le_of_ble_eq_true rfl) rfl dL_law_262 ⟨⟨Nat.le_of_ble_eq_true rfl, Nat.le_of_ble_eq_true rfl⟩, (show C9 + 1 ≤ 601024 by omega), (show S9 + 6 ≤ 7293034 by omega)⟩) rfl rfl (fun r_18 _ H locs hw_19 hP hD hK hS => ?_)
      have hK : va_K D vwCl [(K, .int), (KS, .object "BarcodeWand$State"), (KL, .long), (KC, .char)] s := hK
      have hP : va_P D vwCl ((mo, .inr (8, [.ref ms, .int (nI (h_kp hs)), .ref mb, .int (nI ty), .int th, .ref mk, .int ml, .ref mfd, .int mf, .int sp, .int on, .int tw])) :: (ms, .inl (K, 889, .inl sf)) :: (mk, .inl (K, 41, .inl lk)) :: (mfd, .inl (K, 9, .inl fd)) :: (mb, .inl (KC, 60, .inl cf)) :: ((a 25), .inr (4, [.ref (a 26), .int (nI ty)])) :: ((a 26), .inl (K, 60, .inl bf)) :: ((a 27), .inr (1, [.int pk, .int pf, .int ps, .int pn, .int pp, .int pm])) :: (out, .inl (KL, 1, .inr (.inl ofn))) :: (WW a K KS st hs sc)) H := hP
      have hD : va_D A ((mo, .inr (8, [.ref ms, .int (nI (h_kp hs)), .ref mb, .int (nI ty), .int th, .ref mk, .int ml, .ref mfd, .int mf, .int sp, .int on, .int tw])) :: (ms, .inl (K, 889, .inl sf)) :: (mk, .inl (K, 41, .inl lk)) :: (mfd, .inl (K, 9, .inl fd)) :: (mb, .inl (KC, 60, .inl cf)) :: ((a 25), .inr (4, [.ref (a 26), .int (nI ty)])) :: ((a 26), .inl (K, 60, .inl bf)) :: ((a 27), .inr (1, [.int pk, .int pf, .int ps, .int pn, .int pp, .int pm])) :: (out, .inl (KL, 1, .inr (.inl ofn))) :: (WW a K KS st hs sc)) := hD
      have hw_19 : r_18 = (2) := hw_19
      have hw_19 := hw_19.symm
      subst hw_19
      refine k_nrm (y := 2) rfl ?_
      refine lv_istore (lv' := [(5, .int 2), (4, .int (nI i)), (3, .ref out), (2, .ref mo), (1, .ref (a 0)), (0, .ref b)]) hx hb dL_law_265 hl (by decide) rfl (fun ls hl => ?_)
      refine lv_aload_n hx hb dL_law_267 rfl (lv_at hl 3 rfl) ?_
      refine lv_aload_n hx hb dL_law_268 rfl (lv_at hl 5 rfl) ?_
      refine lv_iload hx hb dL_law_269 (lv_at hl 1 rfl) ?_
      refine lv_iconst (v := 1) hx hb dL_law_271 (by decide) ?_
      refine lv_iadd hx hb dL_law_272 ?_
      refine k_nrm (y := (nI (i + 1))) (nI_add i 1) ?_
      refine va_sld hx hb hX hbl hbA hS (vp_in_nI (by omega) (by omega)) dL_law_273 ?_
      refine k_nrm (y := (nI en)) ((by rw [nI_clamp (by omega)]; exact hy1.symm)) ?_
      refine lv_aload_n hx hb dL_law_274 rfl (lv_at hl 5 rfl) ?_
      refine lv_iload hx hb dL_law_275 (lv_at hl 1 rfl) ?_
      refine lv_iconst (v := 2) hx hb dL_law_277 (by decide) ?_
      refine lv_iadd hx hb dL_law_278 ?_
      refine k_nrm (y := (nI (i + 2))) (nI_add i 2) ?_
      refine va_sld hx hb hX hbl hbA hS (vp_in_nI (by omega) (by omega)) dL_law_279 ?_
      refine k_nrm (y := y2) ((by rw [nI_clamp (by omega)]; exact hy2.symm)) ?_
      have ct := k_cut_T (wp := [(mo, .inr (8, [.ref ms, .int (nI (h_kp hs)), .ref mb, .int (nI ty), .int th, .ref mk, .int ml, .ref mfd, .int mf, .int sp, .int on, .int tw])), (ms, .inl (K, 889, .inl sf)), (mk, .inl (K, 41, .inl lk)), (mfd, .inl (K, 9, .inl fd)), (mb, .inl (KC, 60, .inl cf)), ((a 25), .inr (4, [.ref (a 26), .int (nI ty)])), ((a 26), .inl (K, 60, .inl bf)), ((a 27), .inr (1, [.int pk, .int pf, .int ps, .int pn, .int pp, .int pm])), (out, .inl (KL, 1, .inr (.inl ofn)))]) (T := (WW a K KS st hs sc)) (wc := [(mo, .inr (8, [.ref ms, .int (nI (h_kp hs)), .ref mb, .int (nI ty), .int th, .ref mk, .int ml, .ref mfd, .int mf, .int sp, .int on, .int tw])), (ms, .inl (K, 889, .inl sf))]) (wr := [(mk, .inl (K, 41, .inl lk)), (mfd, .inl (K, 9, .inl fd)), (mb, .inl (KC, 60, .inl cf)), ((a 25), .inr (4, [.ref (a 26), .int (nI ty)])), ((a 26), .inl (K, 60, .inl bf)), ((a 27), .inr (1, [.int pk, .int pf, .int ps, .int pn, .int pp, .int pm])), (out, .inl (KL, 1, .inr (.inl ofn)))]) (tc := [(K, .int)]) hG hS hA hK hP hD [0, 1] [2, 3, 4, 5, 6, 7, 8] [0] rfl rfl (by decide) (by decide) (by decide) rfl
      refine k_endi (As := [.ref mo, .int (nI en), .int y2]) ct (k_runV (As := [.int (nI en), .int y2]) (rest := []) S0 Lv_L_88 rfl (ci := 8) (q0 := 0) rfl rfl ct (c_M_smudgeX2 l D mo ms (nI (h_kp hs)) mb (nI ty) th mk ml mfd mf sp on tw K sf st en y2 (by assumption) (by assumption) (by assumption) (by assumption) (by assumption) H.size) hl.1 rfl (Nat.le_of_ble_eq_true rfl) rfl dL_law_280 ⟨⟨Nat.le_of_ble_eq_true rfl, Nat.le_of_ble_eq_true rfl⟩, (show C9 + 1 ≤ 601024 by omega), (show S9 + 6 ≤ 7293034 by omega)⟩) rfl rfl (fun r_20 _ H locs hw_21 hP hD hK hS => ?_)
      have hP : va_P D vwCl ((mk, .inl (K, 41, .inl lk)) :: (mfd, .inl (K, 9, .inl fd)) :: (mb, .inl (KC, 60, .inl cf)) :: ((a 25), .inr (4, [.ref (a 26), .int (nI ty)])) :: ((a 26), .inl (K, 60, .inl bf)) :: ((a 27), .inr (1, [.int pk, .int pf, .int ps, .int pn, .int pp, .int pm])) :: (out, .inl (KL, 1, .inr (.inl ofn))) :: (mo, .inr (8, [.ref ms, .int (nI (h_kp hs)), .ref mb, .int (nI ty), .int 2, .ref mk, .int ml, .ref mfd, .int mf, .int sp, .int on, .int tw])) :: (ms, .inl (K, 889, .inl sf)) :: (WW a K KS st hs sc)) H := k_swapP (a := [(mk, .inl (K, 41, .inl lk)), (mfd, .inl (K, 9, .inl fd)), (mb, .inl (KC, 60, .inl cf)), ((a 25), .inr (4, [.ref (a 26), .int (nI ty)])), ((a 26), .inl (K, 60, .inl bf)), ((a 27), .inr (1, [.int pk, .int pf, .int ps, .int pn, .int pp, .int pm])), (out, .inl (KL, 1, .inr (.inl ofn)))]) (b := (WW a K KS st hs sc)) (c := [(mo, .inr (8, [.ref ms, .int (nI (h_kp hs)), .ref mb, .int (nI ty), .int 2, .ref mk, .int ml, .ref mfd, .int mf, .int sp, .int on, .int tw])), (ms, .inl (K, 889, .inl sf))]) hP
      have hD : va_D A ((mk, .inl (K, 41, .inl lk)) :: (mfd, .inl (K, 9, .inl fd)) :: (mb, .inl (KC, 60, .inl cf)) :: ((a 25), .inr (4, [.ref (a 26), .int (nI ty)])) :: ((a 26), .inl (K, 60, .inl bf)) :: ((a 27), .inr (1, [.int pk, .int pf, .int ps, .int pn, .int pp, .int pm])) :: (out, .inl (KL, 1, .inr (.inl ofn))) :: (mo, .inr (8, [.ref ms, .int (nI (h_kp hs)), .ref mb, .int (nI ty), .int 2, .ref mk, .int ml, .ref mfd, .int mf, .int sp, .int on, .int tw])) :: (ms, .inl (K, 889, .inl sf)) :: (WW a K KS st hs sc)) := va_D.swap (a := [(mk, .inl (K, 41, .inl lk)), (mfd, .inl (K, 9, .inl fd)), (mb, .inl (KC, 60, .inl cf)), ((a 25), .inr (4, [.ref (a 26), .int (nI ty)])), ((a 26), .inl (K, 60, .inl bf)), ((a 27), .inr (1, [.int pk, .int pf, .int ps, .int pn, .int pp, .int pm])), (out, .inl (KL, 1, .inr (.inl ofn)))]) (b := (WW a K KS st hs sc)) (c := [(mo, .inr (8, [.ref ms, .int (nI (h_kp hs)), .ref mb, .int (nI ty), .int 2, .ref mk, .int ml, .ref mfd, .int mf, .int sp, .int on, .int tw])), (ms, .inl (K, 889, .inl sf))]) hD
      have hK : va_K D vwCl [(K, .int), (KS, .object "BarcodeWand$State"), (KL, .long), (KC, .char)] s := hK
      have hP : va_P D vwCl ((mk, .inl (K, 41, .inl lk)) :: (mfd, .inl (K, 9, .inl fd)) :: (mb, .inl (KC, 60, .inl cf)) :: ((a 25), .inr (4, [.ref (a 26), .int (nI ty)])) :: ((a 26), .inl (K, 60, .inl bf)) :: ((a 27), .inr (1, [.int pk, .int pf, .int ps, .int pn, .int pp, .int pm])) :: (out, .inl (KL, 1, .inr (.inl ofn))) :: (mo, .inr (8, [.ref ms, .int (nI (h_kp hs)), .ref mb, .int (nI ty), .int 2, .ref mk, .int ml, .ref mfd, .int mf, .int sp, .int on, .int tw])) :: (ms, .inl (K, 889, .inl sf)) :: (WW a K KS st hs sc)) H := hP
      have hD : va_D A ((mk, .inl (K, 41, .inl lk)) :: (mfd, .inl (K, 9, .inl fd)) :: (mb, .inl (KC, 60, .inl cf)) :: ((a 25), .inr (4, [.ref (a 26), .int (nI ty)])) :: ((a 26), .inl (K, 60, .inl bf)) :: ((a 27), .inr (1, [.int pk, .int pf, .int ps, .int pn, .int pp, .int pm])) :: (out, .inl (KL, 1, .inr (.inl ofn))) :: (mo, .inr (8, [.ref ms, .int (nI (h_kp hs)), .ref mb, .int (nI ty), .int 2, .ref mk, .int ml, .ref mfd, .int mf, .int sp, .int on, .int tw])) :: (ms, .inl (K, 889, .inl sf)) :: (WW a K KS st hs sc)) := hD
      have hw_21 : r_20 = (0) := hw_21
      have hw_21 := hw_21.symm
      subst hw_21
      refine k_nrm (y := 0) rfl ?_
      refine lv_istore (lv' := [(6, .int 0), (5, .int 2), (4, .int (nI i)), (3, .ref out), (2, .ref mo), (1, .ref (a 0)), (0, .ref b)]) hx hb dL_law_283 hl (by decide) rfl (fun ls hl => ?_)
      refine lv_aload_n hx hb dL_law_285 rfl (lv_at hl 4 rfl) ?_
      have ct := k_cut_T (wp := [(mk, .inl (K, 41, .inl lk)), (mfd, .inl (K, 9, .inl fd)), (mb, .inl (KC, 60, .inl cf)), ((a 25), .inr (4, [.ref (a 26), .int (nI ty)])), ((a 26), .inl (K, 60, .inl bf)), ((a 27), .inr (1, [.int pk, .int pf, .int ps, .int pn, .int pp, .int pm])), (out, .inl (KL, 1, .inr (.inl ofn))), (mo, .inr (8, [.ref ms, .int (nI (h_kp hs)), .ref mb, .int (nI ty), .int 2, .ref mk, .int ml, .ref mfd, .int mf, .int sp, .int on, .int tw])), (ms, .inl (K, 889, .inl sf))]) (T := (WW a K KS st hs sc)) (wc := [(mo, .inr (8, [.ref ms, .int (nI (h_kp hs)), .ref mb, .int (nI ty), .int 2, .ref mk, .int ml, .ref mfd, .int mf, .int sp, .int on, .int tw]))]) (wr := [(mk, .inl (K, 41, .inl lk)), (mfd, .inl (K, 9, .inl fd)), (mb, .inl (KC, 60, .inl cf)), ((a 25), .inr (4, [.ref (a 26), .int (nI ty)])), ((a 26), .inl (K, 60, .inl bf)), ((a 27), .inr (1, [.int pk, .int pf, .int ps, .int pn, .int pp, .int pm])), (out, .inl (KL, 1, .inr (.inl ofn))), (ms, .inl (K, 889, .inl sf))]) (tc := []) hG hS hA hK hP hD [7] [0, 1, 2, 3, 4, 5, 6, 8] [] rfl rfl (by decide) (by decide) (by decide) rfl
      refine k_endi (As := [.ref mo]) ct (k_runV (As := []) (rest := []) S0 Lv_L_83 rfl (ci := 8) (q0 := 0) rfl rfl ct (c_M_thrown l D mo ms (nI (h_kp hs)) mb (nI ty) 2 mk ml mfd mf sp on tw H.size) hl.1 rfl (Nat.le_of_ble_eq_true rfl) rfl dL_law_286 ⟨⟨Nat.le_of_ble_eq_true rfl, Nat.le_of_ble_eq_true rfl⟩, (show C9 + 1 ≤ 601024 by omega), (show S9 + 6 ≤ 7293034 by omega)⟩) rfl rfl (fun r_22 _ H locs hw_23 hP hD hK hS => ?_)
      have hP : va_P D vwCl ((mk, .inl (K, 41, .inl lk)) :: (mfd, .inl (K, 9, .inl fd)) :: (mb, .inl (KC, 60, .inl cf)) :: ((a 25), .inr (4, [.ref (a 26), .int (nI ty)])) :: ((a 26), .inl (K, 60, .inl bf)) :: ((a 27), .inr (1, [.int pk, .int pf, .int ps, .int pn, .int pp, .int pm])) :: (out, .inl (KL, 1, .inr (.inl ofn))) :: (ms, .inl (K, 889, .inl sf)) :: (mo, .inr (8, [.ref ms, .int (nI (h_kp hs)), .ref mb, .int (nI ty), .int 2, .ref mk, .int ml, .ref mfd, .int mf, .int sp, .int on, .int tw])) :: (WW a K KS st hs sc)) H := k_swapP (a := [(mk, .inl (K, 41, .inl lk)), (mfd, .inl (K, 9, .inl fd)), (mb, .inl (KC, 60, .inl cf)), ((a 25), .inr (4, [.ref (a 26), .int (nI ty)])), ((a 26), .inl (K, 60, .inl bf)), ((a 27), .inr (1, [.int pk, .int pf, .int ps, .int pn, .int pp, .int pm])), (out, .inl (KL, 1, .inr (.inl ofn))), (ms, .inl (K, 889, .inl sf))]) (b := (WW a K KS st hs sc)) (c := [(mo, .inr (8, [.ref ms, .int (nI (h_kp hs)), .ref mb, .int (nI ty), .int 2, .ref mk, .int ml, .ref mfd, .int mf, .int sp, .int on, .int tw]))]) hP
      have hD : va_D A ((mk, .inl (K, 41, .inl lk)) :: (mfd, .inl (K, 9, .inl fd)) :: (mb, .inl (KC, 60, .inl cf)) :: ((a 25), .inr (4, [.ref (a 26), .int (nI ty)])) :: ((a 26), .inl (K, 60, .inl bf)) :: ((a 27), .inr (1, [.int pk, .int pf, .int ps, .int pn, .int pp, .int pm])) :: (out, .inl (KL, 1, .inr (.inl ofn))) :: (ms, .inl (K, 889, .inl sf)) :: (mo, .inr (8, [.ref ms, .int (nI (h_kp hs)), .ref mb, .int (nI ty), .int 2, .ref mk, .int ml, .ref mfd, .int mf, .int sp, .int on, .int tw])) :: (WW a K KS st hs sc)) := va_D.swap (a := [(mk, .inl (K, 41, .inl lk)), (mfd, .inl (K, 9, .inl fd)), (mb, .inl (KC, 60, .inl cf)), ((a 25), .inr (4, [.ref (a 26), .int (nI ty)])), ((a 26), .inl (K, 60, .inl bf)), ((a 27), .inr (1, [.int pk, .int pf, .int ps, .int pn, .int pp, .int pm])), (out, .inl (KL, 1, .inr (.inl ofn))), (ms, .inl (K, 889, .inl sf))]) (b := (WW a K KS st hs sc)) (c := [(mo, .inr (8, [.ref ms, .int (nI (h_kp hs)), .ref mb, .int (nI ty), .int 2, .ref mk, .int ml, .ref mfd, .int mf, .int sp, .int on, .int tw]))]) hD
      have hK : va_K D vwCl [(K, .int), (KS, .object "BarcodeWand$State"), (KL, .long), (KC, .char)] s := hK
      have hP : va_P D vwCl ((mk, .inl (K, 41, .inl lk)) :: (mfd, .inl (K, 9, .inl fd)) :: (mb, .inl (KC, 60, .inl cf)) :: ((a 25), .inr (4, [.ref (a 26), .int (nI ty)])) :: ((a 26), .inl (K, 60, .inl bf)) :: ((a 27), .inr (1, [.int pk, .int pf, .int ps, .int pn, .int pp, .int pm])) :: (out, .inl (KL, 1, .inr (.inl ofn))) :: (ms, .inl (K, 889, .inl sf)) :: (mo, .inr (8, [.ref ms, .int (nI (h_kp hs)), .ref mb, .int (nI ty), .int 2, .ref mk, .int ml, .ref mfd, .int mf, .int sp, .int on, .int tw])) :: (WW a K KS st hs sc)) H := hP
      have hD : va_D A ((mk, .inl (K, 41, .inl lk)) :: (mfd, .inl (K, 9, .inl fd)) :: (mb, .inl (KC, 60, .inl cf)) :: ((a 25), .inr (4, [.ref (a 26), .int (nI ty)])) :: ((a 26), .inl (K, 60, .inl bf)) :: ((a 27), .inr (1, [.int pk, .int pf, .int ps, .int pn, .int pp, .int pm])) :: (out, .inl (KL, 1, .inr (.inl ofn))) :: (ms, .inl (K, 889, .inl sf)) :: (mo, .inr (8, [.ref ms, .int (nI (h_kp hs)), .ref mb, .int (nI ty), .int 2, .ref mk, .int ml, .ref mfd, .int mf, .int sp, .int on, .int tw])) :: (WW a K KS st hs sc)) := hD
      have hw_23 : r_22 = 2 := hw_23
      have hw_23 := hw_23.symm
      subst hw_23
      refine k_nrm (y := 2) rfl ?_
      refine lv_iload hx hb dL_law_289 (lv_at hl 1 rfl) ?_
      refine lv_icmp_eq (tgt := 296) hx hb dL_law_291 (by decide) (fun _ => ?_) (fun c9 => absurd (by decide) c9)
      refine lv_iload hx hb dL_law_296 (lv_at hl 1 rfl) ?_
      refine lv_if_ne (tgt := 313) hx hb dL_law_298 (by decide) (fun _ => ?_) (fun c9 => absurd c9 (by decide))
      refine lv_goto (tgt := 1479) hx hb dL_law_313 (by decide) ?_
      have hP9 : va_P D vwCl ((mo, .inr (8, [.ref ms, .int (nI (h_kp hs)), .ref mb, .int (nI ty), .int 2, .ref mk, .int ml, .ref mfd, .int mf, .int sp, .int on, .int tw])) :: (ms, .inl (K, 889, .inl sf)) :: (mk, .inl (K, 41, .inl lk)) :: (mfd, .inl (K, 9, .inl fd)) :: (mb, .inl (KC, 60, .inl cf)) :: ((a 25), .inr (4, [.ref (a 26), .int (nI ty)])) :: ((a 26), .inl (K, 60, .inl bf)) :: ((a 27), .inr (1, [.int pk, .int pf, .int ps, .int pn, .int pp, .int pm])) :: (out, .inl (KL, 1, .inr (.inl ofn))) :: (WW a K KS st hs sc)) H := k_subP (wp := [(mk, .inl (K, 41, .inl lk)), (mfd, .inl (K, 9, .inl fd)), (mb, .inl (KC, 60, .inl cf)), ((a 25), .inr (4, [.ref (a 26), .int (nI ty)])), ((a 26), .inl (K, 60, .inl bf)), ((a 27), .inr (1, [.int pk, .int pf, .int ps, .int pn, .int pp, .int pm])), (out, .inl (KL, 1, .inr (.inl ofn))), (ms, .inl (K, 889, .inl sf)), (mo, .inr (8, [.ref ms, .int (nI (h_kp hs)), .ref mb, .int (nI ty), .int 2, .ref mk, .int ml, .ref mfd, .int mf, .int sp, .int on, .int tw]))]) (wp' := [(mo, .inr (8, [.ref ms, .int (nI (h_kp hs)), .ref mb, .int (nI ty), .int 2, .ref mk, .int ml, .ref mfd, .int mf, .int sp, .int on, .int tw])), (ms, .inl (K, 889, .inl sf)), (mk, .inl (K, 41, .inl lk)), (mfd, .inl (K, 9, .inl fd)), (mb, .inl (KC, 60, .inl cf)), ((a 25), .inr (4, [.ref (a 26), .int (nI ty)])), ((a 26), .inl (K, 60, .inl bf)), ((a 27), .inr (1, [.int pk, .int pf, .int ps, .int pn, .int pp, .int pm])), (out, .inl (KL, 1, .inr (.inl ofn)))]) (T := (WW a K KS st hs sc)) hP [8, 7, 0, 1, 2, 3, 4, 5, 6] rfl
      have hD9 : va_D A ((mo, .inr (8, [.ref ms, .int (nI (h_kp hs)), .ref mb, .int (nI ty), .int 2, .ref mk, .int ml, .ref mfd, .int mf, .int sp, .int on, .int tw])) :: (ms, .inl (K, 889, .inl sf)) :: (mk, .inl (K, 41, .inl lk)) :: (mfd, .inl (K, 9, .inl fd)) :: (mb, .inl (KC, 60, .inl cf)) :: ((a 25), .inr (4, [.ref (a 26), .int (nI ty)])) :: ((a 26), .inl (K, 60, .inl bf)) :: ((a 27), .inr (1, [.int pk, .int pf, .int ps, .int pn, .int pp, .int pm])) :: (out, .inl (KL, 1, .inr (.inl ofn))) :: (WW a K KS st hs sc)) := k_subD (wp := [(mk, .inl (K, 41, .inl lk)), (mfd, .inl (K, 9, .inl fd)), (mb, .inl (KC, 60, .inl cf)), ((a 25), .inr (4, [.ref (a 26), .int (nI ty)])), ((a 26), .inl (K, 60, .inl bf)), ((a 27), .inr (1, [.int pk, .int pf, .int ps, .int pn, .int pp, .int pm])), (out, .inl (KL, 1, .inr (.inl ofn))), (ms, .inl (K, 889, .inl sf)), (mo, .inr (8, [.ref ms, .int (nI (h_kp hs)), .ref mb, .int (nI ty), .int 2, .ref mk, .int ml, .ref mfd, .int mf, .int sp, .int on, .int tw]))]) (wp' := [(mo, .inr (8, [.ref ms, .int (nI (h_kp hs)), .ref mb, .int (nI ty), .int 2, .ref mk, .int ml, .ref mfd, .int mf, .int sp, .int on, .int tw])), (ms, .inl (K, 889, .inl sf)), (mk, .inl (K, 41, .inl lk)), (mfd, .inl (K, 9, .inl fd)), (mb, .inl (KC, 60, .inl cf)), ((a 25), .inr (4, [.ref (a 26), .int (nI ty)])), ((a 26), .inl (K, 60, .inl bf)), ((a 27), .inr (1, [.int pk, .int pf, .int ps, .int pn, .int pp, .int pm])), (out, .inl (KL, 1, .inr (.inl ofn)))]) (T := (WW a K KS st hs sc)) hD [8, 7, 0, 1, 2, 3, 4, 5, 6] (by decide) rfl
      subst hAe
      refine W.widen (k := Cn) (n := Sn) (by omega) (by omega) ?_
      exact next st hs sc sf lk fd bf cf ofn ty 2 ml mf sp on tw pk pf ps pn pp pm H locs ls hLW hBU hP9 hD9 hS (lv_sub hl [2, 3, 4, 5, 6] rfl)
set_option maxHeartbeats 8000000 in
set_option maxRecDepth 100000 in
theorem law_c2 {p : Program} {l : Launch} {e : Env} {s : State} {m : MethodId} {below : List Frame} {meth : Method} {c : Code} {b L : Nat} {xs : Nat → Int32} (hst : l.stackTraces = false) (D : va_G) (C0 : lw_At p s m meth c b L xs) (hG : k_G (fun q : Nat => s.heap.size ≤ q) s s.heap) {a : Nat → Nat} {K KS KL KC : ClassId} {mo ms mk mfd mb out : Nat} (hK : va_K D vwCl [(K, .int), (KS, .object "BarcodeWand$State"), (KL, .long), (KC, .char)] s) (hL : L ≤ 2048) {i : Nat} (hiL : i + 4 ≤ L) {C9 S9 Cn Sn : Nat} (hC9 : C9 + 1 ≤ Cn) (hS9 : S9 + 6 ≤ Sn) (hCn : Cn ≤ 601024) (hSn : Sn ≤ 7293034) (next : ∀ (st : ST) (hs : HT) (sc : SCT) (sf lk fd bf cf : Nat → Int32) (ofn : Nat → Int64) (ty : Nat) (th ml mf sp on tw pk pf ps pn pp pm : Int32) (H : Heap) (locs : List Loc) (ls : Array Slot), LAW st hs sf → BUR ty bf cf pm → va_P D vwCl ((mo, .inr (8, [.ref ms, .int (nI (h_kp hs)), .ref mb, .int (nI ty), .int th, .ref mk, .int ml, .ref mfd, .int mf, .int sp, .int on, .int tw])) :: (ms, .inl (K, 889, .inl sf)) :: (mk, .inl (K, 41, .inl lk)) :: (mfd, .inl (K, 9, .inl fd)) :: (mb, .inl (KC, 60, .inl cf)) :: ((a 25), .inr (4, [.ref (a 26), .int (nI ty)])) :: ((a 26), .inl (K, 60, .inl bf)) :: ((a 27), .inr (1, [.int pk, .int pf, .int ps, .int pn, .int pp, .int pm])) :: (out, .inl (KL, 1, .inr (.inl ofn))) :: (WW a K KS st hs sc)) H → va_D (fun q : Nat => s.heap.size ≤ q) ((mo, .inr (8, [.ref ms, .int (nI (h_kp hs)), .ref mb, .int (nI ty), .int th, .ref mk, .int ml, .ref mfd, .int mf, .int sp, .int on, .int tw])) :: (ms, .inl (K, 889, .inl sf)) :: (mk, .inl (K, 41, .inl lk)) :: (mfd, .inl (K, 9, .inl fd)) :: (mb, .inl (KC, 60, .inl cf)) :: ((a 25), .inr (4, [.ref (a 26), .int (nI ty)])) :: ((a 26), .inl (K, 60, .inl bf)) :: ((a 27), .inr (1, [.int pk, .int pf, .int ps, .int pn, .int pp, .int pm])) :: (out, .inl (KL, 1, .inr (.inl ofn))) :: (WW a K KS st hs sc)) → va_S (fun q : Nat => s.heap.size ≤ q) s.heap H locs → lv_has ls 7 [(4, .int (nI i)), (3, .ref out), (2, .ref mo), (1, .ref (a 0)), (0, .ref b)] → W p l e room_1 s m #[Value.ref b] below meth c H locs Cn Sn (lw_Z below #[Value.ref b] s) (F0 m 1479 ls [])) (st : ST) (hs : HT) (sc : SCT) (sf lk fd bf cf : Nat → Int32) (ofn : Nat → Int64) (ty : Nat) (th ml mf sp on tw pk pf ps pn pp pm : Int32) {H : Heap} {locs : List Loc} {ls : Array Slot} (hLW : LAW st hs sf) (hBU : BUR ty bf cf pm) (hP : va_P D vwCl ((mo, .inr (8, [.ref ms, .int (nI (h_kp hs)), .ref mb, .int (nI ty), .int th, .ref mk, .int ml, .ref mfd, .int mf, .int sp, .int on, .int tw])) :: (ms, .inl (K, 889, .inl sf)) :: (mk, .inl (K, 41, .inl lk)) :: (mfd, .inl (K, 9, .inl fd)) :: (mb, .inl (KC, 60, .inl cf)) :: ((a 25), .inr (4, [.ref (a 26), .int (nI ty)])) :: ((a 26), .inl (K, 60, .inl bf)) :: ((a 27), .inr (1, [.int pk, .int pf, .int ps, .int pn, .int pp, .int pm])) :: (out, .inl (KL, 1, .inr (.inl ofn))) :: (WW a K KS st hs sc)) H) (hD : va_D (fun q : Nat => s.heap.size ≤ q) ((mo, .inr (8, [.ref ms, .int (nI (h_kp hs)), .ref mb, .int (nI ty), .int th, .ref mk, .int ml, .ref mfd, .int mf, .int sp, .int on, .int tw])) :: (ms, .inl (K, 889, .inl sf)) :: (mk, .inl (K, 41, .inl lk)) :: (mfd, .inl (K, 9, .inl fd)) :: (mb, .inl (KC, 60, .inl cf)) :: ((a 25), .inr (4, [.ref (a 26), .int (nI ty)])) :: ((a 26), .inl (K, 60, .inl bf)) :: ((a 27), .inr (1, [.int pk, .int pf, .int ps, .int pn, .int pp, .int pm])) :: (out, .inl (KL, 1, .inr (.inl ofn))) :: (WW a K KS st hs sc))) (hS : va_S (fun q : Nat => s.heap.size ≤ q) s.heap H locs) (hl : lv_has ls 7 [(4, .int (nI i)), (3, .ref out), (2, .ref mo), (1, .ref (a 0)), (0, .ref b)]) : W p l e room_1 s m #[Value.ref b] below meth c H locs C9 S9 (lw_Z below #[Value.ref b] s) (F0 m 316 ls []) := by
  have C1 := C0
  obtain ⟨hx, hb, hr, hml, hown, hts, hX, hbl, hlocks, hgv⟩ := C1
  have hown : s.vm.findClass RL = some m.cls := hown
  have ht : ∀ v9 ∈ wsA, v9.before #[Value.ref b] s = true := fun v9 h9 => hts v9 (wsA_tbl h9)
  have S0 : k_C p s m #[Value.ref b] c cL_law 7 RL := ⟨hx, hb, hml, hown, ht⟩
  have hbA : ¬ (fun q : Nat => s.heap.size ≤ q) b := Nat.not_le.mpr hbl
  have hA : ∀ q : Nat, s.heap.size ≤ q → (fun q : Nat => s.heap.size ≤ q) q := fun _ h9 => h9
  have hLW9 := hLW
  obtain ⟨hbst, hlx, hh, hoL, hR, hHR⟩ := hLW9
  have hkp := kp_6 hh
  have hBU9 := hBU
  obtain ⟨hty, hcf, hm⟩ := hBU9
  obtain ⟨hb1, hb2, hb3, hb4⟩ := bST_le hbst
  obtain ⟨y1, hy1⟩ : ∃ z9 : Int32, z9 = xs (i + 1) := ⟨_, rfl⟩
  obtain ⟨y2, hy2⟩ : ∃ z9 : Int32, z9 = xs (i + 2) := ⟨_, rfl⟩
  obtain ⟨y3, hy3⟩ : ∃ z9 : Int32, z9 = xs (i + 3) := ⟨_, rfl⟩
  generalize hAe : (fun q : Nat => s.heap.size ≤ q) = A at hG hD hS hA hbA
  refine lv_aload_n hx hb dL_law_316 rfl (lv_at hl 3 rfl) ?_
  have ct := k_cut_TT (wp := [(mo, .inr (8, [.ref ms, .int (nI (h_kp hs)), .ref mb, .int (nI ty), .int th, .ref mk, .int ml, .ref mfd, .int mf, .int sp, .int on, .int tw])), (ms, .inl (K, 889, .inl sf)), (mk, .inl (K, 41, .inl lk)), (mfd, .inl (K, 9, .inl fd)), (mb, .inl (KC, 60, .inl cf)), ((a 25), .inr (4, [.ref (a 26), .int (nI ty)])), ((a 26), .inl (K, 60, .inl bf)), ((a 27), .inr (1, [.int pk, .int pf, .int ps, .int pn, .int pp, .int pm])), (out, .inl (KL, 1, .inr (.inl ofn)))]) (T := (WW a K KS st hs sc)) (wc := []) (wr := [(mo, .inr (8, [.ref ms, .int (nI (h_kp hs)), .ref mb, .int (nI ty), .int th, .ref mk, .int ml, .ref mfd, .int mf, .int sp, .int on, .int tw])), (ms, .inl (K, 889, .inl sf)), (mk, .inl (K, 41, .inl lk)), (mfd, .inl (K, 9, .inl fd)), (mb, .inl (KC, 60, .inl cf)), ((a 25), .inr (4, [.ref (a 26), .int (nI ty)])), ((a 26), .inl (K, 60, .inl bf)), ((a 27), .inr (1, [.int pk, .int pf, .int ps, .int pn, .int pp, .int pm])), (out, .inl (KL, 1, .inr (.inl ofn)))]) (tc := [(K, .int), (KS, .object "BarcodeWand$State")]) hG hS hA hK hP hD [] [0, 1, 2, 3, 4, 5, 6, 7, 8] [0, 1] rfl rfl (by decide) (by decide) (by decide) rfl
  refine k_endi (As := [.ref (a 0)]) ct (k_runV (As := []) (rest := []) S0 Lv_L_89 rfl (ci := 7) (q0 := 0) rfl (WW_0 a K KS st hs sc) ct (c_B_elements l D a K KS st hs sc H.size) hl.1 rfl (Nat.le_of_ble_eq_true rfl) rfl dL_law_317 ⟨⟨Nat.le_of_ble_eq_true rfl, Nat.le_of_ble_eq_true rfl⟩, (show C9 ≤ 601024 by omega), (show S9 ≤ 7293034 by omega)⟩) rfl rfl (fun r_1 _ H locs hw_2 hP hD hK hS => ?_)
  have hK : va_K D vwCl [(K, .int), (KS, .object "BarcodeWand$State"), (KL, .long), (KC, .char)] s := hK
  have hP : va_P D vwCl ((mo, .inr (8, [.ref ms, .int (nI (h_kp hs)), .ref mb, .int (nI ty), .int th, .ref mk, .int ml, .ref mfd, .int mf, .int sp, .int on, .int tw])) :: (ms, .inl (K, 889, .inl sf)) :: (mk, .inl (K, 41, .inl lk)) :: (mfd, .inl (K, 9, .inl fd)) :: (mb, .inl (KC, 60, .inl cf)) :: ((a 25), .inr (4, [.ref (a 26), .int (nI ty)])) :: ((a 26), .inl (K, 60, .inl bf)) :: ((a 27), .inr (1, [.int pk, .int pf, .int ps, .int pn, .int pp, .int pm])) :: (out, .inl (KL, 1, .inr (.inl ofn))) :: (WW a K KS st hs sc)) H := hP
  have hD : va_D A ((mo, .inr (8, [.ref ms, .int (nI (h_kp hs)), .ref mb, .int (nI ty), .int th, .ref mk, .int ml, .ref mfd, .int mf, .int sp, .int on, .int tw])) :: (ms, .inl (K, 889, .inl sf)) :: (mk, .inl (K, 41, .inl lk)) :: (mfd, .inl (K, 9, .inl fd)) :: (mb, .inl (KC, 60, .inl cf)) :: ((a 25), .inr (4, [.ref (a 26), .int (nI ty)])) :: ((a 26), .inl (K, 60, .inl bf)) :: ((a 27), .inr (1, [.int pk, .int pf, .int ps, .int pn, .int pp, .int pm])) :: (out, .inl (KL, 1, .inr (.inl ofn))) :: (WW a K KS st hs sc)) := hD
  have hw_2 : r_1 = (nI (s_ns st)) := hw_2
  have hw_2 := hw_2.symm
  subst hw_2
  refine k_nrm (y := (nI (s_ns st))) rfl ?_
  refine lv_aload_n hx hb dL_law_320 rfl (lv_at hl 2 rfl) ?_
  have ct := k_cut_T (wp := [(mo, .inr (8, [.ref ms, .int (nI (h_kp hs)), .ref mb, .int (nI ty), .int th, .ref mk, .int ml, .ref mfd, .int mf, .int sp, .int on, .int tw])), (ms, .inl (K, 889, .inl sf)), (mk, .inl (K, 41, .inl lk)), (mfd, .inl (K, 9, .inl fd)), (mb, .inl (KC, 60, .inl cf)), ((a 25), .inr (4, [.ref (a 26), .int (nI ty)])), ((a 26), .inl (K, 60, .inl bf)), ((a 27), .inr (1, [.int pk, .int pf, .int ps, .int pn, .int pp, .int pm])), (out, .inl (KL, 1, .inr (.inl ofn)))]) (T := (WW a K KS st hs sc)) (wc := [(mo, .inr (8, [.ref ms, .int (nI (h_kp hs)), .ref mb, .int (nI ty), .int th, .ref mk, .int ml, .ref mfd, .int mf, .int sp, .int on, .int tw])), (ms, .inl (K, 889, .inl sf))]) (wr := [(mk, .inl (K, 41, .inl lk)), (mfd, .inl (K, 9, .inl fd)), (mb, .inl (KC, 60, .inl cf)), ((a 25), .inr (4, [.ref (a 26), .int (nI ty)])), ((a 26), .inl (K, 60, .inl bf)), ((a 27), .inr (1, [.int pk, .int pf, .int ps, .int pn, .int pp, .int pm])), (out, .inl (KL, 1, .inr (.inl ofn)))]) (tc := [(K, .int)]) hG hS hA hK hP hD [0, 1] [2, 3, 4, 5, 6, 7, 8] [0] rfl rfl (by decide) (by decide) (by decide) rfl
  refine k_endi (As := [.ref mo]) ct (k_runV (As := []) (rest := [.int (nI (s_ns st))]) S0 Lv_L_92 rfl (ci := 8) (q0 := 0) rfl rfl ct (c_M_elements l D mo ms (nI (h_kp hs)) mb (nI ty) th mk ml mfd mf sp on tw K sf st (by assumption) (by assumption) (by assumption) H.size) hl.1 rfl (Nat.le_of_ble_eq_true rfl) rfl dL_law_321 ⟨⟨Nat.le_of_ble_eq_true rfl, Nat.le_of_ble_eq_true rfl⟩, (show C9 ≤ 601024 by omega), (show S9 ≤ 7293034 by omega)⟩) rfl rfl (fun r_3 _ H locs hw_4 hP hD hK hS => ?_)
  have hP : va_P D vwCl ((mk, .inl (K, 41, .inl lk)) :: (mfd, .inl (K, 9, .inl fd)) :: (mb, .inl (KC, 60, .inl cf)) :: ((a 25), .inr (4, [.ref (a 26), .int (nI ty)])) :: ((a 26), .inl (K, 60, .inl bf)) :: ((a 27), .inr (1, [.int pk, .int pf, .int ps, .int pn, .int pp, .int pm])) :: (out, .inl (KL, 1, .inr (.inl ofn))) :: (mo, .inr (8, [.ref ms, .int (nI (h_kp hs)), .ref mb, .int (nI ty), .int 0, .ref mk, .int ml, .ref mfd, .int mf, .int sp, .int on, .int tw])) :: (ms, .inl (K, 889, .inl sf)) :: (WW a K KS st hs sc)) H := k_swapP (a := [(mk, .inl (K, 41, .inl lk)), (mfd, .inl (K, 9, .inl fd)), (mb, .inl (KC, 60, .inl cf)), ((a 25), .inr (4, [.ref (a 26), .int (nI ty)])), ((a 26), .inl (K, 60, .inl bf)), ((a 27), .inr (1, [.int pk, .int pf, .int ps, .int pn, .int pp, .int pm])), (out, .inl (KL, 1, .inr (.inl ofn)))]) (b := (WW a K KS st hs sc)) (c := [(mo, .inr (8, [.ref ms, .int (nI (h_kp hs)), .ref mb, .int (nI ty), .int 0, .ref mk, .int ml, .ref mfd, .int mf, .int sp, .int on, .int tw])), (ms, .inl (K, 889, .inl sf))]) hP
  have hD : va_D A ((mk, .inl (K, 41, .inl lk)) :: (mfd, .inl (K, 9, .inl fd)) :: (mb, .inl (KC, 60, .inl cf)) :: ((a 25), .inr (4, [.ref (a 26), .int (nI ty)])) :: ((a 26), .inl (K, 60, .inl bf)) :: ((a 27), .inr (1, [.int pk, .int pf, .int ps, .int pn, .int pp, .int pm])) :: (out, .inl (KL, 1, .inr (.inl ofn))) :: (mo, .inr (8, [.ref ms, .int (nI (h_kp hs)), .ref mb, .int (nI ty), .int 0, .ref mk, .int ml, .ref mfd, .int mf, .int sp, .int on, .int tw])) :: (ms, .inl (K, 889, .inl sf)) :: (WW a K KS st hs sc)) := va_D.swap (a := [(mk, .inl (K, 41, .inl lk)), (mfd, .inl (K, 9, .inl fd)), (mb, .inl (KC, 60, .inl cf)), ((a 25), .inr (4, [.ref (a 26), .int (nI ty)])), ((a 26), .inl (K, 60, .inl bf)), ((a 27), .inr (1, [.int pk, .int pf, .int ps, .int pn, .int pp, .int pm])), (out, .inl (KL, 1, .inr (.inl ofn)))]) (b := (WW a K KS st hs sc)) (c := [(mo, .inr (8, [.ref ms, .int (nI (h_kp hs)), .ref mb, .int (nI ty), .int 0, .ref mk, .int ml, .ref mfd, .int mf, .int sp, .int on, .int tw])), (ms, .inl (K, 889, .inl sf))]) hD
  have hK : va_K D vwCl [(K, .int), (KS, .object "BarcodeWand$State"), (KL, .long), (KC, .char)] s := hK
  have hP : va_P D vwCl ((mk, .inl (K, 41, .inl lk)) :: (mfd, .inl (K, 9, .inl fd)) :: (mb, .inl (KC, 60, .inl cf)) :: ((a 25), .inr (4, [.ref (a 26), .int (nI ty)])) :: ((a 26), .inl (K, 60, .inl bf)) :: ((a 27), .inr (1, [.int pk, .int pf, .int ps, .int pn, .int pp, .int pm])) :: (out, .inl (KL, 1, .inr (.inl ofn))) :: (mo, .inr (8, [.ref ms, .int (nI (h_kp hs)), .ref mb, .int (nI ty), .int 0, .ref mk, .int ml, .ref mfd, .int mf, .int sp, .int on, .int tw])) :: (ms, .inl (K, 889, .inl sf)) :: (WW a K KS st hs sc)) H := hP
  have hD : va_D A ((mk, .inl (K, 41, .inl lk)) :: (mfd, .inl (K, 9, .inl fd)) :: (mb, .inl (KC, 60, .inl cf)) :: ((a 25), .inr (4, [.ref (a 26), .int (nI ty)])) :: ((a 26), .inl (K, 60, .inl bf)) :: ((a 27), .inr (1, [.int pk, .int pf, .int ps, .int pn, .int pp, .int pm])) :: (out, .inl (KL, 1, .inr (.inl ofn))) :: (mo, .inr (8, [.ref ms, .int (nI (h_kp hs)), .ref mb, .int (nI ty), .int 0, .ref mk, .int ml, .ref mfd, .int mf, .int sp, .int on, .int tw])) :: (ms, .inl (K, 889, .inl sf)) :: (WW a K KS st hs sc)) := hD
  have hw_4 : r_3 = (nI (s_ns st)) := hw_4
  have hw_4 := hw_4.symm
  subst hw_4
  refine k_nrm (y := (nI (s_ns st))) rfl ?_
  refine lv_icmp_eq (tgt := 1479) hx hb dL_law_324 (by decide) (fun c_5 => ?_) (fun c9 => absurd ((Eq.refl _).trans (Eq.refl _).symm) c9)
  have hP9 : va_P D vwCl ((mo, .inr (8, [.ref ms, .int (nI (h_kp hs)), .ref mb, .int (nI ty), .int 0, .ref mk, .int ml, .ref mfd, .int mf, .int sp, .int on, .int tw])) :: (ms, .inl (K, 889, .inl sf)) :: (mk, .inl (K, 41, .inl lk)) :: (mfd, .inl (K, 9, .inl fd)) :: (mb, .inl (KC, 60, .inl cf)) :: ((a 25), .inr (4, [.ref (a 26), .int (nI ty)])) :: ((a 26), .inl (K, 60, .inl bf)) :: ((a 27), .inr (1, [.int pk, .int pf, .int ps, .int pn, .int pp, .int pm])) :: (out, .inl (KL, 1, .inr (.inl ofn))) :: (WW a K KS st hs sc)) H := k_subP (wp := [(mk, .inl (K, 41, .inl lk)), (mfd, .inl (K, 9, .inl fd)), (mb, .inl (KC, 60, .inl cf)), ((a 25), .inr (4, [.ref (a 26), .int (nI ty)])), ((a 26), .inl (K, 60, .inl bf)), ((a 27), .inr (1, [.int pk, .int pf, .int ps, .int pn, .int pp, .int pm])), (out, .inl (KL, 1, .inr (.inl ofn))), (mo, .inr (8, [.ref ms, .int (nI (h_kp hs)), .ref mb, .int (nI ty), .int 0, .ref mk, .int ml, .ref mfd, .int mf, .int sp, .int on, .int tw])), (ms, .inl (K, 889, .inl sf))]) (wp' := [(mo, .inr (8, [.ref ms, .int (nI (h_kp hs)), .ref mb, .int (nI ty), .int 0, .ref mk, .int ml, .ref mfd, .int mf, .int sp, .int on, .int tw])), (ms, .inl (K, 889, .inl sf)), (mk, .inl (K, 41, .inl lk)), (mfd, .inl (K, 9, .inl fd)), (mb, .inl (KC, 60, .inl cf)), ((a 25), .inr (4, [.ref (a 26), .int (nI ty)])), ((a 26), .inl (K, 60, .inl bf)), ((a 27), .inr (1, [.int pk, .int pf, .int ps, .int pn, .int pp, .int pm])), (out, .inl (KL, 1, .inr (.inl ofn)))]) (T := (WW a K KS st hs sc)) hP [7, 8, 0, 1, 2, 3, 4, 5, 6] rfl
  have hD9 : va_D A ((mo, .inr (8, [.ref ms, .int (nI (h_kp hs)), .ref mb, .int (nI ty), .int 0, .ref mk, .int ml, .ref mfd, .int mf, .int sp, .int on, .int tw])) :: (ms, .inl (K, 889, .inl sf)) :: (mk, .inl (K, 41, .inl lk)) :: (mfd, .inl (K, 9, .inl fd)) :: (mb, .inl (KC, 60, .inl cf)) :: ((a 25), .inr (4, [.ref (a 26), .int (nI ty)])) :: ((a 26), .inl (K, 60, .inl bf)) :: ((a 27), .inr (1, [.int pk, .int pf, .int ps, .int pn, .int pp, .int pm])) :: (out, .inl (KL, 1, .inr (.inl ofn))) :: (WW a K KS st hs sc)) := k_subD (wp := [(mk, .inl (K, 41, .inl lk)), (mfd, .inl (K, 9, .inl fd)), (mb, .inl (KC, 60, .inl cf)), ((a 25), .inr (4, [.ref (a 26), .int (nI ty)])), ((a 26), .inl (K, 60, .inl bf)), ((a 27), .inr (1, [.int pk, .int pf, .int ps, .int pn, .int pp, .int pm])), (out, .inl (KL, 1, .inr (.inl ofn))), (mo, .inr (8, [.ref ms, .int (nI (h_kp hs)), .ref mb, .int (nI ty), .int 0, .ref mk, .int ml, .ref mfd, .int mf, .int sp, .int on, .int tw])), (ms, .inl (K, 889, .inl sf))]) (wp' := [(mo, .inr (8, [.ref ms, .int (nI (h_kp hs)), .ref mb, .int (nI ty), .int 0, .ref mk, .int ml, .ref mfd, .int mf, .int sp, .int on, .int tw])), (ms, .inl (K, 889, .inl sf)), (mk, .inl (K, 41, .inl lk)), (mfd, .inl (K, 9, .inl fd)), (mb, .inl (KC, 60, .inl cf)), ((a 25), .inr (4, [.ref (a 26), .int (nI ty)])), ((a 26), .inl (K, 60, .inl bf)), ((a 27), .inr (1, [.int pk, .int pf, .int ps, .int pn, .int pp, .int pm])), (out, .inl (KL, 1, .inr (.inl ofn)))]) (T := (WW a K KS st hs sc)) hD [7, 8, 0, 1, 2, 3, 4, 5, 6] (by decide) rfl
  subst hAe
  refine W.widen (k := Cn) (n := Sn) (by omega) (by omega) ?_
  exact next st hs sc sf lk fd bf cf ofn ty 0 ml mf sp on tw pk pf ps pn pp pm H locs ls hLW hBU hP9 hD9 hS (lv_sub hl [0, 1, 2, 3, 4] rfl)
set_option maxHeartbeats 8000000 in
set_option maxRecDepth 100000 in
theorem law_c3 {p : Program} {l : Launch} {e : Env} {s : State} {m : MethodId} {below : List Frame} {meth : Method} {c : Code} {b L : Nat} {xs : Nat → Int32} (hst : l.stackTraces = false) (D : va_G) (C0 : lw_At p s m meth c b L xs) (hG : k_G (fun q : Nat => s.heap.size ≤ q) s s.heap) {a : Nat → Nat} {K KS KL KC : ClassId} {mo ms mk mfd mb out : Nat} (hK : va_K D vwCl [(K, .int), (KS, .object "BarcodeWand$State"), (KL, .long), (KC, .char)] s) (hL : L ≤ 2048) {i : Nat} (hiL : i + 4 ≤ L) {C9 S9 Cn Sn : Nat} (hC9 : C9 + 1 ≤ Cn) (hS9 : S9 + 6 ≤ Sn) (hCn : Cn ≤ 601024) (hSn : Sn ≤ 7293034) (next : ∀ (st : ST) (hs : HT) (sc : SCT) (sf lk fd bf cf : Nat → Int32) (ofn : Nat → Int64) (ty : Nat) (th ml mf sp on tw pk pf ps pn pp pm : Int32) (H : Heap) (locs : List Loc) (ls : Array Slot), LAW st hs sf → BUR ty bf cf pm → va_P D vwCl ((mo, .inr (8, [.ref ms, .int (nI (h_kp hs)), .ref mb, .int (nI ty), .int th, .ref mk, .int ml, .ref mfd, .int mf, .int sp, .int on, .int tw])) :: (ms, .inl (K, 889, .inl sf)) :: (mk, .inl (K, 41, .inl lk)) :: (mfd, .inl (K, 9, .inl fd)) :: (mb, .inl (KC, 60, .inl cf)) :: ((a 25), .inr (4, [.ref (a 26), .int (nI ty)])) :: ((a 26), .inl (K, 60, .inl bf)) :: ((a 27), .inr (1, [.int pk, .int pf, .int ps, .int pn, .int pp, .int pm])) :: (out, .inl (KL, 1, .inr (.inl ofn))) :: (WW a K KS st hs sc)) H → va_D (fun q : Nat => s.heap.size ≤ q) ((mo, .inr (8, [.ref ms, .int (nI (h_kp hs)), .ref mb, .int (nI ty), .int th, .ref mk, .int ml, .ref mfd, .int mf, .int sp, .int on, .int tw])) :: (ms, .inl (K, 889, .inl sf)) :: (mk, .inl (K, 41, .inl lk)) :: (mfd, .inl (K, 9, .inl fd)) :: (mb, .inl (KC, 60, .inl cf)) :: ((a 25), .inr (4, [.ref (a 26), .int (nI ty)])) :: ((a 26), .inl (K, 60, .inl bf)) :: ((a 27), .inr (1, [.int pk, .int pf, .int ps, .int pn, .int pp, .int pm])) :: (out, .inl (KL, 1, .inr (.inl ofn))) :: (WW a K KS st hs sc)) → va_S (fun q : Nat => s.heap.size ≤ q) s.heap H locs → lv_has ls 7 [(4, .int (nI i)), (3, .ref out), (2, .ref mo), (1, .ref (a 0)), (0, .ref b)] → W p l e room_1 s m #[Value.ref b] below meth c H locs Cn Sn (lw_Z below #[Value.ref b] s) (F0 m 1479 ls [])) (st : ST) (hs : HT) (sc : SCT) (sf lk fd bf cf : Nat → Int32) (ofn : Nat → Int64) (ty : Nat) (th ml mf sp on tw pk pf ps pn pp pm : Int32) {H : Heap} {locs : List Loc} {ls : Array Slot} (hLW : LAW st hs sf) (hBU : BUR ty bf cf pm) (hP : va_P D vwCl ((mo, .inr (8, [.ref ms, .int (nI (h_kp hs)), .ref mb, .int (nI ty), .int th, .ref mk, .int ml, .ref mfd, .int mf, .int sp, .int on, .int tw])) :: (ms, .inl (K, 889, .inl sf)) :: (mk, .inl (K, 41, .inl lk)) :: (mfd, .inl (K, 9, .inl fd)) :: (mb, .inl (KC, 60, .inl cf)) :: ((a 25), .inr (4, [.ref (a 26), .int (nI ty)])) :: ((a 26), .inl (K, 60, .inl bf)) :: ((a 27), .inr (1, [.int pk, .int pf, .int ps, .int pn, .int pp, .int pm])) :: (out, .inl (KL, 1, .inr (.inl ofn))) :: (WW a K KS st hs sc)) H) (hD : va_D (fun q : Nat => s.heap.size ≤ q) ((mo, .inr (8, [.ref ms, .int (nI (h_kp hs)), .ref mb, .int (nI ty), .int th, .ref mk, .int ml, .ref mfd, .int mf, .int sp, .int on, .int tw])) :: (ms, .inl (K, 889, .inl sf)) :: (mk, .inl (K, 41, .inl lk)) :: (mfd, .inl (K, 9, .inl fd)) :: (mb, .inl (KC, 60, .inl cf)) :: ((a 25), .inr (4, [.ref (a 26), .int (nI ty)])) :: ((a 26), .inl (K, 60, .inl bf)) :: ((a 27), .inr (1, [.int pk, .int pf, .int ps, .int pn, .int pp, .int pm])) :: (out, .inl (KL, 1, .inr (.inl ofn))) :: (WW a K KS st hs sc))) (hS : va_S (fun q : Nat => s.heap.size ≤ q) s.heap H locs) (hl : lv_has ls 7 [(4, .int (nI i)), (3, .ref out), (2, .ref mo), (1, .ref (a 0)), (0, .ref b)]) : W p l e room_1 s m #[Value.ref b] below meth c H locs C9 S9 (lw_Z below #[Value.ref b] s) (F0 m 329 ls []) := by
  have C1 := C0
  obtain ⟨hx, hb, hr, hml, hown, hts, hX, hbl, hlocks, hgv⟩ := C1
  have hown : s.vm.findClass RL = some m.cls := hown
  have ht : ∀ v9 ∈ wsA, v9.before #[Value.ref b] s = true := fun v9 h9 => hts v9 (wsA_tbl h9)
  have S0 : k_C p s m #[Value.ref b] c cL_law 7 RL := ⟨hx, hb, hml, hown, ht⟩
  have hbA : ¬ (fun q : Nat => s.heap.size ≤ q) b := Nat.not_le.mpr hbl
  have hA : ∀ q : Nat, s.heap.size ≤ q → (fun q : Nat => s.heap.size ≤ q) q := fun _ h9 => h9
  have hLW9 := hLW
  obtain ⟨hbst, hlx, hh, hoL, hR, hHR⟩ := hLW9
  have hkp := kp_6 hh
  have hBU9 := hBU
  obtain ⟨hty, hcf, hm⟩ := hBU9
  obtain ⟨hb1, hb2, hb3, hb4⟩ := bST_le hbst
  obtain ⟨y1, hy1⟩ : ∃ z9 : Int32, z9 = xs (i + 1) := ⟨_, rfl⟩
  obtain ⟨y2, hy2⟩ : ∃ z9 : Int32, z9 = xs (i + 2) := ⟨_, rfl⟩
  obtain ⟨y3, hy3⟩ : ∃ z9 : Int32, z9 = xs (i + 3) := ⟨_, rfl⟩
  generalize hAe : (fun q : Nat => s.heap.size ≤ q) = A at hG hD hS hA hbA
  rcases smu_or (v := y1) hbst with hxi | ⟨en, hen, rfl⟩
  · skip
    refine lv_aload_n hx hb dL_law_329 rfl (lv_at hl 3 rfl) ?_
    refine lv_aload_n hx hb dL_law_330 rfl (lv_at hl 4 rfl) ?_
    refine lv_iload hx hb dL_law_331 (lv_at hl 0 rfl) ?_
    refine lv_iconst (v := 1) hx hb dL_law_333 (by decide) ?_
    refine lv_iadd hx hb dL_law_334 ?_
    refine k_nrm (y := (nI (i + 1))) (nI_add i 1) ?_
    refine va_sld hx hb hX hbl hbA hS (vp_in_nI (by omega) (by omega)) dL_law_335 ?_
    refine k_nrm (y := y1) ((by rw [nI_clamp (by omega)]; exact hy1.symm)) ?_
    refine lv_aload_n hx hb dL_law_336 rfl (lv_at hl 1 rfl) ?_
    have ct := k_cut_TT (wp := [(mo, .inr (8, [.ref ms, .int (nI (h_kp hs)), .ref mb, .int (nI ty), .int th, .ref mk, .int ml, .ref mfd, .int mf, .int sp, .int on, .int tw])), (ms, .inl (K, 889, .inl sf)), (mk, .inl (K, 41, .inl lk)), (mfd, .inl (K, 9, .inl fd)), (mb, .inl (KC, 60, .inl cf)), ((a 25), .inr (4, [.ref (a 26), .int (nI ty)])), ((a 26), .inl (K, 60, .inl bf)), ((a 27), .inr (1, [.int pk, .int pf, .int ps, .int pn, .int pp, .int pm])), (out, .inl (KL, 1, .inr (.inl ofn)))]) (T := (WW a K KS st hs sc)) (wc := [(out, .inl (KL, 1, .inr (.inl ofn)))]) (wr := [(mo, .inr (8, [.ref ms, .int (nI (h_kp hs)), .ref mb, .int (nI ty), .int th, .ref mk, .int ml, .ref mfd, .int mf, .int sp, .int on, .int tw])), (ms, .inl (K, 889, .inl sf)), (mk, .inl (K, 41, .inl lk)), (mfd, .inl (K, 9, .inl fd)), (mb, .inl (KC, 60, .inl cf)), ((a 25), .inr (4, [.ref (a 26), .int (nI ty)])), ((a 26), .inl (K, 60, .inl bf)), ((a 27), .inr (1, [.int pk, .int pf, .int ps, .int pn, .int pp, .int pm]))]) (tc := [(K, .int), (KS, .object "BarcodeWand$State"), (KL, .long)]) hG hS hA hK hP hD [8] [0, 1, 2, 3, 4, 5, 6, 7] [0, 1, 2] rfl rfl (by decide) (by decide) (by decide) rfl
    refine k_endi (As := [.ref (a 0), .int y1, .ref out]) ct (k_runSW (As := [.ref (a 0), .int y1, .ref out]) (rest := []) S0 Ls_L_93 ct (c_L_widthX l hst D a K KS st hs sc y1 out KL ofn (by assumption) H.size) hl.1 rfl (Nat.le_of_ble_eq_true rfl) rfl dL_law_337 ⟨⟨Nat.le_of_ble_eq_true rfl, Nat.le_of_ble_eq_true rfl⟩, (show C9 + 1 ≤ 601024 by omega), (show S9 + 6 ≤ 7293034 by omega)⟩) rfl rfl (fun r_1 _ H locs hw_2 hP hD hK hS => ?_)
    have hK : va_K D vwCl [(K, .int), (KS, .object "BarcodeWand$State"), (KL, .long), (KC, .char)] s := hK
    have hP : va_P D vwCl ((mo, .inr (8, [.ref ms, .int (nI (h_kp hs)), .ref mb, .int (nI ty), .int th, .ref mk, .int ml, .ref mfd, .int mf, .int sp, .int on, .int tw])) :: (ms, .inl (K, 889, .inl sf)) :: (mk, .inl (K, 41, .inl lk)) :: (mfd, .inl (K, 9, .inl fd)) :: (mb, .inl (KC, 60, .inl cf)) :: ((a 25), .inr (4, [.ref (a 26), .int (nI ty)])) :: ((a 26), .inl (K, 60, .inl bf)) :: ((a 27), .inr (1, [.int pk, .int pf, .int ps, .int pn, .int pp, .int pm])) :: (out, .inl (KL, 1, .inr (.inl ofn))) :: (WW a K KS st hs sc)) H := hP
    have hD : va_D A ((mo, .inr (8, [.ref ms, .int (nI (h_kp hs)), .ref mb, .int (nI ty), .int th, .ref mk, .int ml, .ref mfd, .int mf, .int sp, .int on, .int tw])) :: (ms, .inl (K, 889, .inl sf)) :: (mk, .inl (K, 41, .inl lk)) :: (mfd, .inl (K, 9, .inl fd)) :: (mb, .inl (KC, 60, .inl cf)) :: ((a 25), .inr (4, [.ref (a 26), .int (nI ty)])) :: ((a 26), .inl (K, 60, .inl bf)) :: ((a 27), .inr (1, [.int pk, .int pf, .int ps, .int pn, .int pp, .int pm])) :: (out, .inl (KL, 1, .inr (.inl ofn))) :: (WW a K KS st hs sc)) := hD
    have hw_2 : r_1 = (1) := hw_2
    have hw_2 := hw_2.symm
    subst hw_2
    refine k_nrm (y := 1) rfl ?_
    refine lv_istore (lv' := [(5, .int 1), (4, .int (nI i)), (3, .ref out), (2, .ref mo), (1, .ref (a 0)), (0, .ref b)]) hx hb dL_law_340 hl (by decide) rfl (fun ls hl => ?_)
    refine lv_aload_n hx hb dL_law_342 rfl (lv_at hl 3 rfl) ?_
    refine lv_aload_n hx hb dL_law_343 rfl (lv_at hl 5 rfl) ?_
    refine lv_iload hx hb dL_law_344 (lv_at hl 1 rfl) ?_
    refine lv_iconst (v := 1) hx hb dL_law_346 (by decide) ?_
    refine lv_iadd hx hb dL_law_347 ?_
    refine k_nrm (y := (nI (i + 1))) (nI_add i 1) ?_
    refine va_sld hx hb hX hbl hbA hS (vp_in_nI (by omega) (by omega)) dL_law_348 ?_
    refine k_nrm (y := y1) ((by rw [nI_clamp (by omega)]; exact hy1.symm)) ?_
    have ct := k_cut_T (wp := [(mo, .inr (8, [.ref ms, .int (nI (h_kp hs)), .ref mb, .int (nI ty), .int th, .ref mk, .int ml, .ref mfd, .int mf, .int sp, .int on, .int tw])), (ms, .inl (K, 889, .inl sf)), (mk, .inl (K, 41, .inl lk)), (mfd, .inl (K, 9, .inl fd)), (mb, .inl (KC, 60, .inl cf)), ((a 25), .inr (4, [.ref (a 26), .int (nI ty)])), ((a 26), .inl (K, 60, .inl bf)), ((a 27), .inr (1, [.int pk, .int pf, .int ps, .int pn, .int pp, .int pm])), (out, .inl (KL, 1, .inr (.inl ofn)))]) (T := (WW a K KS st hs sc)) (wc := [(mo, .inr (8, [.ref ms, .int (nI (h_kp hs)), .ref mb, .int (nI ty), .int th, .ref mk, .int ml, .ref mfd, .int mf, .int sp, .int on, .int tw])), (ms, .inl (K, 889, .inl sf))]) (wr := [(mk, .inl (K, 41, .inl lk)), (mfd, .inl (K, 9, .inl fd)), (mb, .inl (KC, 60, .inl cf)), ((a 25), .inr (4, [.ref (a 26), .int (nI ty)])), ((a 26), .inl (K, 60, .inl bf)), ((a 27), .inr (1, [.int pk, .int pf, .int ps, .int pn, .int pp, .int pm])), (out, .inl (KL, 1, .inr (.inl ofn)))]) (tc := [(K, .int)]) hG hS hA hK hP hD [0, 1] [2, 3, 4, 5, 6, 7, 8] [0] rfl rfl (by decide) (by decide) (by decide) rfl
    refine k_endi (As := [.ref mo, .int y1]) ct (k_runV (As := [.int y1]) (rest := []) S0 Lv_L_96 rfl (ci := 8) (q0 := 0) rfl rfl ct (c_M_widthX l D mo ms (nI (h_kp hs)) mb (nI ty) th mk ml mfd mf sp on tw K sf st y1 (by assumption) (by assumption) (by assumption) (by assumption) H.size) hl.1 rfl (Nat.le_of_ble_eq_true rfl) rfl dL_law_349 ⟨⟨Nat.le_of_ble_eq_true rfl, Nat.le_of_ble_eq_true rfl⟩, (show C9 + 1 ≤ 601024 by omega), (show S9 + 6 ≤ 7293034 by omega)⟩) rfl rfl (fun r_3 _ H locs hw_4 hP hD hK hS => ?_)
    have hP : va_P D vwCl ((mk, .inl (K, 41, .inl lk)) :: (mfd, .inl (K, 9, .inl fd)) :: (mb, .inl (KC, 60, .inl cf)) :: ((a 25), .inr (4, [.ref (a 26), .int (nI ty)])) :: ((a 26), .inl (K, 60, .inl bf)) :: ((a 27), .inr (1, [.int pk, .int pf, .int ps, .int pn, .int pp, .int pm])) :: (out, .inl (KL, 1, .inr (.inl ofn))) :: (mo, .inr (8, [.ref ms, .int (nI (h_kp hs)), .ref mb, .int (nI ty), .int 1, .ref mk, .int ml, .ref mfd, .int mf, .int sp, .int on, .int tw])) :: (ms, .inl (K, 889, .inl sf)) :: (WW a K KS st hs sc)) H := k_swapP (a := [(mk, .inl (K, 41, .inl lk)), (mfd, .inl (K, 9, .inl fd)), (mb, .inl (KC, 60, .inl cf)), ((a 25), .inr (4, [.ref (a 26), .int (nI ty)])), ((a 26), .inl (K, 60, .inl bf)), ((a 27), .inr (1, [.int pk, .int pf, .int ps, .int pn, .int pp, .int pm])), (out, .inl (KL, 1, .inr (.inl ofn)))]) (b := (WW a K KS st hs sc)) (c := [(mo, .inr (8, [.ref ms, .int (nI (h_kp hs)), .ref mb, .int (nI ty), .int 1, .ref mk, .int ml, .ref mfd, .int mf, .int sp, .int on, .int tw])), (ms, .inl (K, 889, .inl sf))]) hP
    have hD : va_D A ((mk, .inl (K, 41, .inl lk)) :: (mfd, .inl (K, 9, .inl fd)) :: (mb, .inl (KC, 60, .inl cf)) :: ((a 25), .inr (4, [.ref (a 26), .int (nI ty)])) :: ((a 26), .inl (K, 60, .inl bf)) :: ((a 27), .inr (1, [.int pk, .int pf, .int ps, .int pn, .int pp, .int pm])) :: (out, .inl (KL, 1, .inr (.inl ofn))) :: (mo, .inr (8, [.ref ms, .int (nI (h_kp hs)), .ref mb, .int (nI ty), .int 1, .ref mk, .int ml, .ref mfd, .int mf, .int sp, .int on, .int tw])) :: (ms, .inl (K, 889, .inl sf)) :: (WW a K KS st hs sc)) := va_D.swap (a := [(mk, .inl (K, 41, .inl lk)), (mfd, .inl (K, 9, .inl fd)), (mb, .inl (KC, 60, .inl cf)), ((a 25), .inr (4, [.ref (a 26), .int (nI ty)])), ((a 26), .inl (K, 60, .inl bf)), ((a 27), .inr (1, [.int pk, .int pf, .int ps, .int pn, .int pp, .int pm])), (out, .inl (KL, 1, .inr (.inl ofn)))]) (b := (WW a K KS st hs sc)) (c := [(mo, .inr (8, [.ref ms, .int (nI (h_kp hs)), .ref mb, .int (nI ty), .int 1, .ref mk, .int ml, .ref mfd, .int mf, .int sp, .int on, .int tw])), (ms, .inl (K, 889, .inl sf))]) hD
    have hK : va_K D vwCl [(K, .int), (KS, .object "BarcodeWand$State"), (KL, .long), (KC, .char)] s := hK
    have hP : va_P D vwCl ((mk, .inl (K, 41, .inl lk)) :: (mfd, .inl (K, 9, .inl fd)) :: (mb, .inl (KC, 60, .inl cf)) :: ((a 25), .inr (4, [.ref (a 26), .int (nI ty)])) :: ((a 26), .inl (K, 60, .inl bf)) :: ((a 27), .inr (1, [.int pk, .int pf, .int ps, .int pn, .int pp, .int pm])) :: (out, .inl (KL, 1, .inr (.inl ofn))) :: (mo, .inr (8, [.ref ms, .int (nI (h_kp hs)), .ref mb, .int (nI ty), .int 1, .ref mk, .int ml, .ref mfd, .int mf, .int sp, .int on, .int tw])) :: (ms, .inl (K, 889, .inl sf)) :: (WW a K KS st hs sc)) H := hP
    have hD : va_D A ((mk, .inl (K, 41, .inl lk)) :: (mfd, .inl (K, 9, .inl fd)) :: (mb, .inl (KC, 60, .inl cf)) :: ((a 25), .inr (4, [.ref (a 26), .int (nI ty)])) :: ((a 26), .inl (K, 60, .inl bf)) :: ((a 27), .inr (1, [.int pk, .int pf, .int ps, .int pn, .int pp, .int pm])) :: (out, .inl (KL, 1, .inr (.inl ofn))) :: (mo, .inr (8, [.ref ms, .int (nI (h_kp hs)), .ref mb, .int (nI ty), .int 1, .ref mk, .int ml, .ref mfd, .int mf, .int sp, .int on, .int tw])) :: (ms, .inl (K, 889, .inl sf)) :: (WW a K KS st hs sc)) := hD
    have hw_4 : r_3 = (0) := hw_4
    have hw_4 := hw_4.symm
    subst hw_4
    refine k_nrm (y := 0) rfl ?_
    refine lv_istore (lv' := [(6, .int 0), (5, .int 1), (4, .int (nI i)), (3, .ref out), (2, .ref mo), (1, .ref (a 0)), (0, .ref b)]) hx hb dL_law_352 hl (by decide) rfl (fun ls hl => ?_)
    refine lv_aload_n hx hb dL_law_354 rfl (lv_at hl 4 rfl) ?_
    have ct := k_cut_T (wp := [(mk, .inl (K, 41, .inl lk)), (mfd, .inl (K, 9, .inl fd)), (mb, .inl (KC, 60, .inl cf)), ((a 25), .inr (4, [.ref (a 26), .int (nI ty)])), ((a 26), .inl (K, 60, .inl bf)), ((a 27), .inr (1, [.int pk, .int pf, .int ps, .int pn, .int pp, .int pm])), (out, .inl (KL, 1, .inr (.inl ofn))), (mo, .inr (8, [.ref ms, .int (nI (h_kp hs)), .ref mb, .int (nI ty), .int 1, .ref mk, .int ml, .ref mfd, .int mf, .int sp, .int on, .int tw])), (ms, .inl (K, 889, .inl sf))]) (T := (WW a K KS st hs sc)) (wc := [(mo, .inr (8, [.ref ms, .int (nI (h_kp hs)), .ref mb, .int (nI ty), .int 1, .ref mk, .int ml, .ref mfd, .int mf, .int sp, .int on, .int tw]))]) (wr := [(mk, .inl (K, 41, .inl lk)), (mfd, .inl (K, 9, .inl fd)), (mb, .inl (KC, 60, .inl cf)), ((a 25), .inr (4, [.ref (a 26), .int (nI ty)])), ((a 26), .inl (K, 60, .inl bf)), ((a 27), .inr (1, [.int pk, .int pf, .int ps, .int pn, .int pp, .int pm])), (out, .inl (KL, 1, .inr (.inl ofn))), (ms, .inl (K, 889, .inl sf))]) (tc := []) hG hS hA hK hP hD [7] [0, 1, 2, 3, 4, 5, 6, 8] [] rfl rfl (by decide) (by decide) (by decide) rfl
    refine k_endi (As := [.ref mo]) ct (k_runV (As := []) (rest := []) S0 Lv_L_83 rfl (ci := 8) (q0 := 0) rfl rfl ct (c_M_thrown l D mo ms (nI (h_kp hs)) mb (nI ty) 1 mk ml mfd mf sp on tw H.size) hl.1 rfl (Nat.le_of_ble_eq_true rfl) rfl dL_law_355 ⟨⟨Nat.le_of_ble_eq_true rfl, Nat.le_of_ble_eq_true rfl⟩, (show C9 + 1 ≤ 601024 by omega), (show S9 + 6 ≤ 7293034 by omega)⟩) rfl rfl (fun r_5 _ H locs hw_6 hP hD hK hS => ?_)
    have hP : va_P D vwCl ((mk, .inl (K, 41, .inl lk)) :: (mfd, .inl (K, 9, .inl fd)) :: (mb, .inl (KC, 60, .inl cf)) :: ((a 25), .inr (4, [.ref (a 26), .int (nI ty)])) :: ((a 26), .inl (K, 60, .inl bf)) :: ((a 27), .inr (1, [.int pk, .int pf, .int ps, .int pn, .int pp, .int pm])) :: (out, .inl (KL, 1, .inr (.inl ofn))) :: (ms, .inl (K, 889, .inl sf)) :: (mo, .inr (8, [.ref ms, .int (nI (h_kp hs)), .ref mb, .int (nI ty), .int 1, .ref mk, .int ml, .ref mfd, .int mf, .int sp, .int on, .int tw])) :: (WW a K KS st hs sc)) H := k_swapP (a := [(mk, .inl (K, 41, .inl lk)), (mfd, .inl (K, 9, .inl fd)), (mb, .inl (KC, 60, .inl cf)), ((a 25), .inr (4, [.ref (a 26), .int (nI ty)])), ((a 26), .inl (K, 60, .inl bf)), ((a 27), .inr (1, [.int pk, .int pf, .int ps, .int pn, .int pp, .int pm])), (out, .inl (KL, 1, .inr (.inl ofn))), (ms, .inl (K, 889, .inl sf))]) (b := (WW a K KS st hs sc)) (c := [(mo, .inr (8, [.ref ms, .int (nI (h_kp hs)), .ref mb, .int (nI ty), .int 1, .ref mk, .int ml, .ref mfd, .int mf, .int sp, .int on, .int tw]))]) hP
    have hD : va_D A ((mk, .inl (K, 41, .inl lk)) :: (mfd, .inl (K, 9, .inl fd)) :: (mb, .inl (KC, 60, .inl cf)) :: ((a 25), .inr (4, [.ref (a 26), .int (nI ty)])) :: ((a 26), .inl (K, 60, .inl bf)) :: ((a 27), .inr (1, [.int pk, .int pf, .int ps, .int pn, .int pp, .int pm])) :: (out, .inl (KL, 1, .inr (.inl ofn))) :: (ms, .inl (K, 889, .inl sf)) :: (mo, .inr (8, [.ref ms, .int (nI (h_kp hs)), .ref mb, .int (nI ty), .int 1, .ref mk, .int ml, .ref mfd, .int mf, .int sp, .int on, .int tw])) :: (WW a K KS st hs sc)) := va_D.swap (a := [(mk, .inl (K, 41, .inl lk)), (mfd, .inl (K, 9, .inl fd)), (mb, .inl (KC, 60, .inl cf)), ((a 25), .inr (4, [.ref (a 26), .int (nI ty)])), ((a 26), .inl (K, 60, .inl bf)), ((a 27), .inr (1, [.int pk, .int pf, .int ps, .int pn, .int pp, .int pm])), (out, .inl (KL, 1, .inr (.inl ofn))), (ms, .inl (K, 889, .inl sf))]) (b := (WW a K KS st hs sc)) (c := [(mo, .inr (8, [.ref ms, .int (nI (h_kp hs)), .ref mb, .int (nI ty), .int 1, .ref mk, .int ml, .ref mfd, .int mf, .int sp, .int on, .int tw]))]) hD
    have hK : va_K D vwCl [(K, .int), (KS, .object "BarcodeWand$State"), (KL, .long), (KC, .char)] s := hK
    have hP : va_P D vwCl ((mk, .inl (K, 41, .inl lk)) :: (mfd, .inl (K, 9, .inl fd)) :: (mb, .inl (KC, 60, .inl cf)) :: ((a 25), .inr (4, [.ref (a 26), .int (nI ty)])) :: ((a 26), .inl (K, 60, .inl bf)) :: ((a 27), .inr (1, [.int pk, .int pf, .int ps, .int pn, .int pp, .int pm])) :: (out, .inl (KL, 1, .inr (.inl ofn))) :: (ms, .inl (K, 889, .inl sf)) :: (mo, .inr (8, [.ref ms, .int (nI (h_kp hs)), .ref mb, .int (nI ty), .int 1, .ref mk, .int ml, .ref mfd, .int mf, .int sp, .int on, .int tw])) :: (WW a K KS st hs sc)) H := hP
    have hD : va_D A ((mk, .inl (K, 41, .inl lk)) :: (mfd, .inl (K, 9, .inl fd)) :: (mb, .inl (KC, 60, .inl cf)) :: ((a 25), .inr (4, [.ref (a 26), .int (nI ty)])) :: ((a 26), .inl (K, 60, .inl bf)) :: ((a 27), .inr (1, [.int pk, .int pf, .int ps, .int pn, .int pp, .int pm])) :: (out, .inl (KL, 1, .inr (.inl ofn))) :: (ms, .inl (K, 889, .inl sf)) :: (mo, .inr (8, [.ref ms, .int (nI (h_kp hs)), .ref mb, .int (nI ty), .int 1, .ref mk, .int ml, .ref mfd, .int mf, .int sp, .int on, .int tw])) :: (WW a K KS st hs sc)) := hD
    have hw_6 : r_5 = 1 := hw_6
    have hw_6 := hw_6.symm
    subst hw_6
    refine k_nrm (y := 1) rfl ?_
    refine lv_iload hx hb dL_law_358 (lv_at hl 1 rfl) ?_
    refine lv_icmp_eq (tgt := 365) hx hb dL_law_360 (by decide) (fun _ => ?_) (fun c9 => absurd (by decide) c9)
    refine lv_iload hx hb dL_law_365 (lv_at hl 1 rfl) ?_
    refine lv_if_ne (tgt := 382) hx hb dL_law_367 (by decide) (fun _ => ?_) (fun c9 => absurd c9 (by decide))
    refine lv_goto (tgt := 1479) hx hb dL_law_382 (by decide) ?_
    have hP9 : va_P D vwCl ((mo, .inr (8, [.ref ms, .int (nI (h_kp hs)), .ref mb, .int (nI ty), .int 1, .ref mk, .int ml, .ref mfd, .int mf, .int sp, .int on, .int tw])) :: (ms, .inl (K, 889, .inl sf)) :: (mk, .inl (K, 41, .inl lk)) :: (mfd, .inl (K, 9, .inl fd)) :: (mb, .inl (KC, 60, .inl cf)) :: ((a 25), .inr (4, [.ref (a 26), .int (nI ty)])) :: ((a 26), .inl (K, 60, .inl bf)) :: ((a 27), .inr (1, [.int pk, .int pf, .int ps, .int pn, .int pp, .int pm])) :: (out, .inl (KL, 1, .inr (.inl ofn))) :: (WW a K KS st hs sc)) H := k_subP (wp := [(mk, .inl (K, 41, .inl lk)), (mfd, .inl (K, 9, .inl fd)), (mb, .inl (KC, 60, .inl cf)), ((a 25), .inr (4, [.ref (a 26), .int (nI ty)])), ((a 26), .inl (K, 60, .inl bf)), ((a 27), .inr (1, [.int pk, .int pf, .int ps, .int pn, .int pp, .int pm])), (out, .inl (KL, 1, .inr (.inl ofn))), (ms, .inl (K, 889, .inl sf)), (mo, .inr (8, [.ref ms, .int (nI (h_kp hs)), .ref mb, .int (nI ty), .int 1, .ref mk, .int ml, .ref mfd, .int mf, .int sp, .int on, .int tw]))]) (wp' := [(mo, .inr (8, [.ref ms, .int (nI (h_kp hs)), .ref mb, .int (nI ty), .int 1, .ref mk, .int ml, .ref mfd, .int mf, .int sp, .int on, .int tw])), (ms, .inl (K, 889, .inl sf)), (mk, .inl (K, 41, .inl lk)), (mfd, .inl (K, 9, .inl fd)), (mb, .inl (KC, 60, .inl cf)), ((a 25), .inr (4, [.ref (a 26), .int (nI ty)])), ((a 26), .inl (K, 60, .inl bf)), ((a 27), .inr (1, [.int pk, .int pf, .int ps, .int pn, .int pp, .int pm])), (out, .inl (KL, 1, .inr (.inl ofn)))]) (T := (WW a K KS st hs sc)) hP [8, 7, 0, 1, 2, 3, 4, 5, 6] rfl
    have hD9 : va_D A ((mo, .inr (8, [.ref ms, .int (nI (h_kp hs)), .ref mb, .int (nI ty), .int 1, .ref mk, .int ml, .ref mfd, .int mf, .int sp, .int on, .int tw])) :: (ms, .inl (K, 889, .inl sf)) :: (mk, .inl (K, 41, .inl lk)) :: (mfd, .inl (K, 9, .inl fd)) :: (mb, .inl (KC, 60, .inl cf)) :: ((a 25), .inr (4, [.ref (a 26), .int (nI ty)])) :: ((a 26), .inl (K, 60, .inl bf)) :: ((a 27), .inr (1, [.int pk, .int pf, .int ps, .int pn, .int pp, .int pm])) :: (out, .inl (KL, 1, .inr (.inl ofn))) :: (WW a K KS st hs sc)) := k_subD (wp := [(mk, .inl (K, 41, .inl lk)), (mfd, .inl (K, 9, .inl fd)), (mb, .inl (KC, 60, .inl cf)), ((a 25), .inr (4, [.ref (a 26), .int (nI ty)])), ((a 26), .inl (K, 60, .inl bf)), ((a 27), .inr (1, [.int pk, .int pf, .int ps, .int pn, .int pp, .int pm])), (out, .inl (KL, 1, .inr (.inl ofn))), (ms, .inl (K, 889, .inl sf)), (mo, .inr (8, [.ref ms, .int (nI (h_kp hs)), .ref mb, .int (nI ty), .int 1, .ref mk, .int ml, .ref mfd, .int mf, .int sp, .int on, .int tw]))]) (wp' := [(mo, .inr (8, [.ref ms, .int (nI (h_kp hs)), .ref mb, .int (nI ty), .int 1, .ref mk, .int ml, .ref mfd, .int mf, .int sp, .int on, .int tw])), (ms, .inl (K, 889, .inl sf)), (mk, .inl (K, 41, .inl lk)), (mfd, .inl (K, 9, .inl fd)), (mb, .inl (KC, 60, .inl cf)), ((a 25), .inr (4, [.ref (a 26), .int (nI ty)])), ((a 26), .inl (K, 60, .inl bf)), ((a 27), .inr (1, [.int pk, .int pf, .int ps, .int pn, .int pp, .int pm])), (out, .inl (KL, 1, .inr (.inl ofn)))]) (T := (WW a K KS st hs sc)) hD [8, 7, 0, 1, 2, 3, 4, 5, 6] (by decide) rfl
    subst hAe
    refine W.widen (k := Cn) (n := Sn) (by omega) (by omega) ?_
    exact next st hs sc sf lk fd bf cf ofn ty 1 ml mf sp on tw pk pf ps pn pp pm H locs ls hLW hBU hP9 hD9 hS (lv_sub hl [2, 3, 4, 5, 6] rfl)
  · skip
    refine lv_aload_n hx hb dL_law_329 rfl (lv_at hl 3 rfl) ?_
    refine lv_aload_n hx hb dL_law_330 rfl (lv_at hl 4 rfl) ?_
    refine lv_iload hx hb dL_law_331 (lv_at hl 0 rfl) ?_
    refine lv_iconst (v := 1) hx hb dL_law_333 (by decide) ?_
    refine lv_iadd hx hb dL_law_334 ?_
    refine k_nrm (y := (nI (i + 1))) (nI_add i 1) ?_
    refine va_sld hx hb hX hbl hbA hS (vp_in_nI (by omega) (by omega)) dL_law_335 ?_
    refine k_nrm (y := (nI en)) ((by rw [nI_clamp (by omega)]; exact hy1.symm)) ?_
    refine lv_aload_n hx hb dL_law_336 rfl (lv_at hl 1 rfl) ?_
    have ct := k_cut_TT (wp := [(mo, .inr (8, [.ref ms, .int (nI (h_kp hs)), .ref mb, .int (nI ty), .int th, .ref mk, .int ml, .ref mfd, .int mf, .int sp, .int on, .int tw])), (ms, .inl (K, 889, .inl sf)), (mk, .inl (K, 41, .inl lk)), (mfd, .inl (K, 9, .inl fd)), (mb, .inl (KC, 60, .inl cf)), ((a 25), .inr (4, [.ref (a 26), .int (nI ty)])), ((a 26), .inl (K, 60, .inl bf)), ((a 27), .inr (1, [.int pk, .int pf, .int ps, .int pn, .int pp, .int pm])), (out, .inl (KL, 1, .inr (.inl ofn)))]) (T := (WW a K KS st hs sc)) (wc := [(out, .inl (KL, 1, .inr (.inl ofn)))]) (wr := [(mo, .inr (8, [.ref ms, .int (nI (h_kp hs)), .ref mb, .int (nI ty), .int th, .ref mk, .int ml, .ref mfd, .int mf, .int sp, .int on, .int tw])), (ms, .inl (K, 889, .inl sf)), (mk, .inl (K, 41, .inl lk)), (mfd, .inl (K, 9, .inl fd)), (mb, .inl (KC, 60, .inl cf)), ((a 25), .inr (4, [.ref (a 26), .int (nI ty)])), ((a 26), .inl (K, 60, .inl bf)), ((a 27), .inr (1, [.int pk, .int pf, .int ps, .int pn, .int pp, .int pm]))]) (tc := [(K, .int), (KS, .object "BarcodeWand$State"), (KL, .long)]) hG hS hA hK hP hD [8] [0, 1, 2, 3, 4, 5, 6, 7] [0, 1, 2] rfl rfl (by decide) (by decide) (by decide) rfl
    refine k_endi (As := [.ref (a 0), .int (nI en), .ref out]) ct (k_runSW (As := [.ref (a 0), .int (nI en), .ref out]) (rest := []) S0 Ls_L_93 ct (c_L_width l D a K KS st hs sc (nI en) out KL ofn (inR_in hen (by omega)) H.size) hl.1 rfl (Nat.le_of_ble_eq_true rfl) rfl dL_law_337 ⟨⟨Nat.le_of_ble_eq_true rfl, Nat.le_of_ble_eq_true rfl⟩, (show C9 ≤ 601024 by omega), (show S9 ≤ 7293034 by omega)⟩) rfl rfl (fun r_7 u H locs hw_10 hP hD hK hS => ?_)
    obtain ⟨og_8, rv_9⟩ := u
    have hK : va_K D vwCl [(K, .int), (KS, .object "BarcodeWand$State"), (KL, .long), (KC, .char)] s := hK
    have hP : va_P D vwCl ((mo, .inr (8, [.ref ms, .int (nI (h_kp hs)), .ref mb, .int (nI ty), .int th, .ref mk, .int ml, .ref mfd, .int mf, .int sp, .int on, .int tw])) :: (ms, .inl (K, 889, .inl sf)) :: (mk, .inl (K, 41, .inl lk)) :: (mfd, .inl (K, 9, .inl fd)) :: (mb, .inl (KC, 60, .inl cf)) :: ((a 25), .inr (4, [.ref (a 26), .int (nI ty)])) :: ((a 26), .inl (K, 60, .inl bf)) :: ((a 27), .inr (1, [.int pk, .int pf, .int ps, .int pn, .int pp, .int pm])) :: (out, .inl (KL, 1, .inr (.inl og_8))) :: (WW a K KS st hs sc)) H := hP
    have hD : va_D A ((mo, .inr (8, [.ref ms, .int (nI (h_kp hs)), .ref mb, .int (nI ty), .int th, .ref mk, .int ml, .ref mfd, .int mf, .int sp, .int on, .int tw])) :: (ms, .inl (K, 889, .inl sf)) :: (mk, .inl (K, 41, .inl lk)) :: (mfd, .inl (K, 9, .inl fd)) :: (mb, .inl (KC, 60, .inl cf)) :: ((a 25), .inr (4, [.ref (a 26), .int (nI ty)])) :: ((a 26), .inl (K, 60, .inl bf)) :: ((a 27), .inr (1, [.int pk, .int pf, .int ps, .int pn, .int pp, .int pm])) :: (out, .inl (KL, 1, .inr (.inl og_8))) :: (WW a K KS st hs sc)) := hD
    rcases hw_10 with ⟨rfl, rfl, c_11⟩
    · skip
      refine lv_istore (lv' := [(5, .int 0), (4, .int (nI i)), (3, .ref out), (2, .ref mo), (1, .ref (a 0)), (0, .ref b)]) hx hb dL_law_340 hl (by decide) rfl (fun ls hl => ?_)
      refine lv_aload_n hx hb dL_law_342 rfl (lv_at hl 3 rfl) ?_
      refine lv_aload_n hx hb dL_law_343 rfl (lv_at hl 5 rfl) ?_
      refine lv_iload hx hb dL_law_344 (lv_at hl 1 rfl) ?_
      refine lv_iconst (v := 1) hx hb dL_law_346 (by decide) ?_
      refine lv_iadd hx hb dL_law_347 ?_
      refine k_nrm (y := (nI (i + 1))) (nI_add i 1) ?_
      refine va_sld hx hb hX hbl hbA hS (vp_in_nI (by omega) (by omega)) dL_law_348 ?_
      refine k_nrm (y := (nI en)) ((by rw [nI_clamp (by omega)]; exact hy1.symm)) ?_
      have ct := k_cut_T (wp := [(mo, .inr (8, [.ref ms, .int (nI (h_kp hs)), .ref mb, .int (nI ty), .int th, .ref mk, .int ml, .ref mfd, .int mf, .int sp, .int on, .int tw])), (ms, .inl (K, 889, .inl sf)), (mk, .inl (K, 41, .inl lk)), (mfd, .inl (K, 9, .inl fd)), (mb, .inl (KC, 60, .inl cf)), ((a 25), .inr (4, [.ref (a 26), .int (nI ty)])), ((a 26), .inl (K, 60, .inl bf)), ((a 27), .inr (1, [.int pk, .int pf, .int ps, .int pn, .int pp, .int pm])), (out, .inl (KL, 1, .inr (.inl og_8)))]) (T := (WW a K KS st hs sc)) (wc := [(mo, .inr (8, [.ref ms, .int (nI (h_kp hs)), .ref mb, .int (nI ty), .int th, .ref mk, .int ml, .ref mfd, .int mf, .int sp, .int on, .int tw])), (ms, .inl (K, 889, .inl sf))]) (wr := [(mk, .inl (K, 41, .inl lk)), (mfd, .inl (K, 9, .inl fd)), (mb, .inl (KC, 60, .inl cf)), ((a 25), .inr (4, [.ref (a 26), .int (nI ty)])), ((a 26), .inl (K, 60, .inl bf)), ((a 27), .inr (1, [.int pk, .int pf, .int ps, .int pn, .int pp, .int pm])), (out, .inl (KL, 1, .inr (.inl og_8)))]) (tc := [(K, .int)]) hG hS hA hK hP hD [0, 1] [2, 3, 4, 5, 6, 7, 8] [0] rfl rfl (by decide) (by decide) (by decide) rfl
      refine k_endi (As := [.ref mo, .int (nI en)]) ct (k_runV (As := [.int (nI en)]) (rest := []) S0 Lv_L_96 rfl (ci := 8) (q0 := 0) rfl rfl ct (c_M_width l D mo ms (nI (h_kp hs)) mb (nI ty) th mk ml mfd mf sp on tw K sf st en (by assumption) (by assumption) (by assumption) (by assumption) H.size) hl.1 rfl (Nat.le_of_ble_eq_true rfl) rfl dL_law_349 ⟨⟨Nat.le_of_ble_eq_true rfl, Nat.le_of_ble_eq_true rfl⟩, (show C9 ≤ 601024 by omega), (show S9 ≤ 7293034 by omega)⟩) rfl rfl (fun r_12 _ H locs hw_13 hP hD hK hS => ?_)
      have hP : va_P D vwCl ((mk, .inl (K, 41, .inl lk)) :: (mfd, .inl (K, 9, .inl fd)) :: (mb, .inl (KC, 60, .inl cf)) :: ((a 25), .inr (4, [.ref (a 26), .int (nI ty)])) :: ((a 26), .inl (K, 60, .inl bf)) :: ((a 27), .inr (1, [.int pk, .int pf, .int ps, .int pn, .int pp, .int pm])) :: (out, .inl (KL, 1, .inr (.inl og_8))) :: (mo, .inr (8, [.ref ms, .int (nI (h_kp hs)), .ref mb, .int (nI ty), .int 0, .ref mk, .int ml, .ref mfd, .int mf, .int sp, .int on, .int tw])) :: (ms, .inl (K, 889, .inl sf)) :: (WW a K KS st hs sc)) H := k_swapP (a := [(mk, .inl (K, 41, .inl lk)), (mfd, .inl (K, 9, .inl fd)), (mb, .inl (KC, 60, .inl cf)), ((a 25), .inr (4, [.ref (a 26), .int (nI ty)])), ((a 26), .inl (K, 60, .inl bf)), ((a 27), .inr (1, [.int pk, .int pf, .int ps, .int pn, .int pp, .int pm])), (out, .inl (KL, 1, .inr (.inl og_8)))]) (b := (WW a K KS st hs sc)) (c := [(mo, .inr (8, [.ref ms, .int (nI (h_kp hs)), .ref mb, .int (nI ty), .int 0, .ref mk, .int ml, .ref mfd, .int mf, .int sp, .int on, .int tw])), (ms, .inl (K, 889, .inl sf))]) hP
      have hD : va_D A ((mk, .inl (K, 41, .inl lk)) :: (mfd, .inl (K, 9, .inl fd)) :: (mb, .inl (KC, 60, .inl cf)) :: ((a 25), .inr (4, [.ref (a 26), .int (nI ty)])) :: ((a 26), .inl (K, 60, .inl bf)) :: ((a 27), .inr (1, [.int pk, .int pf, .int ps, .int pn, .int pp, .int pm])) :: (out, .inl (KL, 1, .inr (.inl og_8))) :: (mo, .inr (8, [.ref ms, .int (nI (h_kp hs)), .ref mb, .int (nI ty), .int 0, .ref mk, .int ml, .ref mfd, .int mf, .int sp, .int on, .int tw])) :: (ms, .inl (K, 889, .inl sf)) :: (WW a K KS st hs sc)) := va_D.swap (a := [(mk, .inl (K, 41, .inl lk)), (mfd, .inl (K, 9, .inl fd)), (mb, .inl (KC, 60, .inl cf)), ((a 25), .inr (4, [.ref (a 26), .int (nI ty)])), ((a 26), .inl (K, 60, .inl bf)), ((a 27), .inr (1, [.int pk, .int pf, .int ps, .int pn, .int pp, .int pm])), (out, .inl (KL, 1, .inr (.inl og_8)))]) (b := (WW a K KS st hs sc)) (c := [(mo, .inr (8, [.ref ms, .int (nI (h_kp hs)), .ref mb, .int (nI ty), .int 0, .ref mk, .int ml, .ref mfd, .int mf, .int sp, .int on, .int tw])), (ms, .inl (K, 889, .inl sf))]) hD
      have hK : va_K D vwCl [(K, .int), (KS, .object "BarcodeWand$State"), (KL, .long), (KC, .char)] s := hK
      have hP : va_P D vwCl ((mk, .inl (K, 41, .inl lk)) :: (mfd, .inl (K, 9, .inl fd)) :: (mb, .inl (KC, 60, .inl cf)) :: ((a 25), .inr (4, [.ref (a 26), .int (nI ty)])) :: ((a 26), .inl (K, 60, .inl bf)) :: ((a 27), .inr (1, [.int pk, .int pf, .int ps, .int pn, .int pp, .int pm])) :: (out, .inl (KL, 1, .inr (.inl og_8))) :: (mo, .inr (8, [.ref ms, .int (nI (h_kp hs)), .ref mb, .int (nI ty), .int 0, .ref mk, .int ml, .ref mfd, .int mf, .int sp, .int on, .int tw])) :: (ms, .inl (K, 889, .inl sf)) :: (WW a K KS st hs sc)) H := hP
      have hD : va_D A ((mk, .inl (K, 41, .inl lk)) :: (mfd, .inl (K, 9, .inl fd)) :: (mb, .inl (KC, 60, .inl cf)) :: ((a 25), .inr (4, [.ref (a 26), .int (nI ty)])) :: ((a 26), .inl (K, 60, .inl bf)) :: ((a 27), .inr (1, [.int pk, .int pf, .int ps, .int pn, .int pp, .int pm])) :: (out, .inl (KL, 1, .inr (.inl og_8))) :: (mo, .inr (8, [.ref ms, .int (nI (h_kp hs)), .ref mb, .int (nI ty), .int 0, .ref mk, .int ml, .ref mfd, .int mf, .int sp, .int on, .int tw])) :: (ms, .inl (K, 889, .inl sf)) :: (WW a K KS st hs sc)) := hD
      have hw_13 : r_12 = (widF (s_nd st) (s_df st) (nI (s_ns st)) (nI en)) := hw_13
      have hw_13 := hw_13.symm
      subst hw_13
      refine k_nrm (y := (widF (s_nd st) (s_df st) (nI (s_ns st)) (nI en))) rfl ?_
      refine lv_istore (lv' := [(6, .int (widF (s_nd st) (s_df st) (nI (s_ns st)) (nI en))), (5, .int 0), (4, .int (nI i)), (3, .ref out), (2, .ref mo), (1, .ref (a 0)), (0, .ref b)]) hx hb dL_law_352 hl (by decide) rfl (fun ls hl => ?_)
      refine lv_aload_n hx hb dL_law_354 rfl (lv_at hl 4 rfl) ?_
      have ct := k_cut_T (wp := [(mk, .inl (K, 41, .inl lk)), (mfd, .inl (K, 9, .inl fd)), (mb, .inl (KC, 60, .inl cf)), ((a 25), .inr (4, [.ref (a 26), .int (nI ty)])), ((a 26), .inl (K, 60, .inl bf)), ((a 27), .inr (1, [.int pk, .int pf, .int ps, .int pn, .int pp, .int pm])), (out, .inl (KL, 1, .inr (.inl og_8))), (mo, .inr (8, [.ref ms, .int (nI (h_kp hs)), .ref mb, .int (nI ty), .int 0, .ref mk, .int ml, .ref mfd, .int mf, .int sp, .int on, .int tw])), (ms, .inl (K, 889, .inl sf))]) (T := (WW a K KS st hs sc)) (wc := [(mo, .inr (8, [.ref ms, .int (nI (h_kp hs)), .ref mb, .int (nI ty), .int 0, .ref mk, .int ml, .ref mfd, .int mf, .int sp, .int on, .int tw]))]) (wr := [(mk, .inl (K, 41, .inl lk)), (mfd, .inl (K, 9, .inl fd)), (mb, .inl (KC, 60, .inl cf)), ((a 25), .inr (4, [.ref (a 26), .int (nI ty)])), ((a 26), .inl (K, 60, .inl bf)), ((a 27), .inr (1, [.int pk, .int pf, .int ps, .int pn, .int pp, .int pm])), (out, .inl (KL, 1, .inr (.inl og_8))), (ms, .inl (K, 889, .inl sf))]) (tc := []) hG hS hA hK hP hD [7] [0, 1, 2, 3, 4, 5, 6, 8] [] rfl rfl (by decide) (by decide) (by decide) rfl
      refine k_endi (As := [.ref mo]) ct (k_runV (As := []) (rest := []) S0 Lv_L_83 rfl (ci := 8) (q0 := 0) rfl rfl ct (c_M_thrown l D mo ms (nI (h_kp hs)) mb (nI ty) 0 mk ml mfd mf sp on tw H.size) hl.1 rfl (Nat.le_of_ble_eq_true rfl) rfl dL_law_355 ⟨⟨Nat.le_of_ble_eq_true rfl, Nat.le_of_ble_eq_true rfl⟩, (show C9 ≤ 601024 by omega), (show S9 ≤ 7293034 by omega)⟩) rfl rfl (fun r_14 _ H locs hw_15 hP hD hK hS => ?_)
      have hP : va_P D vwCl ((mk, .inl (K, 41, .inl lk)) :: (mfd, .inl (K, 9, .inl fd)) :: (mb, .inl (KC, 60, .inl cf)) :: ((a 25), .inr (4, [.ref (a 26), .int (nI ty)])) :: ((a 26), .inl (K, 60, .inl bf)) :: ((a 27), .inr (1, [.int pk, .int pf, .int ps, .int pn, .int pp, .int pm])) :: (out, .inl (KL, 1, .inr (.inl og_8))) :: (ms, .inl (K, 889, .inl sf)) :: (mo, .inr (8, [.ref ms, .int (nI (h_kp hs)), .ref mb, .int (nI ty), .int 0, .ref mk, .int ml, .ref mfd, .int mf, .int sp, .int on, .int tw])) :: (WW a K KS st hs sc)) H := k_swapP (a := [(mk, .inl (K, 41, .inl lk)), (mfd, .inl (K, 9, .inl fd)), (mb, .inl (KC, 60, .inl cf)), ((a 25), .inr (4, [.ref (a 26), .int (nI ty)])), ((a 26), .inl (K, 60, .inl bf)), ((a 27), .inr (1, [.int pk, .int pf, .int ps, .int pn, .int pp, .int pm])), (out, .inl (KL, 1, .inr (.inl og_8))), (ms, .inl (K, 889, .inl sf))]) (b := (WW a K KS st hs sc)) (c := [(mo, .inr (8, [.ref ms, .int (nI (h_kp hs)), .ref mb, .int (nI ty), .int 0, .ref mk, .int ml, .ref mfd, .int mf, .int sp, .int on, .int tw]))]) hP
      have hD : va_D A ((mk, .inl (K, 41, .inl lk)) :: (mfd, .inl (K, 9, .inl fd)) :: (mb, .inl (KC, 60, .inl cf)) :: ((a 25), .inr (4, [.ref (a 26), .int (nI ty)])) :: ((a 26), .inl (K, 60, .inl bf)) :: ((a 27), .inr (1, [.int pk, .int pf, .int ps, .int pn, .int pp, .int pm])) :: (out, .inl (KL, 1, .inr (.inl og_8))) :: (ms, .inl (K, 889, .inl sf)) :: (mo, .inr (8, [.ref ms, .int (nI (h_kp hs)), .ref mb, .int (nI ty), .int 0, .ref mk, .int ml, .ref mfd, .int mf, .int sp, .int on, .int tw])) :: (WW a K KS st hs sc)) := va_D.swap (a := [(mk, .inl (K, 41, .inl lk)), (mfd, .inl (K, 9, .inl fd)), (mb, .inl (KC, 60, .inl cf)), ((a 25), .inr (4, [.ref (a 26), .int (nI ty)])), ((a 26), .inl (K, 60, .inl bf)), ((a 27), .inr (1, [.int pk, .int pf, .int ps, .int pn, .int pp, .int pm])), (out, .inl (KL, 1, .inr (.inl og_8))), (ms, .inl (K, 889, .inl sf))]) (b := (WW a K KS st hs sc)) (c := [(mo, .inr (8, [.ref ms, .int (nI (h_kp hs)), .ref mb, .int (nI ty), .int 0, .ref mk, .int ml, .ref mfd, .int mf, .int sp, .int on, .int tw]))]) hD
      have hK : va_K D vwCl [(K, .int), (KS, .object "BarcodeWand$State"), (KL, .long), (KC, .char)] s := hK
      have hP : va_P D vwCl ((mk, .inl (K, 41, .inl lk)) :: (mfd, .inl (K, 9, .inl fd)) :: (mb, .inl (KC, 60, .inl cf)) :: ((a 25), .inr (4, [.ref (a 26), .int (nI ty)])) :: ((a 26), .inl (K, 60, .inl bf)) :: ((a 27), .inr (1, [.int pk, .int pf, .int ps, .int pn, .int pp, .int pm])) :: (out, .inl (KL, 1, .inr (.inl og_8))) :: (ms, .inl (K, 889, .inl sf)) :: (mo, .inr (8, [.ref ms, .int (nI (h_kp hs)), .ref mb, .int (nI ty), .int 0, .ref mk, .int ml, .ref mfd, .int mf, .int sp, .int on, .int tw])) :: (WW a K KS st hs sc)) H := hP
      have hD : va_D A ((mk, .inl (K, 41, .inl lk)) :: (mfd, .inl (K, 9, .inl fd)) :: (mb, .inl (KC, 60, .inl cf)) :: ((a 25), .inr (4, [.ref (a 26), .int (nI ty)])) :: ((a 26), .inl (K, 60, .inl bf)) :: ((a 27), .inr (1, [.int pk, .int pf, .int ps, .int pn, .int pp, .int pm])) :: (out, .inl (KL, 1, .inr (.inl og_8))) :: (ms, .inl (K, 889, .inl sf)) :: (mo, .inr (8, [.ref ms, .int (nI (h_kp hs)), .ref mb, .int (nI ty), .int 0, .ref mk, .int ml, .ref mfd, .int mf, .int sp, .int on, .int tw])) :: (WW a K KS st hs sc)) := hD
      have hw_15 : r_14 = 0 := hw_15
      have hw_15 := hw_15.symm
      subst hw_15
      refine k_nrm (y := 0) rfl ?_
      refine lv_iload hx hb dL_law_358 (lv_at hl 1 rfl) ?_
      refine lv_icmp_eq (tgt := 365) hx hb dL_law_360 (by decide) (fun _ => ?_) (fun c9 => absurd (by decide) c9)
      refine lv_iload hx hb dL_law_365 (lv_at hl 1 rfl) ?_
      refine lv_if_ne (tgt := 382) hx hb dL_law_367 (by decide) (fun c9 => absurd (by decide) c9) (fun _ => ?_)
      refine lv_aload_n hx hb dL_law_370 rfl (lv_at hl 3 rfl) ?_
      refine lv_iconst (v := 0) hx hb dL_law_371 (by decide) ?_
      refine va_lald hx hb hK hP 6 2 rfl rfl (by unfold vp_in; decide) dL_law_372 ?_
      refine k_nrml (y := (widF (s_nd st) (s_df st) (nI (s_ns st)) (nI en)).toInt64) (show og_8 (0 : Int32).toNatClampNeg = (widF (s_nd st) (s_df st) (nI (s_ns st)) (nI en)).toInt64 from c_11) ?_
      refine lv_iload hx hb dL_law_373 (lv_at hl 0 rfl) ?_
      refine lv_i2l (v := (widF (s_nd st) (s_df st) (nI (s_ns st)) (nI en)).toInt64) hx hb dL_law_375 rfl ?_
      refine W.lcmp hx hb dL_law_376 ?_
      refine k_nrm (y := 0) (lg_same rfl ((Eq.refl _).symm)) ?_
      refine lv_if_eq (tgt := 382) hx hb dL_law_377 (by decide) (fun _ => ?_) (fun c9 => absurd (by decide) c9)
      refine lv_goto (tgt := 1479) hx hb dL_law_382 (by decide) ?_
      have hP9 : va_P D vwCl ((mo, .inr (8, [.ref ms, .int (nI (h_kp hs)), .ref mb, .int (nI ty), .int 0, .ref mk, .int ml, .ref mfd, .int mf, .int sp, .int on, .int tw])) :: (ms, .inl (K, 889, .inl sf)) :: (mk, .inl (K, 41, .inl lk)) :: (mfd, .inl (K, 9, .inl fd)) :: (mb, .inl (KC, 60, .inl cf)) :: ((a 25), .inr (4, [.ref (a 26), .int (nI ty)])) :: ((a 26), .inl (K, 60, .inl bf)) :: ((a 27), .inr (1, [.int pk, .int pf, .int ps, .int pn, .int pp, .int pm])) :: (out, .inl (KL, 1, .inr (.inl og_8))) :: (WW a K KS st hs sc)) H := k_subP (wp := [(mk, .inl (K, 41, .inl lk)), (mfd, .inl (K, 9, .inl fd)), (mb, .inl (KC, 60, .inl cf)), ((a 25), .inr (4, [.ref (a 26), .int (nI ty)])), ((a 26), .inl (K, 60, .inl bf)), ((a 27), .inr (1, [.int pk, .int pf, .int ps, .int pn, .int pp, .int pm])), (out, .inl (KL, 1, .inr (.inl og_8))), (ms, .inl (K, 889, .inl sf)), (mo, .inr (8, [.ref ms, .int (nI (h_kp hs)), .ref mb, .int (nI ty), .int 0, .ref mk, .int ml, .ref mfd, .int mf, .int sp, .int on, .int tw]))]) (wp' := [(mo, .inr (8, [.ref ms, .int (nI (h_kp hs)), .ref mb, .int (nI ty), .int 0, .ref mk, .int ml, .ref mfd, .int mf, .int sp, .int on, .int tw])), (ms, .inl (K, 889, .inl sf)), (mk, .inl (K, 41, .inl lk)), (mfd, .inl (K, 9, .inl fd)), (mb, .inl (KC, 60, .inl cf)), ((a 25), .inr (4, [.ref (a 26), .int (nI ty)])), ((a 26), .inl (K, 60, .inl bf)), ((a 27), .inr (1, [.int pk, .int pf, .int ps, .int pn, .int pp, .int pm])), (out, .inl (KL, 1, .inr (.inl og_8)))]) (T := (WW a K KS st hs sc)) hP [8, 7, 0, 1, 2, 3, 4, 5, 6] rfl
      have hD9 : va_D A ((mo, .inr (8, [.ref ms, .int (nI (h_kp hs)), .ref mb, .int (nI ty), .int 0, .ref mk, .int ml, .ref mfd, .int mf, .int sp, .int on, .int tw])) :: (ms, .inl (K, 889, .inl sf)) :: (mk, .inl (K, 41, .inl lk)) :: (mfd, .inl (K, 9, .inl fd)) :: (mb, .inl (KC, 60, .inl cf)) :: ((a 25), .inr (4, [.ref (a 26), .int (nI ty)])) :: ((a 26), .inl (K, 60, .inl bf)) :: ((a 27), .inr (1, [.int pk, .int pf, .int ps, .int pn, .int pp, .int pm])) :: (out, .inl (KL, 1, .inr (.inl og_8))) :: (WW a K KS st hs sc)) := k_subD (wp := [(mk, .inl (K, 41, .inl lk)), (mfd, .inl (K, 9, .inl fd)), (mb, .inl (KC, 60, .inl cf)), ((a 25), .inr (4, [.ref (a 26), .int (nI ty)])), ((a 26), .inl (K, 60, .inl bf)), ((a 27), .inr (1, [.int pk, .int pf, .int ps, .int pn, .int pp, .int pm])), (out, .inl (KL, 1, .inr (.inl og_8))), (ms, .inl (K, 889, .inl sf)), (mo, .inr (8, [.ref ms, .int (nI (h_kp hs)), .ref mb, .int (nI ty), .int 0, .ref mk, .int ml, .ref mfd, .int mf, .int sp, .int on, .int tw]))]) (wp' := [(mo, .inr (8, [.ref ms, .int (nI (h_kp hs)), .ref mb, .int (nI ty), .int 0, .ref mk, .int ml, .ref mfd, .int mf, .int sp, .int on, .int tw])), (ms, .inl (K, 889, .inl sf)), (mk, .inl (K, 41, .inl lk)), (mfd, .inl (K, 9, .inl fd)), (mb, .inl (KC, 60, .inl cf)), ((a 25), .inr (4, [.ref (a 26), .int (nI ty)])), ((a 26), .inl (K, 60, .inl bf)), ((a 27), .inr (1, [.int pk, .int pf, .int ps, .int pn, .int pp, .int pm])), (out, .inl (KL, 1, .inr (.inl og_8)))]) (T := (WW a K KS st hs sc)) hD [8, 7, 0, 1, 2, 3, 4, 5, 6] (by decide) rfl
      subst hAe
      refine W.widen (k := Cn) (n := Sn) (by omega) (by omega) ?_
      exact next st hs sc sf lk fd bf cf og_8 ty 0 ml mf sp on tw pk pf ps pn pp pm H locs ls hLW hBU hP9 hD9 hS (lv_sub hl [2, 3, 4, 5, 6] rfl)
set_option maxHeartbeats 8000000 in
set_option maxRecDepth 100000 in
theorem law_c4 {p : Program} {l : Launch} {e : Env} {s : State} {m : MethodId} {below : List Frame} {meth : Method} {c : Code} {b L : Nat} {xs : Nat → Int32} (hst : l.stackTraces = false) (D : va_G) (C0 : lw_At p s m meth c b L xs) (hG : k_G (fun q : Nat => s.heap.size ≤ q) s s.heap) {a : Nat → Nat} {K KS KL KC : ClassId} {mo ms mk mfd mb out : Nat} (hK : va_K D vwCl [(K, .int), (KS, .object "BarcodeWand$State"), (KL, .long), (KC, .char)] s) (hL : L ≤ 2048) {i : Nat} (hiL : i + 4 ≤ L) {C9 S9 Cn Sn : Nat} (hC9 : C9 + 1 ≤ Cn) (hS9 : S9 + 6 ≤ Sn) (hCn : Cn ≤ 601024) (hSn : Sn ≤ 7293034) (next : ∀ (st : ST) (hs : HT) (sc : SCT) (sf lk fd bf cf : Nat → Int32) (ofn : Nat → Int64) (ty : Nat) (th ml mf sp on tw pk pf ps pn pp pm : Int32) (H : Heap) (locs : List Loc) (ls : Array Slot), LAW st hs sf → BUR ty bf cf pm → va_P D vwCl ((mo, .inr (8, [.ref ms, .int (nI (h_kp hs)), .ref mb, .int (nI ty), .int th, .ref mk, .int ml, .ref mfd, .int mf, .int sp, .int on, .int tw])) :: (ms, .inl (K, 889, .inl sf)) :: (mk, .inl (K, 41, .inl lk)) :: (mfd, .inl (K, 9, .inl fd)) :: (mb, .inl (KC, 60, .inl cf)) :: ((a 25), .inr (4, [.ref (a 26), .int (nI ty)])) :: ((a 26), .inl (K, 60, .inl bf)) :: ((a 27), .inr (1, [.int pk, .int pf, .int ps, .int pn, .int pp, .int pm])) :: (out, .inl (KL, 1, .inr (.inl ofn))) :: (WW a K KS st hs sc)) H → va_D (fun q : Nat => s.heap.size ≤ q) ((mo, .inr (8, [.ref ms, .int (nI (h_kp hs)), .ref mb, .int (nI ty), .int th, .ref mk, .int ml, .ref mfd, .int mf, .int sp, .int on, .int tw])) :: (ms, .inl (K, 889, .inl sf)) :: (mk, .inl (K, 41, .inl lk)) :: (mfd, .inl (K, 9, .inl fd)) :: (mb, .inl (KC, 60, .inl cf)) :: ((a 25), .inr (4, [.ref (a 26), .int (nI ty)])) :: ((a 26), .inl (K, 60, .inl bf)) :: ((a 27), .inr (1, [.int pk, .int pf, .int ps, .int pn, .int pp, .int pm])) :: (out, .inl (KL, 1, .inr (.inl ofn))) :: (WW a K KS st hs sc)) → va_S (fun q : Nat => s.heap.size ≤ q) s.heap H locs → lv_has ls 7 [(4, .int (nI i)), (3, .ref out), (2, .ref mo), (1, .ref (a 0)), (0, .ref b)] → W p l e room_1 s m #[Value.ref b] below meth c H locs Cn Sn (lw_Z below #[Value.ref b] s) (F0 m 1479 ls [])) (st : ST) (hs : HT) (sc : SCT) (sf lk fd bf cf : Nat → Int32) (ofn : Nat → Int64) (ty : Nat) (th ml mf sp on tw pk pf ps pn pp pm : Int32) {H : Heap} {locs : List Loc} {ls : Array Slot} (hLW : LAW st hs sf) (hBU : BUR ty bf cf pm) (hP : va_P D vwCl ((mo, .inr (8, [.ref ms, .int (nI (h_kp hs)), .ref mb, .int (nI ty), .int th, .ref mk, .int ml, .ref mfd, .int mf, .int sp, .int on, .int tw])) :: (ms, .inl (K, 889, .inl sf)) :: (mk, .inl (K, 41, .inl lk)) :: (mfd, .inl (K, 9, .inl fd)) :: (mb, .inl (KC, 60, .inl cf)) :: ((a 25), .inr (4, [.ref (a 26), .int (nI ty)])) :: ((a 26), .inl (K, 60, .inl bf)) :: ((a 27), .inr (1, [.int pk, .int pf, .int ps, .int pn, .int pp, .int pm])) :: (out, .inl (KL, 1, .inr (.inl ofn))) :: (WW a K KS st hs sc)) H) (hD : va_D (fun q : Nat => s.heap.size ≤ q) ((mo, .inr (8, [.ref ms, .int (nI (h_kp hs)), .ref mb, .int (nI ty), .int th, .ref mk, .int ml, .ref mfd, .int mf, .int sp, .int on, .int tw])) :: (ms, .inl (K, 889, .inl sf)) :: (mk, .inl (K, 41, .inl lk)) :: (mfd, .inl (K, 9, .inl fd)) :: (mb, .inl (KC, 60, .inl cf)) :: ((a 25), .inr (4, [.ref (a 26), .int (nI ty)])) :: ((a 26), .inl (K, 60, .inl bf)) :: ((a 27), .inr (1, [.int pk, .int pf, .int ps, .int pn, .int pp, .int pm])) :: (out, .inl (KL, 1, .inr (.inl ofn))) :: (WW a K KS st hs sc))) (hS : va_S (fun q : Nat => s.heap.size ≤ q) s.heap H locs) (hl : lv_has ls 7 [(4, .int (nI i)), (3, .ref out), (2, .ref mo), (1, .ref (a 0)), (0, .ref b)]) : W p l e room_1 s m #[Value.ref b] below meth c H locs C9 S9 (lw_Z below #[Value.ref b] s) (F0 m 385 ls []) := by
  have C1 := C0
  obtain ⟨hx, hb, hr, hml, hown, hts, hX, hbl, hlocks, hgv⟩ := C1
  have hown : s.vm.findClass RL = some m.cls := hown
  have ht : ∀ v9 ∈ wsA, v9.before #[Value.ref b] s = true := fun v9 h9 => hts v9 (wsA_tbl h9)
  have S0 : k_C p s m #[Value.ref b] c cL_law 7 RL := ⟨hx, hb, hml, hown, ht⟩
  have hbA : ¬ (fun q : Nat => s.heap.size ≤ q) b := Nat.not_le.mpr hbl
  have hA : ∀ q : Nat, s.heap.size ≤ q → (fun q : Nat => s.heap.size ≤ q) q := fun _ h9 => h9
  have hLW9 := hLW
  obtain ⟨hbst, hlx, hh, hoL, hR, hHR⟩ := hLW9
  have hkp := kp_6 hh
  have hBU9 := hBU
  obtain ⟨hty, hcf, hm⟩ := hBU9
  obtain ⟨hb1, hb2, hb3, hb4⟩ := bST_le hbst
  obtain ⟨y1, hy1⟩ : ∃ z9 : Int32, z9 = xs (i + 1) := ⟨_, rfl⟩
  obtain ⟨y2, hy2⟩ : ∃ z9 : Int32, z9 = xs (i + 2) := ⟨_, rfl⟩
  obtain ⟨y3, hy3⟩ : ∃ z9 : Int32, z9 = xs (i + 3) := ⟨_, rfl⟩
  generalize hAe : (fun q : Nat => s.heap.size ≤ q) = A at hG hD hS hA hbA
  rcases rng_or (n := s_nd st) y1 (by omega) with hxi | ⟨en, hen, rfl⟩
  · skip
    refine lv_aload_n hx hb dL_law_385 rfl (lv_at hl 3 rfl) ?_
    refine lv_aload_n hx hb dL_law_386 rfl (lv_at hl 4 rfl) ?_
    refine lv_iload hx hb dL_law_387 (lv_at hl 0 rfl) ?_
    refine lv_iconst (v := 1) hx hb dL_law_389 (by decide) ?_
    refine lv_iadd hx hb dL_law_390 ?_
    refine k_nrm (y := (nI (i + 1))) (nI_add i 1) ?_
    refine va_sld hx hb hX hbl hbA hS (vp_in_nI (by omega) (by omega)) dL_law_391 ?_
    refine k_nrm (y := y1) ((by rw [nI_clamp (by omega)]; exact hy1.symm)) ?_
    refine lv_aload_n hx hb dL_law_392 rfl (lv_at hl 1 rfl) ?_
    have ct := k_cut_TT (wp := [(mo, .inr (8, [.ref ms, .int (nI (h_kp hs)), .ref mb, .int (nI ty), .int th, .ref mk, .int ml, .ref mfd, .int mf, .int sp, .int on, .int tw])), (ms, .inl (K, 889, .inl sf)), (mk, .inl (K, 41, .inl lk)), (mfd, .inl (K, 9, .inl fd)), (mb, .inl (KC, 60, .inl cf)), ((a 25), .inr (4, [.ref (a 26), .int (nI ty)])), ((a 26), .inl (K, 60, .inl bf)), ((a 27), .inr (1, [.int pk, .int pf, .int ps, .int pn, .int pp, .int pm])), (out, .inl (KL, 1, .inr (.inl ofn)))]) (T := (WW a K KS st hs sc)) (wc := [(out, .inl (KL, 1, .inr (.inl ofn)))]) (wr := [(mo, .inr (8, [.ref ms, .int (nI (h_kp hs)), .ref mb, .int (nI ty), .int th, .ref mk, .int ml, .ref mfd, .int mf, .int sp, .int on, .int tw])), (ms, .inl (K, 889, .inl sf)), (mk, .inl (K, 41, .inl lk)), (mfd, .inl (K, 9, .inl fd)), (mb, .inl (KC, 60, .inl cf)), ((a 25), .inr (4, [.ref (a 26), .int (nI ty)])), ((a 26), .inl (K, 60, .inl bf)), ((a 27), .inr (1, [.int pk, .int pf, .int ps, .int pn, .int pp, .int pm]))]) (tc := [(K, .int), (KS, .object "BarcodeWand$State"), (KL, .long)]) hG hS hA hK hP hD [8] [0, 1, 2, 3, 4, 5, 6, 7] [0, 1, 2] rfl rfl (by decide) (by decide) (by decide) rfl
    refine k_endi (As := [.ref (a 0), .int y1, .ref out]) ct (k_runSW (As := [.ref (a 0), .int y1, .ref out]) (rest := []) S0 Ls_L_97 ct (c_L_labelDigitX l hst D a K KS st hs sc y1 out KL ofn (by assumption) H.size) hl.1 rfl (Nat.le_of_ble_eq_true rfl) rfl dL_law_393 ⟨⟨Nat.le_of_ble_eq_true rfl, Nat.le_of_ble_eq_true rfl⟩, (show C9 + 1 ≤ 601024 by omega), (show S9 + 6 ≤ 7293034 by omega)⟩) rfl rfl (fun r_1 _ H locs hw_2 hP hD hK hS => ?_)
    have hK : va_K D vwCl [(K, .int), (KS, .object "BarcodeWand$State"), (KL, .long), (KC, .char)] s := hK
    have hP : va_P D vwCl ((mo, .inr (8, [.ref ms, .int (nI (h_kp hs)), .ref mb, .int (nI ty), .int th, .ref mk, .int ml, .ref mfd, .int mf, .int sp, .int on, .int tw])) :: (ms, .inl (K, 889, .inl sf)) :: (mk, .inl (K, 41, .inl lk)) :: (mfd, .inl (K, 9, .inl fd)) :: (mb, .inl (KC, 60, .inl cf)) :: ((a 25), .inr (4, [.ref (a 26), .int (nI ty)])) :: ((a 26), .inl (K, 60, .inl bf)) :: ((a 27), .inr (1, [.int pk, .int pf, .int ps, .int pn, .int pp, .int pm])) :: (out, .inl (KL, 1, .inr (.inl ofn))) :: (WW a K KS st hs sc)) H := hP
    have hD : va_D A ((mo, .inr (8, [.ref ms, .int (nI (h_kp hs)), .ref mb, .int (nI ty), .int th, .ref mk, .int ml, .ref mfd, .int mf, .int sp, .int on, .int tw])) :: (ms, .inl (K, 889, .inl sf)) :: (mk, .inl (K, 41, .inl lk)) :: (mfd, .inl (K, 9, .inl fd)) :: (mb, .inl (KC, 60, .inl cf)) :: ((a 25), .inr (4, [.ref (a 26), .int (nI ty)])) :: ((a 26), .inl (K, 60, .inl bf)) :: ((a 27), .inr (1, [.int pk, .int pf, .int ps, .int pn, .int pp, .int pm])) :: (out, .inl (KL, 1, .inr (.inl ofn))) :: (WW a K KS st hs sc)) := hD
    have hw_2 : r_1 = (1) := hw_2
    have hw_2 := hw_2.symm
    subst hw_2
    refine k_nrm (y := 1) rfl ?_
    refine lv_istore (lv' := [(5, .int 1), (4, .int (nI i)), (3, .ref out), (2, .ref mo), (1, .ref (a 0)), (0, .ref b)]) hx hb dL_law_396 hl (by decide) rfl (fun ls hl => ?_)
    refine lv_aload_n hx hb dL_law_398 rfl (lv_at hl 3 rfl) ?_
    refine lv_aload_n hx hb dL_law_399 rfl (lv_at hl 5 rfl) ?_
    refine lv_iload hx hb dL_law_400 (lv_at hl 1 rfl) ?_
    refine lv_iconst (v := 1) hx hb dL_law_402 (by decide) ?_
    refine lv_iadd hx hb dL_law_403 ?_
    refine k_nrm (y := (nI (i + 1))) (nI_add i 1) ?_
    refine va_sld hx hb hX hbl hbA hS (vp_in_nI (by omega) (by omega)) dL_law_404 ?_
    refine k_nrm (y := y1) ((by rw [nI_clamp (by omega)]; exact hy1.symm)) ?_
    have ct := k_cut_T (wp := [(mo, .inr (8, [.ref ms, .int (nI (h_kp hs)), .ref mb, .int (nI ty), .int th, .ref mk, .int ml, .ref mfd, .int mf, .int sp, .int on, .int tw])), (ms, .inl (K, 889, .inl sf)), (mk, .inl (K, 41, .inl lk)), (mfd, .inl (K, 9, .inl fd)), (mb, .inl (KC, 60, .inl cf)), ((a 25), .inr (4, [.ref (a 26), .int (nI ty)])), ((a 26), .inl (K, 60, .inl bf)), ((a 27), .inr (1, [.int pk, .int pf, .int ps, .int pn, .int pp, .int pm])), (out, .inl (KL, 1, .inr (.inl ofn)))]) (T := (WW a K KS st hs sc)) (wc := [(mo, .inr (8, [.ref ms, .int (nI (h_kp hs)), .ref mb, .int (nI ty), .int th, .ref mk, .int ml, .ref mfd, .int mf, .int sp, .int on, .int tw])), (ms, .inl (K, 889, .inl sf))]) (wr := [(mk, .inl (K, 41, .inl lk)), (mfd, .inl (K, 9, .inl fd)), (mb, .inl (KC, 60, .inl cf)), ((a 25), .inr (4, [.ref (a 26), .int (nI ty)])), ((a 26), .inl (K, 60, .inl bf)), ((a 27), .inr (1, [.int pk, .int pf, .int ps, .int pn, .int pp, .int pm])), (out, .inl (KL, 1, .inr (.inl ofn)))]) (tc := [(K, .int)]) hG hS hA hK hP hD [0, 1] [2, 3, 4, 5, 6, 7, 8] [0] rfl rfl (by decide) (by decide) (by decide) rfl
    refine k_endi (As := [.ref mo, .int y1]) ct (k_runV (As := [.int y1]) (rest := []) S0 Lv_L_99 rfl (ci := 8) (q0 := 0) rfl rfl ct (c_M_labelDigitX l D mo ms (nI (h_kp hs)) mb (nI ty) th mk ml mfd mf sp on tw K sf st y1 (by assumption) (by assumption) (by assumption) H.size) hl.1 rfl (Nat.le_of_ble_eq_true rfl) rfl dL_law_405 ⟨⟨Nat.le_of_ble_eq_true rfl, Nat.le_of_ble_eq_true rfl⟩, (show C9 + 1 ≤ 601024 by omega), (show S9 + 6 ≤ 7293034 by omega)⟩) rfl rfl (fun r_3 _ H locs hw_4 hP hD hK hS => ?_)
    have hP : va_P D vwCl ((mk, .inl (K, 41, .inl lk)) :: (mfd, .inl (K, 9, .inl fd)) :: (mb, .inl (KC, 60, .inl cf)) :: ((a 25), .inr (4, [.ref (a 26), .int (nI ty)])) :: ((a 26), .inl (K, 60, .inl bf)) :: ((a 27), .inr (1, [.int pk, .int pf, .int ps, .int pn, .int pp, .int pm])) :: (out, .inl (KL, 1, .inr (.inl ofn))) :: (mo, .inr (8, [.ref ms, .int (nI (h_kp hs)), .ref mb, .int (nI ty), .int 1, .ref mk, .int ml, .ref mfd, .int mf, .int sp, .int on, .int tw])) :: (ms, .inl (K, 889, .inl sf)) :: (WW a K KS st hs sc)) H := k_swapP (a := [(mk, .inl (K, 41, .inl lk)), (mfd, .inl (K, 9, .inl fd)), (mb, .inl (KC, 60, .inl cf)), ((a 25), .inr (4, [.ref (a 26), .int (nI ty)])), ((a 26), .inl (K, 60, .inl bf)), ((a 27), .inr (1, [.int pk, .int pf, .int ps, .int pn, .int pp, .int pm])), (out, .inl (KL, 1, .inr (.inl ofn)))]) (b := (WW a K KS st hs sc)) (c := [(mo, .inr (8, [.ref ms, .int (nI (h_kp hs)), .ref mb, .int (nI ty), .int 1, .ref mk, .int ml, .ref mfd, .int mf, .int sp, .int on, .int tw])), (ms, .inl (K, 889, .inl sf))]) hP
    have hD : va_D A ((mk, .inl (K, 41, .inl lk)) :: (mfd, .inl (K, 9, .inl fd)) :: (mb, .inl (KC, 60, .inl cf)) :: ((a 25), .inr (4, [.ref (a 26), .int (nI ty)])) :: ((a 26), .inl (K, 60, .inl bf)) :: ((a 27), .inr (1, [.int pk, .int pf, .int ps, .int pn, .int pp, .int pm])) :: (out, .inl (KL, 1, .inr (.inl ofn))) :: (mo, .inr (8, [.ref ms, .int (nI (h_kp hs)), .ref mb, .int (nI ty), .int 1, .ref mk, .int ml, .ref mfd, .int mf, .int sp, .int on, .int tw])) :: (ms, .inl (K, 889, .inl sf)) :: (WW a K KS st hs sc)) := va_D.swap (a := [(mk, .inl (K, 41, .inl lk)), (mfd, .inl (K, 9, .inl fd)), (mb, .inl (KC, 60, .inl cf)), ((a 25), .inr (4, [.ref (a 26), .int (nI ty)])), ((a 26), .inl (K, 60, .inl bf)), ((a 27), .inr (1, [.int pk, .int pf, .int ps, .int pn, .int pp, .int pm])), (out, .inl (KL, 1, .inr (.inl ofn)))]) (b := (WW a K KS st hs sc)) (c := [(mo, .inr (8, [.ref ms, .int (nI (h_kp hs)), .ref mb, .int (nI ty), .int 1, .ref mk, .int ml, .ref mfd, .int mf, .int sp, .int on, .int tw])), (ms, .inl (K, 889, .inl sf))]) hD
    have hK : va_K D vwCl [(K, .int), (KS, .object "BarcodeWand$State"), (KL, .long), (KC, .char)] s := hK
    have hP : va_P D vwCl ((mk, .inl (K, 41, .inl lk)) :: (mfd, .inl (K, 9, .inl fd)) :: (mb, .inl (KC, 60, .inl cf)) :: ((a 25), .inr (4, [.ref (a 26), .int (nI ty)])) :: ((a 26), .inl (K, 60, .inl bf)) :: ((a 27), .inr (1, [.int pk, .int pf, .int ps, .int pn, .int pp, .int pm])) :: (out, .inl (KL, 1, .inr (.inl ofn))) :: (mo, .inr (8, [.ref ms, .int (nI (h_kp hs)), .ref mb, .int (nI ty), .int 1, .ref mk, .int ml, .ref mfd, .int mf, .int sp, .int on, .int tw])) :: (ms, .inl (K, 889, .inl sf)) :: (WW a K KS st hs sc)) H := hP
    have hD : va_D A ((mk, .inl (K, 41, .inl lk)) :: (mfd, .inl (K, 9, .inl fd)) :: (mb, .inl (KC, 60, .inl cf)) :: ((a 25), .inr (4, [.ref (a 26), .int (nI ty)])) :: ((a 26), .inl (K, 60, .inl bf)) :: ((a 27), .inr (1, [.int pk, .int pf, .int ps, .int pn, .int pp, .int pm])) :: (out, .inl (KL, 1, .inr (.inl ofn))) :: (mo, .inr (8, [.ref ms, .int (nI (h_kp hs)), .ref mb, .int (nI ty), .int 1, .ref mk, .int ml, .ref mfd, .int mf, .int sp, .int on, .int tw])) :: (ms, .inl (K, 889, .inl sf)) :: (WW a K KS st hs sc)) := hD
    have hw_4 : r_3 = (0) := hw_4
    have hw_4 := hw_4.symm
    subst hw_4
    refine k_nrm (y := 0) rfl ?_
    refine lv_istore (lv' := [(6, .int 0), (5, .int 1), (4, .int (nI i)), (3, .ref out), (2, .ref mo), (1, .ref (a 0)), (0, .ref b)]) hx hb dL_law_408 hl (by decide) rfl (fun ls hl => ?_)
    refine lv_aload_n hx hb dL_law_410 rfl (lv_at hl 4 rfl) ?_
    have ct := k_cut_T (wp := [(mk, .inl (K, 41, .inl lk)), (mfd, .inl (K, 9, .inl fd)), (mb, .inl (KC, 60, .inl cf)), ((a 25), .inr (4, [.ref (a 26), .int (nI ty)])), ((a 26), .inl (K, 60, .inl bf)), ((a 27), .inr (1, [.int pk, .int pf, .int ps, .int pn, .int pp, .int pm])), (out, .inl (KL, 1, .inr (.inl ofn))), (mo, .inr (8, [.ref ms, .int (nI (h_kp hs)), .ref mb, .int (nI ty), .int 1, .ref mk, .int ml, .ref mfd, .int mf, .int sp, .int on, .int tw])), (ms, .inl (K, 889, .inl sf))]) (T := (WW a K KS st hs sc)) (wc := [(mo, .inr (8, [.ref ms, .int (nI (h_kp hs)), .ref mb, .int (nI ty), .int 1, .ref mk, .int ml, .ref mfd, .int mf, .int sp, .int on, .int tw]))]) (wr := [(mk, .inl (K, 41, .inl lk)), (mfd, .inl (K, 9, .inl fd)), (mb, .inl (KC, 60, .inl cf)), ((a 25), .inr (4, [.ref (a 26), .int (nI ty)])), ((a 26), .inl (K, 60, .inl bf)), ((a 27), .inr (1, [.int pk, .int pf, .int ps, .int pn, .int pp, .int pm])), (out, .inl (KL, 1, .inr (.inl ofn))), (ms, .inl (K, 889, .inl sf))]) (tc := []) hG hS hA hK hP hD [7] [0, 1, 2, 3, 4, 5, 6, 8] [] rfl rfl (by decide) (by decide) (by decide) rfl
    refine k_endi (As := [.ref mo]) ct (k_runV (As := []) (rest := []) S0 Lv_L_83 rfl (ci := 8) (q0 := 0) rfl rfl ct (c_M_thrown l D mo ms (nI (h_kp hs)) mb (nI ty) 1 mk ml mfd mf sp on tw H.size) hl.1 rfl (Nat.le_of_ble_eq_true rfl) rfl dL_law_411 ⟨⟨Nat.le_of_ble_eq_true rfl, Nat.le_of_ble_eq_true rfl⟩, (show C9 + 1 ≤ 601024 by omega), (show S9 + 6 ≤ 7293034 by omega)⟩) rfl rfl (fun r_5 _ H locs hw_6 hP hD hK hS => ?_)
    have hP : va_P D vwCl ((mk, .inl (K, 41, .inl lk)) :: (mfd, .inl (K, 9, .inl fd)) :: (mb, .inl (KC, 60, .inl cf)) :: ((a 25), .inr (4, [.ref (a 26), .int (nI ty)])) :: ((a 26), .inl (K, 60, .inl bf)) :: ((a 27), .inr (1, [.int pk, .int pf, .int ps, .int pn, .int pp, .int pm])) :: (out, .inl (KL, 1, .inr (.inl ofn))) :: (ms, .inl (K, 889, .inl sf)) :: (mo, .inr (8, [.ref ms, .int (nI (h_kp hs)), .ref mb, .int (nI ty), .int 1, .ref mk, .int ml, .ref mfd, .int mf, .int sp, .int on, .int tw])) :: (WW a K KS st hs sc)) H := k_swapP (a := [(mk, .inl (K, 41, .inl lk)), (mfd, .inl (K, 9, .inl fd)), (mb, .inl (KC, 60, .inl cf)), ((a 25), .inr (4, [.ref (a 26), .int (nI ty)])), ((a 26), .inl (K, 60, .inl bf)), ((a 27), .inr (1, [.int pk, .int pf, .int ps, .int pn, .int pp, .int pm])), (out, .inl (KL, 1, .inr (.inl ofn))), (ms, .inl (K, 889, .inl sf))]) (b := (WW a K KS st hs sc)) (c := [(mo, .inr (8, [.ref ms, .int (nI (h_kp hs)), .ref mb, .int (nI ty), .int 1, .ref mk, .int ml, .ref mfd, .int mf, .int sp, .int on, .int tw]))]) hP
    have hD : va_D A ((mk, .inl (K, 41, .inl lk)) :: (mfd, .inl (K, 9, .inl fd)) :: (mb, .inl (KC, 60, .inl cf)) :: ((a 25), .inr (4, [.ref (a 26), .int (nI ty)])) :: ((a 26), .inl (K, 60, .inl bf)) :: ((a 27), .inr (1, [.int pk, .int pf, .int ps, .int pn, .int pp, .int pm])) :: (out, .inl (KL, 1, .inr (.inl ofn))) :: (ms, .inl (K, 889, .inl sf)) :: (mo, .inr (8, [.ref ms, .int (nI (h_kp hs)), .ref mb, .int (nI ty), .int 1, .ref mk, .int ml, .ref mfd, .int mf, .int sp, .int on, .int tw])) :: (WW a K KS st hs sc)) := va_D.swap (a := [(mk, .inl (K, 41, .inl lk)), (mfd, .inl (K, 9, .inl fd)), (mb, .inl (KC, 60, .inl cf)), ((a 25), .inr (4, [.ref (a 26), .int (nI ty)])), ((a 26), .inl (K, 60, .inl bf)), ((a 27), .inr (1, [.int pk, .int pf, .int ps, .int pn, .int pp, .int pm])), (out, .inl (KL, 1, .inr (.inl ofn))), (ms, .inl (K, 889, .inl sf))]) (b := (WW a K KS st hs sc)) (c := [(mo, .inr (8, [.ref ms, .int (nI (h_kp hs)), .ref mb, .int (nI ty), .int 1, .ref mk, .int ml, .ref mfd, .int mf, .int sp, .int on, .int tw]))]) hD
    have hK : va_K D vwCl [(K, .int), (KS, .object "BarcodeWand$State"), (KL, .long), (KC, .char)] s := hK
    have hP : va_P D vwCl ((mk, .inl (K, 41, .inl lk)) :: (mfd, .inl (K, 9, .inl fd)) :: (mb, .inl (KC, 60, .inl cf)) :: ((a 25), .inr (4, [.ref (a 26), .int (nI ty)])) :: ((a 26), .inl (K, 60, .inl bf)) :: ((a 27), .inr (1, [.int pk, .int pf, .int ps, .int pn, .int pp, .int pm])) :: (out, .inl (KL, 1, .inr (.inl ofn))) :: (ms, .inl (K, 889, .inl sf)) :: (mo, .inr (8, [.ref ms, .int (nI (h_kp hs)), .ref mb, .int (nI ty), .int 1, .ref mk, .int ml, .ref mfd, .int mf, .int sp, .int on, .int tw])) :: (WW a K KS st hs sc)) H := hP
    have hD : va_D A ((mk, .inl (K, 41, .inl lk)) :: (mfd, .inl (K, 9, .inl fd)) :: (mb, .inl (KC, 60, .inl cf)) :: ((a 25), .inr (4, [.ref (a 26), .int (nI ty)])) :: ((a 26), .inl (K, 60, .inl bf)) :: ((a 27), .inr (1, [.int pk, .int pf, .int ps, .int pn, .int pp, .int pm])) :: (out, .inl (KL, 1, .inr (.inl ofn))) :: (ms, .inl (K, 889, .inl sf)) :: (mo, .inr (8, [.ref ms, .int (nI (h_kp hs)), .ref mb, .int (nI ty), .int 1, .ref mk, .int ml, .ref mfd, .int mf, .int sp, .int on, .int tw])) :: (WW a K KS st hs sc)) := hD
    have hw_6 : r_5 = 1 := hw_6
    have hw_6 := hw_6.symm
    subst hw_6
    refine k_nrm (y := 1) rfl ?_
    refine lv_iload hx hb dL_law_414 (lv_at hl 1 rfl) ?_
    refine lv_icmp_eq (tgt := 421) hx hb dL_law_416 (by decide) (fun _ => ?_) (fun c9 => absurd (by decide) c9)
    refine lv_iload hx hb dL_law_421 (lv_at hl 1 rfl) ?_
    refine lv_if_ne (tgt := 438) hx hb dL_law_423 (by decide) (fun _ => ?_) (fun c9 => absurd c9 (by decide))
    refine lv_goto (tgt := 1479) hx hb dL_law_438 (by decide) ?_
    have hP9 : va_P D vwCl ((mo, .inr (8, [.ref ms, .int (nI (h_kp hs)), .ref mb, .int (nI ty), .int 1, .ref mk, .int ml, .ref mfd, .int mf, .int sp, .int on, .int tw])) :: (ms, .inl (K, 889, .inl sf)) :: (mk, .inl (K, 41, .inl lk)) :: (mfd, .inl (K, 9, .inl fd)) :: (mb, .inl (KC, 60, .inl cf)) :: ((a 25), .inr (4, [.ref (a 26), .int (nI ty)])) :: ((a 26), .inl (K, 60, .inl bf)) :: ((a 27), .inr (1, [.int pk, .int pf, .int ps, .int pn, .int pp, .int pm])) :: (out, .inl (KL, 1, .inr (.inl ofn))) :: (WW a K KS st hs sc)) H := k_subP (wp := [(mk, .inl (K, 41, .inl lk)), (mfd, .inl (K, 9, .inl fd)), (mb, .inl (KC, 60, .inl cf)), ((a 25), .inr (4, [.ref (a 26), .int (nI ty)])), ((a 26), .inl (K, 60, .inl bf)), ((a 27), .inr (1, [.int pk, .int pf, .int ps, .int pn, .int pp, .int pm])), (out, .inl (KL, 1, .inr (.inl ofn))), (ms, .inl (K, 889, .inl sf)), (mo, .inr (8, [.ref ms, .int (nI (h_kp hs)), .ref mb, .int (nI ty), .int 1, .ref mk, .int ml, .ref mfd, .int mf, .int sp, .int on, .int tw]))]) (wp' := [(mo, .inr (8, [.ref ms, .int (nI (h_kp hs)), .ref mb, .int (nI ty), .int 1, .ref mk, .int ml, .ref mfd, .int mf, .int sp, .int on, .int tw])), (ms, .inl (K, 889, .inl sf)), (mk, .inl (K, 41, .inl lk)), (mfd, .inl (K, 9, .inl fd)), (mb, .inl (KC, 60, .inl cf)), ((a 25), .inr (4, [.ref (a 26), .int (nI ty)])), ((a 26), .inl (K, 60, .inl bf)), ((a 27), .inr (1, [.int pk, .int pf, .int ps, .int pn, .int pp, .int pm])), (out, .inl (KL, 1, .inr (.inl ofn)))]) (T := (WW a K KS st hs sc)) hP [8, 7, 0, 1, 2, 3, 4, 5, 6] rfl
    have hD9 : va_D A ((mo, .inr (8, [.ref ms, .int (nI (h_kp hs)), .ref mb, .int (nI ty), .int 1, .ref mk, .int ml, .ref mfd, .int mf, .int sp, .int on, .int tw])) :: (ms, .inl (K, 889, .inl sf)) :: (mk, .inl (K, 41, .inl lk)) :: (mfd, .inl (K, 9, .inl fd)) :: (mb, .inl (KC, 60, .inl cf)) :: ((a 25), .inr (4, [.ref (a 26), .int (nI ty)])) :: ((a 26), .inl (K, 60, .inl bf)) :: ((a 27), .inr (1, [.int pk, .int pf, .int ps, .int pn, .int pp, .int pm])) :: (out, .inl (KL, 1, .inr (.inl ofn))) :: (WW a K KS st hs sc)) := k_subD (wp := [(mk, .inl (K, 41, .inl lk)), (mfd, .inl (K, 9, .inl fd)), (mb, .inl (KC, 60, .inl cf)), ((a 25), .inr (4, [.ref (a 26), .int (nI ty)])), ((a 26), .inl (K, 60, .inl bf)), ((a 27), .inr (1, [.int pk, .int pf, .int ps, .int pn, .int pp, .int pm])), (out, .inl (KL, 1, .inr (.inl ofn))), (ms, .inl (K, 889, .inl sf)), (mo, .inr (8, [.ref ms, .int (nI (h_kp hs)), .ref mb, .int (nI ty), .int 1, .ref mk, .int ml, .ref mfd, .int mf, .int sp, .int on, .int tw]))]) (wp' := [(mo, .inr (8, [.ref ms, .int (nI (h_kp hs)), .ref mb, .int (nI ty), .int 1, .ref mk, .int ml, .ref mfd, .int mf, .int sp, .int on, .int tw])), (ms, .inl (K, 889, .inl sf)), (mk, .inl (K, 41, .inl lk)), (mfd, .inl (K, 9, .inl fd)), (mb, .inl (KC, 60, .inl cf)), ((a 25), .inr (4, [.ref (a 26), .int (nI ty)])), ((a 26), .inl (K, 60, .inl bf)), ((a 27), .inr (1, [.int pk, .int pf, .int ps, .int pn, .int pp, .int pm])), (out, .inl (KL, 1, .inr (.inl ofn)))]) (T := (WW a K KS st hs sc)) hD [8, 7, 0, 1, 2, 3, 4, 5, 6] (by decide) rfl
    subst hAe
    refine W.widen (k := Cn) (n := Sn) (by omega) (by omega) ?_
    exact next st hs sc sf lk fd bf cf ofn ty 1 ml mf sp on tw pk pf ps pn pp pm H locs ls hLW hBU hP9 hD9 hS (lv_sub hl [2, 3, 4, 5, 6] rfl)
  · skip
    refine lv_aload_n hx hb dL_law_385 rfl (lv_at hl 3 rfl) ?_
    refine lv_aload_n hx hb dL_law_386 rfl (lv_at hl 4 rfl) ?_
    refine lv_iload hx hb dL_law_387 (lv_at hl 0 rfl) ?_
    refine lv_iconst (v := 1) hx hb dL_law_389 (by decide) ?_
    refine lv_iadd hx hb dL_law_390 ?_
    refine k_nrm (y := (nI (i + 1))) (nI_add i 1) ?_
    refine va_sld hx hb hX hbl hbA hS (vp_in_nI (by omega) (by omega)) dL_law_391 ?_
    refine k_nrm (y := (nI en)) ((by rw [nI_clamp (by omega)]; exact hy1.symm)) ?_
    refine lv_aload_n hx hb dL_law_392 rfl (lv_at hl 1 rfl) ?_
    have ct := k_cut_TT (wp := [(mo, .inr (8, [.ref ms, .int (nI (h_kp hs)), .ref mb, .int (nI ty), .int th, .ref mk, .int ml, .ref mfd, .int mf, .int sp, .int on, .int tw])), (ms, .inl (K, 889, .inl sf)), (mk, .inl (K, 41, .inl lk)), (mfd, .inl (K, 9, .inl fd)), (mb, .inl (KC, 60, .inl cf)), ((a 25), .inr (4, [.ref (a 26), .int (nI ty)])), ((a 26), .inl (K, 60, .inl bf)), ((a 27), .inr (1, [.int pk, .int pf, .int ps, .int pn, .int pp, .int pm])), (out, .inl (KL, 1, .inr (.inl ofn)))]) (T := (WW a K KS st hs sc)) (wc := [(out, .inl (KL, 1, .inr (.inl ofn)))]) (wr := [(mo, .inr (8, [.ref ms, .int (nI (h_kp hs)), .ref mb, .int (nI ty), .int th, .ref mk, .int ml, .ref mfd, .int mf, .int sp, .int on, .int tw])), (ms, .inl (K, 889, .inl sf)), (mk, .inl (K, 41, .inl lk)), (mfd, .inl (K, 9, .inl fd)), (mb, .inl (KC, 60, .inl cf)), ((a 25), .inr (4, [.ref (a 26), .int (nI ty)])), ((a 26), .inl (K, 60, .inl bf)), ((a 27), .inr (1, [.int pk, .int pf, .int ps, .int pn, .int pp, .int pm]))]) (tc := [(K, .int), (KS, .object "BarcodeWand$State"), (KL, .long)]) hG hS hA hK hP hD [8] [0, 1, 2, 3, 4, 5, 6, 7] [0, 1, 2] rfl rfl (by decide) (by decide) (by decide) rfl
    refine k_endi (As := [.ref (a 0), .int (nI en), .ref out]) ct (k_runSW (As := [.ref (a 0), .int (nI en), .ref out]) (rest := []) S0 Ls_L_97 ct (c_L_labelDigit l D a K KS st hs sc (nI en) out KL ofn (inR_in hen (by omega)) H.size) hl.1 rfl (Nat.le_of_ble_eq_true rfl) rfl dL_law_393 ⟨⟨Nat.le_of_ble_eq_true rfl, Nat.le_of_ble_eq_true rfl⟩, (show C9 ≤ 601024 by omega), (show S9 ≤ 7293034 by omega)⟩) rfl rfl (fun r_7 u H locs hw_10 hP hD hK hS => ?_)
    obtain ⟨og_8, rv_9⟩ := u
    have hK : va_K D vwCl [(K, .int), (KS, .object "BarcodeWand$State"), (KL, .long), (KC, .char)] s := hK
    have hP : va_P D vwCl ((mo, .inr (8, [.ref ms, .int (nI (h_kp hs)), .ref mb, .int (nI ty), .int th, .ref mk, .int ml, .ref mfd, .int mf, .int sp, .int on, .int tw])) :: (ms, .inl (K, 889, .inl sf)) :: (mk, .inl (K, 41, .inl lk)) :: (mfd, .inl (K, 9, .inl fd)) :: (mb, .inl (KC, 60, .inl cf)) :: ((a 25), .inr (4, [.ref (a 26), .int (nI ty)])) :: ((a 26), .inl (K, 60, .inl bf)) :: ((a 27), .inr (1, [.int pk, .int pf, .int ps, .int pn, .int pp, .int pm])) :: (out, .inl (KL, 1, .inr (.inl og_8))) :: (WW a K KS st hs sc)) H := hP
    have hD : va_D A ((mo, .inr (8, [.ref ms, .int (nI (h_kp hs)), .ref mb, .int (nI ty), .int th, .ref mk, .int ml, .ref mfd, .int mf, .int sp, .int on, .int tw])) :: (ms, .inl (K, 889, .inl sf)) :: (mk, .inl (K, 41, .inl lk)) :: (mfd, .inl (K, 9, .inl fd)) :: (mb, .inl (KC, 60, .inl cf)) :: ((a 25), .inr (4, [.ref (a 26), .int (nI ty)])) :: ((a 26), .inl (K, 60, .inl bf)) :: ((a 27), .inr (1, [.int pk, .int pf, .int ps, .int pn, .int pp, .int pm])) :: (out, .inl (KL, 1, .inr (.inl og_8))) :: (WW a K KS st hs sc)) := hD
    rcases hw_10 with ⟨rfl, rfl, c_11⟩
    · skip
      refine lv_istore (lv' := [(5, .int 0), (4, .int (nI i)), (3, .ref out), (2, .ref mo), (1, .ref (a 0)), (0, .ref b)]) hx hb dL_law_396 hl (by decide) rfl (fun ls hl => ?_)
      refine lv_aload_n hx hb dL_law_398 rfl (lv_at hl 3 rfl) ?_
      refine lv_aload_n hx hb dL_law_399 rfl (lv_at hl 5 rfl) ?_
      refine lv_iload hx hb dL_law_400 (lv_at hl 1 rfl) ?_
      refine lv_iconst (v := 1) hx hb dL_law_402 (by decide) ?_
      refine lv_iadd hx hb dL_law_403 ?_
      refine k_nrm (y := (nI (i + 1))) (nI_add i 1) ?_
      refine va_sld hx hb hX hbl hbA hS (vp_in_nI (by omega) (by omega)) dL_law_404 ?_
      refine k_nrm (y := (nI en)) ((by rw [nI_clamp (by omega)]; exact hy1.symm)) ?_
      have ct := k_cut_T (wp := [(mo, .inr (8, [.ref ms, .int (nI (h_kp hs)), .ref mb, .int (nI ty), .int th, .ref mk, .int ml, .ref mfd, .int mf, .int sp, .int on, .int tw])), (ms, .inl (K, 889, .inl sf)), (mk, .inl (K, 41, .inl lk)), (mfd, .inl (K, 9, .inl fd)), (mb, .inl (KC, 60, .inl cf)), ((a 25), .inr (4, [.ref (a 26), .int (nI ty)])), ((a 26), .inl (K, 60, .inl bf)), ((a 27), .inr (1, [.int pk, .int pf, .int ps, .int pn, .int pp, .int pm])), (out, .inl (KL, 1, .inr (.inl og_8)))]) (T := (WW a K KS st hs sc)) (wc := [(mo, .inr (8, [.ref ms, .int (nI (h_kp hs)), .ref mb, .int (nI ty), .int th, .ref mk, .int ml, .ref mfd, .int mf, .int sp, .int on, .int tw])), (ms, .inl (K, 889, .inl sf))]) (wr := [(mk, .inl (K, 41, .inl lk)), (mfd, .inl (K, 9, .inl fd)), (mb, .inl (KC, 60, .inl cf)), ((a 25), .inr (4, [.ref (a 26), .int (nI ty)])), ((a 26), .inl (K, 60, .inl bf)), ((a 27), .inr (1, [.int pk, .int pf, .int ps, .int pn, .int pp, .int pm])), (out, .inl (KL, 1, .inr (.inl og_8)))]) (tc := [(K, .int)]) hG hS hA hK hP hD [0, 1] [2, 3, 4, 5, 6, 7, 8] [0] rfl rfl (by decide) (by decide) (by decide) rfl
      refine k_endi (As := [.ref mo, .int (nI en)]) ct (k_runV (As := [.int (nI en)]) (rest := []) S0 Lv_L_99 rfl (ci := 8) (q0 := 0) rfl rfl ct (c_M_labelDigit l D mo ms (nI (h_kp hs)) mb (nI ty) th mk ml mfd mf sp on tw K sf st en (by assumption) (by assumption) hen H.size) hl.1 rfl (Nat.le_of_ble_eq_true rfl) rfl dL_law_405 ⟨⟨Nat.le_of_ble_eq_true rfl, Nat.le_of_ble_eq_true rfl⟩, (show C9 ≤ 601024 by omega), (show S9 ≤ 7293034 by omega)⟩) rfl rfl (fun r_12 _ H locs hw_13 hP hD hK hS => ?_)
      have hP : va_P D vwCl ((mk, .inl (K, 41, .inl lk)) :: (mfd, .inl (K, 9, .inl fd)) :: (mb, .inl (KC, 60, .inl cf)) :: ((a 25), .inr (4, [.ref (a 26), .int (nI ty)])) :: ((a 26), .inl (K, 60, .inl bf)) :: ((a 27), .inr (1, [.int pk, .int pf, .int ps, .int pn, .int pp, .int pm])) :: (out, .inl (KL, 1, .inr (.inl og_8))) :: (mo, .inr (8, [.ref ms, .int (nI (h_kp hs)), .ref mb, .int (nI ty), .int 0, .ref mk, .int ml, .ref mfd, .int mf, .int sp, .int on, .int tw])) :: (ms, .inl (K, 889, .inl sf)) :: (WW a K KS st hs sc)) H := k_swapP (a := [(mk, .inl (K, 41, .inl lk)), (mfd, .inl (K, 9, .inl fd)), (mb, .inl (KC, 60, .inl cf)), ((a 25), .inr (4, [.ref (a 26), .int (nI ty)])), ((a 26), .inl (K, 60, .inl bf)), ((a 27), .inr (1, [.int pk, .int pf, .int ps, .int pn, .int pp, .int pm])), (out, .inl (KL, 1, .inr (.inl og_8)))]) (b := (WW a K KS st hs sc)) (c := [(mo, .inr (8, [.ref ms, .int (nI (h_kp hs)), .ref mb, .int (nI ty), .int 0, .ref mk, .int ml, .ref mfd, .int mf, .int sp, .int on, .int tw])), (ms, .inl (K, 889, .inl sf))]) hP
      have hD : va_D A ((mk, .inl (K, 41, .inl lk)) :: (mfd, .inl (K, 9, .inl fd)) :: (mb, .inl (KC, 60, .inl cf)) :: ((a 25), .inr (4, [.ref (a 26), .int (nI ty)])) :: ((a 26), .inl (K, 60, .inl bf)) :: ((a 27), .inr (1, [.int pk, .int pf, .int ps, .int pn, .int pp, .int pm])) :: (out, .inl (KL, 1, .inr (.inl og_8))) :: (mo, .inr (8, [.ref ms, .int (nI (h_kp hs)), .ref mb, .int (nI ty), .int 0, .ref mk, .int ml, .ref mfd, .int mf, .int sp, .int on, .int tw])) :: (ms, .inl (K, 889, .inl sf)) :: (WW a K KS st hs sc)) := va_D.swap (a := [(mk, .inl (K, 41, .inl lk)), (mfd, .inl (K, 9, .inl fd)), (mb, .inl (KC, 60, .inl cf)), ((a 25), .inr (4, [.ref (a 26), .int (nI ty)])), ((a 26), .inl (K, 60, .inl bf)), ((a 27), .inr (1, [.int pk, .int pf, .int ps, .int pn, .int pp, .int pm])), (out, .inl (KL, 1, .inr (.inl og_8)))]) (b := (WW a K KS st hs sc)) (c := [(mo, .inr (8, [.ref ms, .int (nI (h_kp hs)), .ref mb, .int (nI ty), .int 0, .ref mk, .int ml, .ref mfd, .int mf, .int sp, .int on, .int tw])), (ms, .inl (K, 889, .inl sf))]) hD
      have hK : va_K D vwCl [(K, .int), (KS, .object "BarcodeWand$State"), (KL, .long), (KC, .char)] s := hK
      have hP : va_P D vwCl ((mk, .inl (K, 41, .inl lk)) :: (mfd, .inl (K, 9, .inl fd)) :: (mb, .inl (KC, 60, .inl cf)) :: ((a 25), .inr (4, [.ref (a 26), .int (nI ty)])) :: ((a 26), .inl (K, 60, .inl bf)) :: ((a 27), .inr (1, [.int pk, .int pf, .int ps, .int pn, .int pp, .int pm])) :: (out, .inl (KL, 1, .inr (.inl og_8))) :: (mo, .inr (8, [.ref ms, .int (nI (h_kp hs)), .ref mb, .int (nI ty), .int 0, .ref mk, .int ml, .ref mfd, .int mf, .int sp, .int on, .int tw])) :: (ms, .inl (K, 889, .inl sf)) :: (WW a K KS st hs sc)) H := hP
      have hD : va_D A ((mk, .inl (K, 41, .inl lk)) :: (mfd, .inl (K, 9, .inl fd)) :: (mb, .inl (KC, 60, .inl cf)) :: ((a 25), .inr (4, [.ref (a 26), .int (nI ty)])) :: ((a 26), .inl (K, 60, .inl bf)) :: ((a 27), .inr (1, [.int pk, .int pf, .int ps, .int pn, .int pp, .int pm])) :: (out, .inl (KL, 1, .inr (.inl og_8))) :: (mo, .inr (8, [.ref ms, .int (nI (h_kp hs)), .ref mb, .int (nI ty), .int 0, .ref mk, .int ml, .ref mfd, .int mf, .int sp, .int on, .int tw])) :: (ms, .inl (K, 889, .inl sf)) :: (WW a K KS st hs sc)) := hD
      have hw_13 : r_12 = (s_df st en) := hw_13
      have hw_13 := hw_13.symm
      subst hw_13
      refine k_nrm (y := (s_df st en)) rfl ?_
      refine lv_istore (lv' := [(6, .int (s_df st en)), (5, .int 0), (4, .int (nI i)), (3, .ref out), (2, .ref mo), (1, .ref (a 0)), (0, .ref b)]) hx hb dL_law_408 hl (by decide) rfl (fun ls hl => ?_)
      refine lv_aload_n hx hb dL_law_410 rfl (lv_at hl 4 rfl) ?_
      have ct := k_cut_T (wp := [(mk, .inl (K, 41, .inl lk)), (mfd, .inl (K, 9, .inl fd)), (mb, .inl (KC, 60, .inl cf)), ((a 25), .inr (4, [.ref (a 26), .int (nI ty)])), ((a 26), .inl (K, 60, .inl bf)), ((a 27), .inr (1, [.int pk, .int pf, .int ps, .int pn, .int pp, .int pm])), (out, .inl (KL, 1, .inr (.inl og_8))), (mo, .inr (8, [.ref ms, .int (nI (h_kp hs)), .ref mb, .int (nI ty), .int 0, .ref mk, .int ml, .ref mfd, .int mf, .int sp, .int on, .int tw])), (ms, .inl (K, 889, .inl sf))]) (T := (WW a K KS st hs sc)) (wc := [(mo, .inr (8, [.ref ms, .int (nI (h_kp hs)), .ref mb, .int (nI ty), .int 0, .ref mk, .int ml, .ref mfd, .int mf, .int sp, .int on, .int tw]))]) (wr := [(mk, .inl (K, 41, .inl lk)), (mfd, .inl (K, 9, .inl fd)), (mb, .inl (KC, 60, .inl cf)), ((a 25), .inr (4, [.ref (a 26), .int (nI ty)])), ((a 26), .inl (K, 60, .inl bf)), ((a 27), .inr (1, [.int pk, .int pf, .int ps, .int pn, .int pp, .int pm])), (out, .inl (KL, 1, .inr (.inl og_8))), (ms, .inl (K, 889, .inl sf))]) (tc := []) hG hS hA hK hP hD [7] [0, 1, 2, 3, 4, 5, 6, 8] [] rfl rfl (by decide) (by decide) (by decide) rfl
      refine k_endi (As := [.ref mo]) ct (k_runV (As := []) (rest := []) S0 Lv_L_83 rfl (ci := 8) (q0 := 0) rfl rfl ct (c_M_thrown l D mo ms (nI (h_kp hs)) mb (nI ty) 0 mk ml mfd mf sp on tw H.size) hl.1 rfl (Nat.le_of_ble_eq_true rfl) rfl dL_law_411 ⟨⟨Nat.le_of_ble_eq_true rfl, Nat.le_of_ble_eq_true rfl⟩, (show C9 ≤ 601024 by omega), (show S9 ≤ 7293034 by omega)⟩) rfl rfl (fun r_14 _ H locs hw_15 hP hD hK hS => ?_)
      have hP : va_P D vwCl ((mk, .inl (K, 41, .inl lk)) :: (mfd, .inl (K, 9, .inl fd)) :: (mb, .inl (KC, 60, .inl cf)) :: ((a 25), .inr (4, [.ref (a 26), .int (nI ty)])) :: ((a 26), .inl (K, 60, .inl bf)) :: ((a 27), .inr (1, [.int pk, .int pf, .int ps, .int pn, .int pp, .int pm])) :: (out, .inl (KL, 1, .inr (.inl og_8))) :: (ms, .inl (K, 889, .inl sf)) :: (mo, .inr (8, [.ref ms, .int (nI (h_kp hs)), .ref mb, .int (nI ty), .int 0, .ref mk, .int ml, .ref mfd, .int mf, .int sp, .int on, .int tw])) :: (WW a K KS st hs sc)) H := k_swapP (a := [(mk, .inl (K, 41, .inl lk)), (mfd, .inl (K, 9, .inl fd)), (mb, .inl (KC, 60, .inl cf)), ((a 25), .inr (4, [.ref (a 26), .int (nI ty)])), ((a 26), .inl (K, 60, .inl bf)), ((a 27), .inr (1, [.int pk, .int pf, .int ps, .int pn, .int pp, .int pm])), (out, .inl (KL, 1, .inr (.inl og_8))), (ms, .inl (K, 889, .inl sf))]) (b := (WW a K KS st hs sc)) (c := [(mo, .inr (8, [.ref ms, .int (nI (h_kp hs)), .ref mb, .int (nI ty), .int 0, .ref mk, .int ml, .ref mfd, .int mf, .int sp, .int on, .int tw]))]) hP
      have hD : va_D A ((mk, .inl (K, 41, .inl lk)) :: (mfd, .inl (K, 9, .inl fd)) :: (mb, .inl (KC, 60, .inl cf)) :: ((a 25), .inr (4, [.ref (a 26), .int (nI ty)])) :: ((a 26), .inl (K, 60, .inl bf)) :: ((a 27), .inr (1, [.int pk, .int pf, .int ps, .int pn, .int pp, .int pm])) :: (out, .inl (KL, 1, .inr (.inl og_8))) :: (ms, .inl (K, 889, .inl sf)) :: (mo, .inr (8, [.ref ms, .int (nI (h_kp hs)), .ref mb, .int (nI ty), .int 0, .ref mk, .int ml, .ref mfd, .int mf, .int sp, .int on, .int tw])) :: (WW a K KS st hs sc)) := va_D.swap (a := [(mk, .inl (K, 41, .inl lk)), (mfd, .inl (K, 9, .inl fd)), (mb, .inl (KC, 60, .inl cf)), ((a 25), .inr (4, [.ref (a 26), .int (nI ty)])), ((a 26), .inl (K, 60, .inl bf)), ((a 27), .inr (1, [.int pk, .int pf, .int ps, .int pn, .int pp, .int pm])), (out, .inl (KL, 1, .inr (.inl og_8))), (ms, .inl (K, 889, .inl sf))]) (b := (WW a K KS st hs sc)) (c := [(mo, .inr (8, [.ref ms, .int (nI (h_kp hs)), .ref mb, .int (nI ty), .int 0, .ref mk, .int ml, .ref mfd, .int mf, .int sp, .int on, .int tw]))]) hD
      have hK : va_K D vwCl [(K, .int), (KS, .object "BarcodeWand$State"), (KL, .long), (KC, .char)] s := hK
      have hP : va_P D vwCl ((mk, .inl (K, 41, .inl lk)) :: (mfd, .inl (K, 9, .inl fd)) :: (mb, .inl (KC, 60, .inl cf)) :: ((a 25), .inr (4, [.ref (a 26), .int (nI ty)])) :: ((a 26), .inl (K, 60, .inl bf)) :: ((a 27), .inr (1, [.int pk, .int pf, .int ps, .int pn, .int pp, .int pm])) :: (out, .inl (KL, 1, .inr (.inl og_8))) :: (ms, .inl (K, 889, .inl sf)) :: (mo, .inr (8, [.ref ms, .int (nI (h_kp hs)), .ref mb, .int (nI ty), .int 0, .ref mk, .int ml, .ref mfd, .int mf, .int sp, .int on, .int tw])) :: (WW a K KS st hs sc)) H := hP
      have hD : va_D A ((mk, .inl (K, 41, .inl lk)) :: (mfd, .inl (K, 9, .inl fd)) :: (mb, .inl (KC, 60, .inl cf)) :: ((a 25), .inr (4, [.ref (a 26), .int (nI ty)])) :: ((a 26), .inl (K, 60, .inl bf)) :: ((a 27), .inr (1, [.int pk, .int pf, .int ps, .int pn, .int pp, .int pm])) :: (out, .inl (KL, 1, .inr (.inl og_8))) :: (ms, .inl (K, 889, .inl sf)) :: (mo, .inr (8, [.ref ms, .int (nI (h_kp hs)), .ref mb, .int (nI ty), .int 0, .ref mk, .int ml, .ref mfd, .int mf, .int sp, .int on, .int tw])) :: (WW a K KS st hs sc)) := hD
      have hw_15 : r_14 = 0 := hw_15
      have hw_15 := hw_15.symm
      subst hw_15
      refine k_nrm (y := 0) rfl ?_
      refine lv_iload hx hb dL_law_414 (lv_at hl 1 rfl) ?_
      refine lv_icmp_eq (tgt := 421) hx hb dL_law_416 (by decide) (fun _ => ?_) (fun c9 => absurd (by decide) c9)
      refine lv_iload hx hb dL_law_421 (lv_at hl 1 rfl) ?_
      refine lv_if_ne (tgt := 438) hx hb dL_law_423 (by decide) (fun c9 => absurd (by decide) c9) (fun _ => ?_)
      refine lv_aload_n hx hb dL_law_426 rfl (lv_at hl 3 rfl) ?_
      refine lv_iconst (v := 0) hx hb dL_law_427 (by decide) ?_
      refine va_lald hx hb hK hP 6 2 rfl rfl (by unfold vp_in; decide) dL_law_428 ?_
      refine k_nrml (y := (rowAt 9 (nI (s_nd st)) (s_df st) (nI en)).toInt64) (show og_8 (0 : Int32).toNatClampNeg = (rowAt 9 (nI (s_nd st)) (s_df st) (nI en)).toInt64 from c_11) ?_
      refine lv_iload hx hb dL_law_429 (lv_at hl 0 rfl) ?_
      refine lv_i2l (v := (s_df st en).toInt64) hx hb dL_law_431 rfl ?_
      refine W.lcmp hx hb dL_law_432 ?_
      refine k_nrm (y := 0) (lg_same rfl ((rowAt_lt hen (by omega) (by decide)).trans (Eq.refl _).symm)) ?_
      refine lv_if_eq (tgt := 438) hx hb dL_law_433 (by decide) (fun _ => ?_) (fun c9 => absurd (by decide) c9)
      refine lv_goto (tgt := 1479) hx hb dL_law_438 (by decide) ?_
      have hP9 : va_P D vwCl ((mo, .inr (8, [.ref ms, .int (nI (h_kp hs)), .ref mb, .int (nI ty), .int 0, .ref mk, .int ml, .ref mfd, .int mf, .int sp, .int on, .int tw])) :: (ms, .inl (K, 889, .inl sf)) :: (mk, .inl (K, 41, .inl lk)) :: (mfd, .inl (K, 9, .inl fd)) :: (mb, .inl (KC, 60, .inl cf)) :: ((a 25), .inr (4, [.ref (a 26), .int (nI ty)])) :: ((a 26), .inl (K, 60, .inl bf)) :: ((a 27), .inr (1, [.int pk, .int pf, .int ps, .int pn, .int pp, .int pm])) :: (out, .inl (KL, 1, .inr (.inl og_8))) :: (WW a K KS st hs sc)) H := k_subP (wp := [(mk, .inl (K, 41, .inl lk)), (mfd, .inl (K, 9, .inl fd)), (mb, .inl (KC, 60, .inl cf)), ((a 25), .inr (4, [.ref (a 26), .int (nI ty)])), ((a 26), .inl (K, 60, .inl bf)), ((a 27), .inr (1, [.int pk, .int pf, .int ps, .int pn, .int pp, .int pm])), (out, .inl (KL, 1, .inr (.inl og_8))), (ms, .inl (K, 889, .inl sf)), (mo, .inr (8, [.ref ms, .int (nI (h_kp hs)), .ref mb, .int (nI ty), .int 0, .ref mk, .int ml, .ref mfd, .int mf, .int sp, .int on, .int tw]))]) (wp' := [(mo, .inr (8, [.ref ms, .int (nI (h_kp hs)), .ref mb, .int (nI ty), .int 0, .ref mk, .int ml, .ref mfd, .int mf, .int sp, .int on, .int tw])), (ms, .inl (K, 889, .inl sf)), (mk, .inl (K, 41, .inl lk)), (mfd, .inl (K, 9, .inl fd)), (mb, .inl (KC, 60, .inl cf)), ((a 25), .inr (4, [.ref (a 26), .int (nI ty)])), ((a 26), .inl (K, 60, .inl bf)), ((a 27), .inr (1, [.int pk, .int pf, .int ps, .int pn, .int pp, .int pm])), (out, .inl (KL, 1, .inr (.inl og_8)))]) (T := (WW a K KS st hs sc)) hP [8, 7, 0, 1, 2, 3, 4, 5, 6] rfl
      have hD9 : va_D A ((mo, .inr (8, [.ref ms, .int (nI (h_kp hs)), .ref mb, .int (nI ty), .int 0, .ref mk, .int ml, .ref mfd, .int mf, .int sp, .int on, .int tw])) :: (ms, .inl (K, 889, .inl sf)) :: (mk, .inl (K, 41, .inl lk)) :: (mfd, .inl (K, 9, .inl fd)) :: (mb, .inl (KC, 60, .inl cf)) :: ((a 25), .inr (4, [.ref (a 26), .int (nI ty)])) :: ((a 26), .inl (K, 60, .inl bf)) :: ((a 27), .inr (1, [.int pk, .int pf, .int ps, .int pn, .int pp, .int pm])) :: (out, .inl (KL, 1, .inr (.inl og_8))) :: (WW a K KS st hs sc)) := k_subD (wp := [(mk, .inl (K, 41, .inl lk)), (mfd, .inl (K, 9, .inl fd)), (mb, .inl (KC, 60, .inl cf)), ((a 25), .inr (4, [.ref (a 26), .int (nI ty)])), ((a 26), .inl (K, 60, .inl bf)), ((a 27), .inr (1, [.int pk, .int pf, .int ps, .int pn, .int pp, .int pm])), (out, .inl (KL, 1, .inr (.inl og_8))), (ms, .inl (K, 889, .inl sf)), (mo, .inr (8, [.ref ms, .int (nI (h_kp hs)), .ref mb, .int (nI ty), .int 0, .ref mk, .int ml, .ref mfd, .int mf, .int sp, .int on, .int tw]))]) (wp' := [(mo, .inr (8, [.ref ms, .int (nI (h_kp hs)), .ref mb, .int (nI ty), .int 0, .ref mk, .int ml, .ref mfd, .int mf, .int sp, .int on, .int tw])), (ms, .inl (K, 889, .inl sf)), (mk, .inl (K, 41, .inl lk)), (mfd, .inl (K, 9, .inl fd)), (mb, .inl (KC, 60, .inl cf)), ((a 25), .inr (4, [.ref (a 26), .int (nI ty)])), ((a 26), .inl (K, 60, .inl bf)), ((a 27), .inr (1, [.int pk, .int pf, .int ps, .int pn, .int pp, .int pm])), (out, .inl (KL, 1, .inr (.inl og_8)))]) (T := (WW a K KS st hs sc)) hD [8, 7, 0, 1, 2, 3, 4, 5, 6] (by decide) rfl
      subst hAe
      refine W.widen (k := Cn) (n := Sn) (by omega) (by omega) ?_
      exact next st hs sc sf lk fd bf cf og_8 ty 0 ml mf sp on tw pk pf ps pn pp pm H locs ls hLW hBU hP9 hD9 hS (lv_sub hl [2, 3, 4, 5, 6] rfl)
set_option maxHeartbeats 8000000 in
set_option maxRecDepth 100000 in
theorem law_c5 {p : Program} {l : Launch} {e : Env} {s : State} {m : MethodId} {below : List Frame} {meth : Method} {c : Code} {b L : Nat} {xs : Nat → Int32} (hst : l.stackTraces = false) (D : va_G) (C0 : lw_At p s m meth c b L xs) (hG : k_G (fun q : Nat => s.heap.size ≤ q) s s.heap) {a : Nat → Nat} {K KS KL KC : ClassId} {mo ms mk mfd mb out : Nat} (hK : va_K D vwCl [(K, .int), (KS, .object "BarcodeWand$State"), (KL, .long), (KC, .char)] s) (hL : L ≤ 2048) {i : Nat} (hiL : i + 4 ≤ L) {C9 S9 Cn Sn : Nat} (hC9 : C9 + 1 ≤ Cn) (hS9 : S9 + 6 ≤ Sn) (hCn : Cn ≤ 601024) (hSn : Sn ≤ 7293034) (next : ∀ (st : ST) (hs : HT) (sc : SCT) (sf lk fd bf cf : Nat → Int32) (ofn : Nat → Int64) (ty : Nat) (th ml mf sp on tw pk pf ps pn pp pm : Int32) (H : Heap) (locs : List Loc) (ls : Array Slot), LAW st hs sf → BUR ty bf cf pm → va_P D vwCl ((mo, .inr (8, [.ref ms, .int (nI (h_kp hs)), .ref mb, .int (nI ty), .int th, .ref mk, .int ml, .ref mfd, .int mf, .int sp, .int on, .int tw])) :: (ms, .inl (K, 889, .inl sf)) :: (mk, .inl (K, 41, .inl lk)) :: (mfd, .inl (K, 9, .inl fd)) :: (mb, .inl (KC, 60, .inl cf)) :: ((a 25), .inr (4, [.ref (a 26), .int (nI ty)])) :: ((a 26), .inl (K, 60, .inl bf)) :: ((a 27), .inr (1, [.int pk, .int pf, .int ps, .int pn, .int pp, .int pm])) :: (out, .inl (KL, 1, .inr (.inl ofn))) :: (WW a K KS st hs sc)) H → va_D (fun q : Nat => s.heap.size ≤ q) ((mo, .inr (8, [.ref ms, .int (nI (h_kp hs)), .ref mb, .int (nI ty), .int th, .ref mk, .int ml, .ref mfd, .int mf, .int sp, .int on, .int tw])) :: (ms, .inl (K, 889, .inl sf)) :: (mk, .inl (K, 41, .inl lk)) :: (mfd, .inl (K, 9, .inl fd)) :: (mb, .inl (KC, 60, .inl cf)) :: ((a 25), .inr (4, [.ref (a 26), .int (nI ty)])) :: ((a 26), .inl (K, 60, .inl bf)) :: ((a 27), .inr (1, [.int pk, .int pf, .int ps, .int pn, .int pp, .int pm])) :: (out, .inl (KL, 1, .inr (.inl ofn))) :: (WW a K KS st hs sc)) → va_S (fun q : Nat => s.heap.size ≤ q) s.heap H locs → lv_has ls 7 [(4, .int (nI i)), (3, .ref out), (2, .ref mo), (1, .ref (a 0)), (0, .ref b)] → W p l e room_1 s m #[Value.ref b] below meth c H locs Cn Sn (lw_Z below #[Value.ref b] s) (F0 m 1479 ls [])) (st : ST) (hs : HT) (sc : SCT) (sf lk fd bf cf : Nat → Int32) (ofn : Nat → Int64) (ty : Nat) (th ml mf sp on tw pk pf ps pn pp pm : Int32) {H : Heap} {locs : List Loc} {ls : Array Slot} (hLW : LAW st hs sf) (hBU : BUR ty bf cf pm) (hP : va_P D vwCl ((mo, .inr (8, [.ref ms, .int (nI (h_kp hs)), .ref mb, .int (nI ty), .int th, .ref mk, .int ml, .ref mfd, .int mf, .int sp, .int on, .int tw])) :: (ms, .inl (K, 889, .inl sf)) :: (mk, .inl (K, 41, .inl lk)) :: (mfd, .inl (K, 9, .inl fd)) :: (mb, .inl (KC, 60, .inl cf)) :: ((a 25), .inr (4, [.ref (a 26), .int (nI ty)])) :: ((a 26), .inl (K, 60, .inl bf)) :: ((a 27), .inr (1, [.int pk, .int pf, .int ps, .int pn, .int pp, .int pm])) :: (out, .inl (KL, 1, .inr (.inl ofn))) :: (WW a K KS st hs sc)) H) (hD : va_D (fun q : Nat => s.heap.size ≤ q) ((mo, .inr (8, [.ref ms, .int (nI (h_kp hs)), .ref mb, .int (nI ty), .int th, .ref mk, .int ml, .ref mfd, .int mf, .int sp, .int on, .int tw])) :: (ms, .inl (K, 889, .inl sf)) :: (mk, .inl (K, 41, .inl lk)) :: (mfd, .inl (K, 9, .inl fd)) :: (mb, .inl (KC, 60, .inl cf)) :: ((a 25), .inr (4, [.ref (a 26), .int (nI ty)])) :: ((a 26), .inl (K, 60, .inl bf)) :: ((a 27), .inr (1, [.int pk, .int pf, .int ps, .int pn, .int pp, .int pm])) :: (out, .inl (KL, 1, .inr (.inl ofn))) :: (WW a K KS st hs sc))) (hS : va_S (fun q : Nat => s.heap.size ≤ q) s.heap H locs) (hl : lv_has ls 7 [(4, .int (nI i)), (3, .ref out), (2, .ref mo), (1, .ref (a 0)), (0, .ref b)]) : W p l e room_1 s m #[Value.ref b] below meth c H locs C9 S9 (lw_Z below #[Value.ref b] s) (F0 m 441 ls []) := by
  have C1 := C0
  obtain ⟨hx, hb, hr, hml, hown, hts, hX, hbl, hlocks, hgv⟩ := C1
  have hown : s.vm.findClass RL = some m.cls := hown
  have ht : ∀ v9 ∈ wsA, v9.before #[Value.ref b] s = true := fun v9 h9 => hts v9 (wsA_tbl h9)
  have S0 : k_C p s m #[Value.ref b] c cL_law 7 RL := ⟨hx, hb, hml, hown, ht⟩
  have hbA : ¬ (fun q : Nat => s.heap.size ≤ q) b := Nat.not_le.mpr hbl
  have hA : ∀ q : Nat, s.heap.size ≤ q → (fun q : Nat => s.heap.size ≤ q) q := fun _ h9 => h9
  have hLW9 := hLW
  obtain ⟨hbst, hlx, hh, hoL, hR, hHR⟩ := hLW9
  have hkp := kp_6 hh
  have hBU9 := hBU
  obtain ⟨hty, hcf, hm⟩ := hBU9
  obtain ⟨hb1, hb2, hb3, hb4⟩ := bST_le hbst
  obtain ⟨y1, hy1⟩ : ∃ z9 : Int32, z9 = xs (i + 1) := ⟨_, rfl⟩
  obtain ⟨y2, hy2⟩ : ∃ z9 : Int32, z9 = xs (i + 2) := ⟨_, rfl⟩
  obtain ⟨y3, hy3⟩ : ∃ z9 : Int32, z9 = xs (i + 3) := ⟨_, rfl⟩
  generalize hAe : (fun q : Nat => s.heap.size ≤ q) = A at hG hD hS hA hbA
  by_cases hp : k_per y1 y2
  · by_cases hne : s_ns st = 0
    · skip
      refine lv_aload_n hx hb dL_law_441 rfl (lv_at hl 3 rfl) ?_
      refine lv_aload_n hx hb dL_law_442 rfl (lv_at hl 4 rfl) ?_
      refine lv_iload hx hb dL_law_443 (lv_at hl 0 rfl) ?_
      refine lv_iconst (v := 1) hx hb dL_law_445 (by decide) ?_
      refine lv_iadd hx hb dL_law_446 ?_
      refine k_nrm (y := (nI (i + 1))) (nI_add i 1) ?_
      refine va_sld hx hb hX hbl hbA hS (vp_in_nI (by omega) (by omega)) dL_law_447 ?_
      refine k_nrm (y := y1) ((by rw [nI_clamp (by omega)]; exact hy1.symm)) ?_
      refine lv_aload_n hx hb dL_law_448 rfl (lv_at hl 4 rfl) ?_
      refine lv_iload hx hb dL_law_449 (lv_at hl 0 rfl) ?_
      refine lv_iconst (v := 2) hx hb dL_law_451 (by decide) ?_
      refine lv_iadd hx hb dL_law_452 ?_
      refine k_nrm (y := (nI (i + 2))) (nI_add i 2) ?_
      refine va_sld hx hb hX hbl hbA hS (vp_in_nI (by omega) (by omega)) dL_law_453 ?_
      refine k_nrm (y := y2) ((by rw [nI_clamp (by omega)]; exact hy2.symm)) ?_
      refine lv_aload_n hx hb dL_law_454 rfl (lv_at hl 4 rfl) ?_
      refine lv_iload hx hb dL_law_455 (lv_at hl 0 rfl) ?_
      refine lv_iconst (v := 3) hx hb dL_law_457 (by decide) ?_
      refine lv_iadd hx hb dL_law_458 ?_
      refine k_nrm (y := (nI (i + 3))) (nI_add i 3) ?_
      refine va_sld hx hb hX hbl hbA hS (vp_in_nI (by omega) (by omega)) dL_law_459 ?_
      refine k_nrm (y := y3) ((by rw [nI_clamp (by omega)]; exact hy3.symm)) ?_
      refine lv_if_eq (tgt := 467) hx hb dL_law_460 (by decide) (fun c_1 => ?_) (fun c_1 => ?_)
      · have hc9 := c_1
        refine lv_iconst (v := 0) hx hb dL_law_467 (by decide) ?_
        refine lv_aload_n hx hb dL_law_468 rfl (lv_at hl 1 rfl) ?_
        have ct := k_cut_TT (wp := [(mo, .inr (8, [.ref ms, .int (nI (h_kp hs)), .ref mb, .int (nI ty), .int th, .ref mk, .int ml, .ref mfd, .int mf, .int sp, .int on, .int tw])), (ms, .inl (K, 889, .inl sf)), (mk, .inl (K, 41, .inl lk)), (mfd, .inl (K, 9, .inl fd)), (mb, .inl (KC, 60, .inl cf)), ((a 25), .inr (4, [.ref (a 26), .int (nI ty)])), ((a 26), .inl (K, 60, .inl bf)), ((a 27), .inr (1, [.int pk, .int pf, .int ps, .int pn, .int pp, .int pm])), (out, .inl (KL, 1, .inr (.inl ofn)))]) (T := (WW a K KS st hs sc)) (wc := [(out, .inl (KL, 1, .inr (.inl ofn)))]) (wr := [(mo, .inr (8, [.ref ms, .int (nI (h_kp hs)), .ref mb, .int (nI ty), .int th, .ref mk, .int ml, .ref mfd, .int mf, .int sp, .int on, .int tw])), (ms, .inl (K, 889, .inl sf)), (mk, .inl (K, 41, .inl lk)), (mfd, .inl (K, 9, .inl fd)), (mb, .inl (KC, 60, .inl cf)), ((a 25), .inr (4, [.ref (a 26), .int (nI ty)])), ((a 26), .inl (K, 60, .inl bf)), ((a 27), .inr (1, [.int pk, .int pf, .int ps, .int pn, .int pp, .int pm]))]) (tc := [(K, .int), (KS, .object "BarcodeWand$State"), (KL, .long)]) hG hS hA hK hP hD [8] [0, 1, 2, 3, 4, 5, 6, 7] [0, 1, 2] rfl rfl (by decide) (by decide) (by decide) rfl
        refine k_endi (As := [.ref (a 0), .int y1, .int y2, .int 0, .ref out]) ct (k_runSW (As := [.ref (a 0), .int y1, .int y2, .int 0, .ref out]) (rest := []) S0 Ls_L_100 ct (c_L_drawX l hst D a K KS st hs sc y1 y2 0 out KL ofn (by assumption) (by assumption) H.size) hl.1 rfl (Nat.le_of_ble_eq_true rfl) rfl dL_law_469 ⟨⟨Nat.le_of_ble_eq_true rfl, Nat.le_of_ble_eq_true rfl⟩, (show C9 + 1 ≤ 601024 by omega), (show S9 + 6 ≤ 7293034 by omega)⟩) rfl rfl (fun r_2 _ H locs hw_3 hP hD hK hS => ?_)
        have hK : va_K D vwCl [(K, .int), (KS, .object "BarcodeWand$State"), (KL, .long), (KC, .char)] s := hK
        have hP : va_P D vwCl ((mo, .inr (8, [.ref ms, .int (nI (h_kp hs)), .ref mb, .int (nI ty), .int th, .ref mk, .int ml, .ref mfd, .int mf, .int sp, .int on, .int tw])) :: (ms, .inl (K, 889, .inl sf)) :: (mk, .inl (K, 41, .inl lk)) :: (mfd, .inl (K, 9, .inl fd)) :: (mb, .inl (KC, 60, .inl cf)) :: ((a 25), .inr (4, [.ref (a 26), .int (nI ty)])) :: ((a 26), .inl (K, 60, .inl bf)) :: ((a 27), .inr (1, [.int pk, .int pf, .int ps, .int pn, .int pp, .int pm])) :: (out, .inl (KL, 1, .inr (.inl ofn))) :: (WW a K KS st hs sc)) H := hP
        have hD : va_D A ((mo, .inr (8, [.ref ms, .int (nI (h_kp hs)), .ref mb, .int (nI ty), .int th, .ref mk, .int ml, .ref mfd, .int mf, .int sp, .int on, .int tw])) :: (ms, .inl (K, 889, .inl sf)) :: (mk, .inl (K, 41, .inl lk)) :: (mfd, .inl (K, 9, .inl fd)) :: (mb, .inl (KC, 60, .inl cf)) :: ((a 25), .inr (4, [.ref (a 26), .int (nI ty)])) :: ((a 26), .inl (K, 60, .inl bf)) :: ((a 27), .inr (1, [.int pk, .int pf, .int ps, .int pn, .int pp, .int pm])) :: (out, .inl (KL, 1, .inr (.inl ofn))) :: (WW a K KS st hs sc)) := hD
        have hw_3 : r_2 = (2) := hw_3
        have hw_3 := hw_3.symm
        subst hw_3
        refine k_nrm (y := 2) rfl ?_
        refine lv_istore (lv' := [(5, .int 2), (4, .int (nI i)), (3, .ref out), (2, .ref mo), (1, .ref (a 0)), (0, .ref b)]) hx hb dL_law_472 hl (by decide) rfl (fun ls hl => ?_)
        refine lv_aload_n hx hb dL_law_474 rfl (lv_at hl 3 rfl) ?_
        refine lv_aload_n hx hb dL_law_475 rfl (lv_at hl 5 rfl) ?_
        refine lv_iload hx hb dL_law_476 (lv_at hl 1 rfl) ?_
        refine lv_iconst (v := 1) hx hb dL_law_478 (by decide) ?_
        refine lv_iadd hx hb dL_law_479 ?_
        refine k_nrm (y := (nI (i + 1))) (nI_add i 1) ?_
        refine va_sld hx hb hX hbl hbA hS (vp_in_nI (by omega) (by omega)) dL_law_480 ?_
        refine k_nrm (y := y1) ((by rw [nI_clamp (by omega)]; exact hy1.symm)) ?_
        refine lv_aload_n hx hb dL_law_481 rfl (lv_at hl 5 rfl) ?_
        refine lv_iload hx hb dL_law_482 (lv_at hl 1 rfl) ?_
        refine lv_iconst (v := 2) hx hb dL_law_484 (by decide) ?_
        refine lv_iadd hx hb dL_law_485 ?_
        refine k_nrm (y := (nI (i + 2))) (nI_add i 2) ?_
        refine va_sld hx hb hX hbl hbA hS (vp_in_nI (by omega) (by omega)) dL_law_486 ?_
        refine k_nrm (y := y2) ((by rw [nI_clamp (by omega)]; exact hy2.symm)) ?_
        refine lv_aload_n hx hb dL_law_487 rfl (lv_at hl 5 rfl) ?_
        refine lv_iload hx hb dL_law_488 (lv_at hl 1 rfl) ?_
        refine lv_iconst (v := 3) hx hb dL_law_490 (by decide) ?_
        refine lv_iadd hx hb dL_law_491 ?_
        refine k_nrm (y := (nI (i + 3))) (nI_add i 3) ?_
        refine va_sld hx hb hX hbl hbA hS (vp_in_nI (by omega) (by omega)) dL_law_492 ?_
        refine k_nrm (y := y3) ((by rw [nI_clamp (by omega)]; exact hy3.symm)) ?_
        refine lv_if_eq (tgt := 500) hx hb dL_law_493 (by decide) (fun c_4 => ?_) (fun c9 => absurd c_1 c9)
        refine lv_iconst (v := 0) hx hb dL_law_500 (by decide) ?_
        have ct := k_cut_T (wp := [(mo, .inr (8, [.ref ms, .int (nI (h_kp hs)), .ref mb, .int (nI ty), .int th, .ref mk, .int ml, .ref mfd, .int mf, .int sp, .int on, .int tw])), (ms, .inl (K, 889, .inl sf)), (mk, .inl (K, 41, .inl lk)), (mfd, .inl (K, 9, .inl fd)), (mb, .inl (KC, 60, .inl cf)), ((a 25), .inr (4, [.ref (a 26), .int (nI ty)])), ((a 26), .inl (K, 60, .inl bf)), ((a 27), .inr (1, [.int pk, .int pf, .int ps, .int pn, .int pp, .int pm])), (out, .inl (KL, 1, .inr (.inl ofn)))]) (T := (WW a K KS st hs sc)) (wc := [(mo, .inr (8, [.ref ms, .int (nI (h_kp hs)), .ref mb, .int (nI ty), .int th, .ref mk, .int ml, .ref mfd, .int mf, .int sp, .int on, .int tw])), (ms, .inl (K, 889, .inl sf))]) (wr := [(mk, .inl (K, 41, .inl lk)), (mfd, .inl (K, 9, .inl fd)), (mb, .inl (KC, 60, .inl cf)), ((a 25), .inr (4, [.ref (a 26), .int (nI ty)])), ((a 26), .inl (K, 60, .inl bf)), ((a 27), .inr (1, [.int pk, .int pf, .int ps, .int pn, .int pp, .int pm])), (out, .inl (KL, 1, .inr (.inl ofn)))]) (tc := [(K, .int)]) hG hS hA hK hP hD [0, 1] [2, 3, 4, 5, 6, 7, 8] [0] rfl rfl (by decide) (by decide) (by decide) rfl
        refine k_endi (As := [.ref mo, .int y1, .int y2, .int 0]) ct (k_runV (As := [.int y1, .int y2, .int 0]) (rest := []) S0 Lv_L_103 rfl (ci := 8) (q0 := 0) rfl rfl ct (c_M_drawX2 l D mo ms (nI (h_kp hs)) mb (nI ty) th mk ml mfd mf sp on tw K sf st y1 y2 0 (by assumption) (by assumption) (by assumption) (by assumption) (by assumption) H.size) hl.1 rfl (Nat.le_of_ble_eq_true rfl) rfl dL_law_501 ⟨⟨Nat.le_of_ble_eq_true rfl, Nat.le_of_ble_eq_true rfl⟩, (show C9 + 1 ≤ 601024 by omega), (show S9 + 6 ≤ 7293034 by omega)⟩) rfl rfl (fun r_5 _ H locs hw_6 hP hD hK hS => ?_)
        have hP : va_P D vwCl ((mk, .inl (K, 41, .inl lk)) :: (mfd, .inl (K, 9, .inl fd)) :: (mb, .inl (KC, 60, .inl cf)) :: ((a 25), .inr (4, [.ref (a 26), .int (nI ty)])) :: ((a 26), .inl (K, 60, .inl bf)) :: ((a 27), .inr (1, [.int pk, .int pf, .int ps, .int pn, .int pp, .int pm])) :: (out, .inl (KL, 1, .inr (.inl ofn))) :: (mo, .inr (8, [.ref ms, .int (nI (h_kp hs)), .ref mb, .int (nI ty), .int 2, .ref mk, .int ml, .ref mfd, .int mf, .int sp, .int on, .int tw])) :: (ms, .inl (K, 889, .inl sf)) :: (WW a K KS st hs sc)) H := k_swapP (a := [(mk, .inl (K, 41, .inl lk)), (mfd, .inl (K, 9, .inl fd)), (mb, .inl (KC, 60, .inl cf)), ((a 25), .inr (4, [.ref (a 26), .int (nI ty)])), ((a 26), .inl (K, 60, .inl bf)), ((a 27), .inr (1, [.int pk, .int pf, .int ps, .int pn, .int pp, .int pm])), (out, .inl (KL, 1, .inr (.inl ofn)))]) (b := (WW a K KS st hs sc)) (c := [(mo, .inr (8, [.ref ms, .int (nI (h_kp hs)), .ref mb, .int (nI ty), .int 2, .ref mk, .int ml, .ref mfd, .int mf, .int sp, .int on, .int tw])), (ms, .inl (K, 889, .inl sf))]) hP
        have hD : va_D A ((mk, .inl (K, 41, .inl lk)) :: (mfd, .inl (K, 9, .inl fd)) :: (mb, .inl (KC, 60, .inl cf)) :: ((a 25), .inr (4, [.ref (a 26), .int (nI ty)])) :: ((a 26), .inl (K, 60, .inl bf)) :: ((a 27), .inr (1, [.int pk, .int pf, .int ps, .int pn, .int pp, .int pm])) :: (out, .inl (KL, 1, .inr (.inl ofn))) :: (mo, .inr (8, [.ref ms, .int (nI (h_kp hs)), .ref mb, .int (nI ty), .int 2, .ref mk, .int ml, .ref mfd, .int mf, .int sp, .int on, .int tw])) :: (ms, .inl (K, 889, .inl sf)) :: (WW a K KS st hs sc)) := va_D.swap (a := [(mk, .inl (K, 41, .inl lk)), (mfd, .inl (K, 9, .inl fd)), (mb, .inl (KC, 60, .inl cf)), ((a 25), .inr (4, [.ref (a 26), .int (nI ty)])), ((a 26), .inl (K, 60, .inl bf)), ((a 27), .inr (1, [.int pk, .int pf, .int ps, .int pn, .int pp, .int pm])), (out, .inl (KL, 1, .inr (.inl ofn)))]) (b := (WW a K KS st hs sc)) (c := [(mo, .inr (8, [.ref ms, .int (nI (h_kp hs)), .ref mb, .int (nI ty), .int 2, .ref mk, .int ml, .ref mfd, .int mf, .int sp, .int on, .int tw])), (ms, .inl (K, 889, .inl sf))]) hD
        have hK : va_K D vwCl [(K, .int), (KS, .object "BarcodeWand$State"), (KL, .long), (KC, .char)] s := hK
        have hP : va_P D vwCl ((mk, .inl (K, 41, .inl lk)) :: (mfd, .inl (K, 9, .inl fd)) :: (mb, .inl (KC, 60, .inl cf)) :: ((a 25), .inr (4, [.ref (a 26), .int (nI ty)])) :: ((a 26), .inl (K, 60, .inl bf)) :: ((a 27), .inr (1, [.int pk, .int pf, .int ps, .int pn, .int pp, .int pm])) :: (out, .inl (KL, 1, .inr (.inl ofn))) :: (mo, .inr (8, [.ref ms, .int (nI (h_kp hs)), .ref mb, .int (nI ty), .int 2, .ref mk, .int ml, .ref mfd, .int mf, .int sp, .int on, .int tw])) :: (ms, .inl (K, 889, .inl sf)) :: (WW a K KS st hs sc)) H := hP
        have hD : va_D A ((mk, .inl (K, 41, .inl lk)) :: (mfd, .inl (K, 9, .inl fd)) :: (mb, .inl (KC, 60, .inl cf)) :: ((a 25), .inr (4, [.ref (a 26), .int (nI ty)])) :: ((a 26), .inl (K, 60, .inl bf)) :: ((a 27), .inr (1, [.int pk, .int pf, .int ps, .int pn, .int pp, .int pm])) :: (out, .inl (KL, 1, .inr (.inl ofn))) :: (mo, .inr (8, [.ref ms, .int (nI (h_kp hs)), .ref mb, .int (nI ty), .int 2, .ref mk, .int ml, .ref mfd, .int mf, .int sp, .int on, .int tw])) :: (ms, .inl (K, 889, .inl sf)) :: (WW a K KS st hs sc)) := hD
        have hw_6 : r_5 = (0) := hw_6
        have hw_6 := hw_6.symm
        subst hw_6
        refine k_nrm (y := 0) rfl ?_
        refine lv_istore (lv' := [(6, .int 0), (5, .int 2), (4, .int (nI i)), (3, .ref out), (2, .ref mo), (1, .ref (a 0)), (0, .ref b)]) hx hb dL_law_504 hl (by decide) rfl (fun ls hl => ?_)
        refine lv_aload_n hx hb dL_law_506 rfl (lv_at hl 4 rfl) ?_
        have ct := k_cut_T (wp := [(mk, .inl (K, 41, .inl lk)), (mfd, .inl (K, 9, .inl fd)), (mb, .inl (KC, 60, .inl cf)), ((a 25), .inr (4, [.ref (a 26), .int (nI ty)])), ((a 26), .inl (K, 60, .inl bf)), ((a 27), .inr (1, [.int pk, .int pf, .int ps, .int pn, .int pp, .int pm])), (out, .inl (KL, 1, .inr (.inl ofn))), (mo, .inr (8, [.ref ms, .int (nI (h_kp hs)), .ref mb, .int (nI ty), .int 2, .ref mk, .int ml, .ref mfd, .int mf, .int sp, .int on, .int tw])), (ms, .inl (K, 889, .inl sf))]) (T := (WW a K KS st hs sc)) (wc := [(mo, .inr (8, [.ref ms, .int (nI (h_kp hs)), .ref mb, .int (nI ty), .int 2, .ref mk, .int ml, .ref mfd, .int mf, .int sp, .int on, .int tw]))]) (wr := [(mk, .inl (K, 41, .inl lk)), (mfd, .inl (K, 9, .inl fd)), (mb, .inl (KC, 60, .inl cf)), ((a 25), .inr (4, [.ref (a 26), .int (nI ty)])), ((a 26), .inl (K, 60, .inl bf)), ((a 27), .inr (1, [.int pk, .int pf, .int ps, .int pn, .int pp, .int pm])), (out, .inl (KL, 1, .inr (.inl ofn))), (ms, .inl (K, 889, .inl sf))]) (tc := []) hG hS hA hK hP hD [7] [0, 1, 2, 3, 4, 5, 6, 8] [] rfl rfl (by decide) (by decide) (by decide) rfl
        refine k_endi (As := [.ref mo]) ct (k_runV (As := []) (rest := []) S0 Lv_L_83 rfl (ci := 8) (q0 := 0) rfl rfl ct (c_M_thrown l D mo ms (nI (h_kp hs)) mb (nI ty) 2 mk ml mfd mf sp on tw H.size) hl.1 rfl (Nat.le_of_ble_eq_true rfl) rfl dL_law_507 ⟨⟨Nat.le_of_ble_eq_true rfl, Nat.le_of_ble_eq_true rfl⟩, (show C9 + 1 ≤ 601024 by omega), (show S9 + 6 ≤ 7293034 by omega)⟩) rfl rfl (fun r_7 _ H locs hw_8 hP hD hK hS => ?_)
        have hP : va_P D vwCl ((mk, .inl (K, 41, .inl lk)) :: (mfd, .inl (K, 9, .inl fd)) :: (mb, .inl (KC, 60, .inl cf)) :: ((a 25), .inr (4, [.ref (a 26), .int (nI ty)])) :: ((a 26), .inl (K, 60, .inl bf)) :: ((a 27), .inr (1, [.int pk, .int pf, .int ps, .int pn, .int pp, .int pm])) :: (out, .inl (KL, 1, .inr (.inl ofn))) :: (ms, .inl (K, 889, .inl sf)) :: (mo, .inr (8, [.ref ms, .int (nI (h_kp hs)), .ref mb, .int (nI ty), .int 2, .ref mk, .int ml, .ref mfd, .int mf, .int sp, .int on, .int tw])) :: (WW a K KS st hs sc)) H := k_swapP (a := [(mk, .inl (K, 41, .inl lk)), (mfd, .inl (K, 9, .inl fd)), (mb, .inl (KC, 60, .inl cf)), ((a 25), .inr (4, [.ref (a 26), .int (nI ty)])), ((a 26), .inl (K, 60, .inl bf)), ((a 27), .inr (1, [.int pk, .int pf, .int ps, .int pn, .int pp, .int pm])), (out, .inl (KL, 1, .inr (.inl ofn))), (ms, .inl (K, 889, .inl sf))]) (b := (WW a K KS st hs sc)) (c := [(mo, .inr (8, [.ref ms, .int (nI (h_kp hs)), .ref mb, .int (nI ty), .int 2, .ref mk, .int ml, .ref mfd, .int mf, .int sp, .int on, .int tw]))]) hP
        have hD : va_D A ((mk, .inl (K, 41, .inl lk)) :: (mfd, .inl (K, 9, .inl fd)) :: (mb, .inl (KC, 60, .inl cf)) :: ((a 25), .inr (4, [.ref (a 26), .int (nI ty)])) :: ((a 26), .inl (K, 60, .inl bf)) :: ((a 27), .inr (1, [.int pk, .int pf, .int ps, .int pn, .int pp, .int pm])) :: (out, .inl (KL, 1, .inr (.inl ofn))) :: (ms, .inl (K, 889, .inl sf)) :: (mo, .inr (8, [.ref ms, .int (nI (h_kp hs)), .ref mb, .int (nI ty), .int 2, .ref mk, .int ml, .ref mfd, .int mf, .int sp, .int on, .int tw])) :: (WW a K KS st hs sc)) := va_D.swap (a := [(mk, .inl (K, 41, .inl lk)), (mfd, .inl (K, 9, .inl fd)), (mb, .inl (KC, 60, .inl cf)), ((a 25), .inr (4, [.ref (a 26), .int (nI ty)])), ((a 26), .inl (K, 60, .inl bf)), ((a 27), .inr (1, [.int pk, .int pf, .int ps, .int pn, .int pp, .int pm])), (out, .inl (KL, 1, .inr (.inl ofn))), (ms, .inl (K, 889, .inl sf))]) (b := (WW a K KS st hs sc)) (c := [(mo, .inr (8, [.ref ms, .int (nI (h_kp hs)), .ref mb, .int (nI ty), .int 2, .ref mk, .int ml, .ref mfd, .int mf, .int sp, .int on, .int tw]))]) hD
        have hK : va_K D vwCl [(K, .int), (KS, .object "BarcodeWand$State"), (KL, .long), (KC, .char)] s := hK
        have hP : va_P D vwCl ((mk, .inl (K, 41, .inl lk)) :: (mfd, .inl (K, 9, .inl fd)) :: (mb, .inl (KC, 60, .inl cf)) :: ((a 25), .inr (4, [.ref (a 26), .int (nI ty)])) :: ((a 26), .inl (K, 60, .inl bf)) :: ((a 27), .inr (1, [.int pk, .int pf, .int ps, .int pn, .int pp, .int pm])) :: (out, .inl (KL, 1, .inr (.inl ofn))) :: (ms, .inl (K, 889, .inl sf)) :: (mo, .inr (8, [.ref ms, .int (nI (h_kp hs)), .ref mb, .int (nI ty), .int 2, .ref mk, .int ml, .ref mfd, .int mf, .int sp, .int on, .int tw])) :: (WW a K KS st hs sc)) H := hP
        have hD : va_D A ((mk, .inl (K, 41, .inl lk)) :: (mfd, .inl (K, 9, .inl fd)) :: (mb, .inl (KC, 60, .inl cf)) :: ((a 25), .inr (4, [.ref (a 26), .int (nI ty)])) :: ((a 26), .inl (K, 60, .inl bf)) :: ((a 27), .inr (1, [.int pk, .int pf, .int ps, .int pn, .int pp, .int pm])) :: (out, .inl (KL, 1, .inr (.inl ofn))) :: (ms, .inl (K, 889, .inl sf)) :: (mo, .inr (8, [.ref ms, .int (nI (h_kp hs)), .ref mb, .int (nI ty), .int 2, .ref mk, .int ml, .ref mfd, .int mf, .int sp, .int on, .int tw])) :: (WW a K KS st hs sc)) := hD
        have hw_8 : r_7 = 2 := hw_8
        have hw_8 := hw_8.symm
        subst hw_8
        refine k_nrm (y := 2) rfl ?_
        refine lv_iload hx hb dL_law_510 (lv_at hl 1 rfl) ?_
        refine lv_icmp_eq (tgt := 517) hx hb dL_law_512 (by decide) (fun _ => ?_) (fun c9 => absurd (by decide) c9)
        refine lv_iload hx hb dL_law_517 (lv_at hl 1 rfl) ?_
        refine lv_if_ne (tgt := 534) hx hb dL_law_519 (by decide) (fun _ => ?_) (fun c9 => absurd c9 (by decide))
        refine lv_goto (tgt := 1479) hx hb dL_law_534 (by decide) ?_
        have hP9 : va_P D vwCl ((mo, .inr (8, [.ref ms, .int (nI (h_kp hs)), .ref mb, .int (nI ty), .int 2, .ref mk, .int ml, .ref mfd, .int mf, .int sp, .int on, .int tw])) :: (ms, .inl (K, 889, .inl sf)) :: (mk, .inl (K, 41, .inl lk)) :: (mfd, .inl (K, 9, .inl fd)) :: (mb, .inl (KC, 60, .inl cf)) :: ((a 25), .inr (4, [.ref (a 26), .int (nI ty)])) :: ((a 26), .inl (K, 60, .inl bf)) :: ((a 27), .inr (1, [.int pk, .int pf, .int ps, .int pn, .int pp, .int pm])) :: (out, .inl (KL, 1, .inr (.inl ofn))) :: (WW a K KS st hs sc)) H := k_subP (wp := [(mk, .inl (K, 41, .inl lk)), (mfd, .inl (K, 9, .inl fd)), (mb, .inl (KC, 60, .inl cf)), ((a 25), .inr (4, [.ref (a 26), .int (nI ty)])), ((a 26), .inl (K, 60, .inl bf)), ((a 27), .inr (1, [.int pk, .int pf, .int ps, .int pn, .int pp, .int pm])), (out, .inl (KL, 1, .inr (.inl ofn))), (ms, .inl (K, 889, .inl sf)), (mo, .inr (8, [.ref ms, .int (nI (h_kp hs)), .ref mb, .int (nI ty), .int 2, .ref mk, .int ml, .ref mfd, .int mf, .int sp, .int on, .int tw]))]) (wp' := [(mo, .inr (8, [.ref ms, .int (nI (h_kp hs)), .ref mb, .int (nI ty), .int 2, .ref mk, .int ml, .ref mfd, .int mf, .int sp, .int on, .int tw])), (ms, .inl (K, 889, .inl sf)), (mk, .inl (K, 41, .inl lk)), (mfd, .inl (K, 9, .inl fd)), (mb, .inl (KC, 60, .inl cf)), ((a 25), .inr (4, [.ref (a 26), .int (nI ty)])), ((a 26), .inl (K, 60, .inl bf)), ((a 27), .inr (1, [.int pk, .int pf, .int ps, .int pn, .int pp, .int pm])), (out, .inl (KL, 1, .inr (.inl ofn)))]) (T := (WW a K KS st hs sc)) hP [8, 7, 0, 1, 2, 3, 4, 5, 6] rfl
        have hD9 : va_D A ((mo, .inr (8, [.ref ms, .int (nI (h_kp hs)), .ref mb, .int (nI ty), .int 2, .ref mk, .int ml, .ref mfd, .int mf, .int sp, .int on, .int tw])) :: (ms, .inl (K, 889, .inl sf)) :: (mk, .inl (K, 41, .inl lk)) :: (mfd, .inl (K, 9, .inl fd)) :: (mb, .inl (KC, 60, .inl cf)) :: ((a 25), .inr (4, [.ref (a 26), .int (nI ty)])) :: ((a 26), .inl (K, 60, .inl bf)) :: ((a 27), .inr (1, [.int pk, .int pf, .int ps, .int pn, .int pp, .int pm])) :: (out, .inl (KL, 1, .inr (.inl ofn))) :: (WW a K KS st hs sc)) := k_subD (wp := [(mk, .inl (K, 41, .inl lk)), (mfd, .inl (K, 9, .inl fd)), (mb, .inl (KC, 60, .inl cf)), ((a 25), .inr (4, [.ref (a 26), .int (nI ty)])), ((a 26), .inl (K, 60, .inl bf)), ((a 27), .inr (1, [.int pk, .int pf, .int ps, .int pn, .int pp, .int pm])), (out, .inl (KL, 1, .inr (.inl ofn))), (ms, .inl (K, 889, .inl sf)), (mo, .inr (8, [.ref ms, .int (nI (h_kp hs)), .ref mb, .int (nI ty), .int 2, .ref mk, .int ml, .ref mfd, .int mf, .int sp, .int on, .int tw]))]) (wp' := [(mo, .inr (8, [.ref ms, .int (nI (h_kp hs)), .ref mb, .int (nI ty), .int 2, .ref mk, .int ml, .ref mfd, .int mf, .int sp, .int on, .int tw])), (ms, .inl (K, 889, .inl sf)), (mk, .inl (K, 41, .inl lk)), (mfd, .inl (K, 9, .inl fd)), (mb, .inl (KC, 60, .inl cf)), ((a 25), .inr (4, [.ref (a 26), .int (nI ty)])), ((a 26), .inl (K, 60, .inl bf)), ((a 27), .inr (1, [.int pk, .int pf, .int ps, .int pn, .int pp, .int pm])), (out, .inl (KL, 1, .inr (.inl ofn)))]) (T := (WW a K KS st hs sc)) hD [8, 7, 0, 1, 2, 3, 4, 5, 6] (by decide) rfl
        subst hAe
        refine W.widen (k := Cn) (n := Sn) (by omega) (by omega) ?_
        exact next st hs sc sf lk fd bf cf ofn ty 2 ml mf sp on tw pk pf ps pn pp pm H locs ls hLW hBU hP9 hD9 hS (lv_sub hl [2, 3, 4, 5, 6] rfl)
      · have hc9 := c_1
        refine lv_iconst (v := 1) hx hb dL_law_463 (by decide) ?_
        refine lv_goto (tgt := 468) hx hb dL_law_464 (by decide) ?_
        refine lv_aload_n hx hb dL_law_468 rfl (lv_at hl 1 rfl) ?_
        have ct := k_cut_TT (wp := [(mo, .inr (8, [.ref ms, .int (nI (h_kp hs)), .ref mb, .int (nI ty), .int th, .ref mk, .int ml, .ref mfd, .int mf, .int sp, .int on, .int tw])), (ms, .inl (K, 889, .inl sf)), (mk, .inl (K, 41, .inl lk)), (mfd, .inl (K, 9, .inl fd)), (mb, .inl (KC, 60, .inl cf)), ((a 25), .inr (4, [.ref (a 26), .int (nI ty)])), ((a 26), .inl (K, 60, .inl bf)), ((a 27), .inr (1, [.int pk, .int pf, .int ps, .int pn, .int pp, .int pm])), (out, .inl (KL, 1, .inr (.inl ofn)))]) (T := (WW a K KS st hs sc)) (wc := [(out, .inl (KL, 1, .inr (.inl ofn)))]) (wr := [(mo, .inr (8, [.ref ms, .int (nI (h_kp hs)), .ref mb, .int (nI ty), .int th, .ref mk, .int ml, .ref mfd, .int mf, .int sp, .int on, .int tw])), (ms, .inl (K, 889, .inl sf)), (mk, .inl (K, 41, .inl lk)), (mfd, .inl (K, 9, .inl fd)), (mb, .inl (KC, 60, .inl cf)), ((a 25), .inr (4, [.ref (a 26), .int (nI ty)])), ((a 26), .inl (K, 60, .inl bf)), ((a 27), .inr (1, [.int pk, .int pf, .int ps, .int pn, .int pp, .int pm]))]) (tc := [(K, .int), (KS, .object "BarcodeWand$State"), (KL, .long)]) hG hS hA hK hP hD [8] [0, 1, 2, 3, 4, 5, 6, 7] [0, 1, 2] rfl rfl (by decide) (by decide) (by decide) rfl
        refine k_endi (As := [.ref (a 0), .int y1, .int y2, .int 1, .ref out]) ct (k_runSW (As := [.ref (a 0), .int y1, .int y2, .int 1, .ref out]) (rest := []) S0 Ls_L_100 ct (c_L_drawX l hst D a K KS st hs sc y1 y2 1 out KL ofn (by assumption) (by assumption) H.size) hl.1 rfl (Nat.le_of_ble_eq_true rfl) rfl dL_law_469 ⟨⟨Nat.le_of_ble_eq_true rfl, Nat.le_of_ble_eq_true rfl⟩, (show C9 + 1 ≤ 601024 by omega), (show S9 + 6 ≤ 7293034 by omega)⟩) rfl rfl (fun r_9 _ H locs hw_10 hP hD hK hS => ?_)
        have hK : va_K D vwCl [(K, .int), (KS, .object "BarcodeWand$State"), (KL, .long), (KC, .char)] s := hK
        have hP : va_P D vwCl ((mo, .inr (8, [.ref ms, .int (nI (h_kp hs)), .ref mb, .int (nI ty), .int th, .ref mk, .int ml, .ref mfd, .int mf, .int sp, .int on, .int tw])) :: (ms, .inl (K, 889, .inl sf)) :: (mk, .inl (K, 41, .inl lk)) :: (mfd, .inl (K, 9, .inl fd)) :: (mb, .inl (KC, 60, .inl cf)) :: ((a 25), .inr (4, [.ref (a 26), .int (nI ty)])) :: ((a 26), .inl (K, 60, .inl bf)) :: ((a 27), .inr (1, [.int pk, .int pf, .int ps, .int pn, .int pp, .int pm])) :: (out, .inl (KL, 1, .inr (.inl ofn))) :: (WW a K KS st hs sc)) H := hP
        have hD : va_D A ((mo, .inr (8, [.ref ms, .int (nI (h_kp hs)), .ref mb, .int (nI ty), .int th, .ref mk, .int ml, .ref mfd, .int mf, .int sp, .int on, .int tw])) :: (ms, .inl (K, 889, .inl sf)) :: (mk, .inl (K, 41, .inl lk)) :: (mfd, .inl (K, 9, .inl fd)) :: (mb, .inl (KC, 60, .inl cf)) :: ((a 25), .inr (4, [.ref (a 26), .int (nI ty)])) :: ((a 26), .inl (K, 60, .inl bf)) :: ((a 27), .inr (1, [.int pk, .int pf, .int ps, .int pn, .int pp, .int pm])) :: (out, .inl (KL, 1, .inr (.inl ofn))) :: (WW a K KS st hs sc)) := hD
        have hw_10 : r_9 = (2) := hw_10
        have hw_10 := hw_10.symm
        subst hw_10
        refine k_nrm (y := 2) rfl ?_
        refine lv_istore (lv' := [(5, .int 2), (4, .int (nI i)), (3, .ref out), (2, .ref mo), (1, .ref (a 0)), (0, .ref b)]) hx hb dL_law_472 hl (by decide) rfl (fun ls hl => ?_)
        refine lv_aload_n hx hb dL_law_474 rfl (lv_at hl 3 rfl) ?_
        refine lv_aload_n hx hb dL_law_475 rfl (lv_at hl 5 rfl) ?_
        refine lv_iload hx hb dL_law_476 (lv_at hl 1 rfl) ?_
        refine lv_iconst (v := 1) hx hb dL_law_478 (by decide) ?_
        refine lv_iadd hx hb dL_law_479 ?_
        refine k_nrm (y := (nI (i + 1))) (nI_add i 1) ?_
        refine va_sld hx hb hX hbl hbA hS (vp_in_nI (by omega) (by omega)) dL_law_480 ?_
        refine k_nrm (y := y1) ((by rw [nI_clamp (by omega)]; exact hy1.symm)) ?_
        refine lv_aload_n hx hb dL_law_481 rfl (lv_at hl 5 rfl) ?_
        refine lv_iload hx hb dL_law_482 (lv_at hl 1 rfl) ?_
        refine lv_iconst (v := 2) hx hb dL_law_484 (by decide) ?_
        refine lv_iadd hx hb dL_law_485 ?_
        refine k_nrm (y := (nI (i + 2))) (nI_add i 2) ?_
        refine va_sld hx hb hX hbl hbA hS (vp_in_nI (by omega) (by omega)) dL_law_486 ?_
        refine k_nrm (y := y2) ((by rw [nI_clamp (by omega)]; exact hy2.symm)) ?_
        refine lv_aload_n hx hb dL_law_487 rfl (lv_at hl 5 rfl) ?_
        refine lv_iload hx hb dL_law_488 (lv_at hl 1 rfl) ?_
        refine lv_iconst (v := 3) hx hb dL_law_490 (by decide) ?_
        refine lv_iadd hx hb dL_law_491 ?_
        refine k_nrm (y := (nI (i + 3))) (nI_add i 3) ?_
        refine va_sld hx hb hX hbl hbA hS (vp_in_nI (by omega) (by omega)) dL_law_492 ?_
        refine k_nrm (y := y3) ((by rw [nI_clamp (by omega)]; exact hy3.symm)) ?_
        refine lv_if_eq (tgt := 500) hx hb dL_law_493 (by decide) (fun c9 => absurd c9 c_1) (fun c_11 => ?_)
        refine lv_iconst (v := 1) hx hb dL_law_496 (by decide) ?_
        refine lv_goto (tgt := 501) hx hb dL_law_497 (by decide) ?_
        have ct := k_cut_T (wp := [(mo, .inr (8, [.ref ms, .int (nI (h_kp hs)), .ref mb, .int (nI ty), .int th, .ref mk, .int ml, .ref mfd, .int mf, .int sp, .int on, .int tw])), (ms, .inl (K, 889, .inl sf)), (mk, .inl (K, 41, .inl lk)), (mfd, .inl (K, 9, .inl fd)), (mb, .inl (KC, 60, .inl cf)), ((a 25), .inr (4, [.ref (a 26), .int (nI ty)])), ((a 26), .inl (K, 60, .inl bf)), ((a 27), .inr (1, [.int pk, .int pf, .int ps, .int pn, .int pp, .int pm])), (out, .inl (KL, 1, .inr (.inl ofn)))]) (T := (WW a K KS st hs sc)) (wc := [(mo, .inr (8, [.ref ms, .int (nI (h_kp hs)), .ref mb, .int (nI ty), .int th, .ref mk, .int ml, .ref mfd, .int mf, .int sp, .int on, .int tw])), (ms, .inl (K, 889, .inl sf))]) (wr := [(mk, .inl (K, 41, .inl lk)), (mfd, .inl (K, 9, .inl fd)), (mb, .inl (KC, 60, .inl cf)), ((a 25), .inr (4, [.ref (a 26), .int (nI ty)])), ((a 26), .inl (K, 60, .inl bf)), ((a 27), .inr (1, [.int pk, .int pf, .int ps, .int pn, .int pp, .int pm])), (out, .inl (KL, 1, .inr (.inl ofn)))]) (tc := [(K, .int)]) hG hS hA hK hP hD [0, 1] [2, 3, 4, 5, 6, 7, 8] [0] rfl rfl (by decide) (by decide) (by decide) rfl
        refine k_endi (As := [.ref mo, .int y1, .int y2, .int 1]) ct (k_runV (As := [.int y1, .int y2, .int 1]) (rest := []) S0 Lv_L_103 rfl (ci := 8) (q0 := 0) rfl rfl ct (c_M_drawX2 l D mo ms (nI (h_kp hs)) mb (nI ty) th mk ml mfd mf sp on tw K sf st y1 y2 1 (by assumption) (by assumption) (by assumption) (by assumption) (by assumption) H.size) hl.1 rfl (Nat.le_of_ble_eq_true rfl) rfl dL_law_501 ⟨⟨Nat.le_of_ble_eq_true rfl, Nat.le_of_ble_eq_true rfl⟩, (show C9 + 1 ≤ 601024 by omega), (show S9 + 6 ≤ 7293034 by omega)⟩) rfl rfl (fun r_12 _ H locs hw_13 hP hD hK hS => ?_)
        have hP : va_P D vwCl ((mk, .inl (K, 41, .inl lk)) :: (mfd, .inl (K, 9, .inl fd)) :: (mb, .inl (KC, 60, .inl cf)) :: ((a 25), .inr (4, [.ref (a 26), .int (nI ty)])) :: ((a 26), .inl (K, 60, .inl bf)) :: ((a 27), .inr (1, [.int pk, .int pf, .int ps, .int pn, .int pp, .int pm])) :: (out, .inl (KL, 1, .inr (.inl ofn))) :: (mo, .inr (8, [.ref ms, .int (nI (h_kp hs)), .ref mb, .int (nI ty), .int 2, .ref mk, .int ml, .ref mfd, .int mf, .int sp, .int on, .int tw])) :: (ms, .inl (K, 889, .inl sf)) :: (WW a K KS st hs sc)) H := k_swapP (a := [(mk, .inl (K, 41, .inl lk)), (mfd, .inl (K, 9, .inl fd)), (mb, .inl (KC, 60, .inl cf)), ((a 25), .inr (4, [.ref (a 26), .int (nI ty)])), ((a 26), .inl (K, 60, .inl bf)), ((a 27), .inr (1, [.int pk, .int pf, .int ps, .int pn, .int pp, .int pm])), (out, .inl (KL, 1, .inr (.inl ofn)))]) (b := (WW a K KS st hs sc)) (c := [(mo, .inr (8, [.ref ms, .int (nI (h_kp hs)), .ref mb, .int (nI ty), .int 2, .ref mk, .int ml, .ref mfd, .int mf, .int sp, .int on, .int tw])), (ms, .inl (K, 889, .inl sf))]) hP
        have hD : va_D A ((mk, .inl (K, 41, .inl lk)) :: (mfd, .inl (K, 9, .inl fd)) :: (mb, .inl (KC, 60, .inl cf)) :: ((a 25), .inr (4, [.ref (a 26), .int (nI ty)])) :: ((a 26), .inl (K, 60, .inl bf)) :: ((a 27), .inr (1, [.int pk, .int pf, .int ps, .int pn, .int pp, .int pm])) :: (out, .inl (KL, 1, .inr (.inl ofn))) :: (mo, .inr (8, [.ref ms, .int (nI (h_kp hs)), .ref mb, .int (nI ty), .int 2, .ref mk, .int ml, .ref mfd, .int mf, .int sp, .int on, .int tw])) :: (ms, .inl (K, 889, .inl sf)) :: (WW a K KS st hs sc)) := va_D.swap (a := [(mk, .inl (K, 41, .inl lk)), (mfd, .inl (K, 9, .inl fd)), (mb, .inl (KC, 60, .inl cf)), ((a 25), .inr (4, [.ref (a 26), .int (nI ty)])), ((a 26), .inl (K, 60, .inl bf)), ((a 27), .inr (1, [.int pk, .int pf, .int ps, .int pn, .int pp, .int pm])), (out, .inl (KL, 1, .inr (.inl ofn)))]) (b := (WW a K KS st hs sc)) (c := [(mo, .inr (8, [.ref ms, .int (nI (h_kp hs)), .ref mb, .int (nI ty), .int 2, .ref mk, .int ml, .ref mfd, .int mf, .int sp, .int on, .int tw])), (ms, .inl (K, 889, .inl sf))]) hD
        have hK : va_K D vwCl [(K, .int), (KS, .object "BarcodeWand$State"), (KL, .long), (KC, .char)] s := hK
        have hP : va_P D vwCl ((mk, .inl (K, 41, .inl lk)) :: (mfd, .inl (K, 9, .inl fd)) :: (mb, .inl (KC, 60, .inl cf)) :: ((a 25), .inr (4, [.ref (a 26), .int (nI ty)])) :: ((a 26), .inl (K, 60, .inl bf)) :: ((a 27), .inr (1, [.int pk, .int pf, .int ps, .int pn, .int pp, .int pm])) :: (out, .inl (KL, 1, .inr (.inl ofn))) :: (mo, .inr (8, [.ref ms, .int (nI (h_kp hs)), .ref mb, .int (nI ty), .int 2, .ref mk, .int ml, .ref mfd, .int mf, .int sp, .int on, .int tw])) :: (ms, .inl (K, 889, .inl sf)) :: (WW a K KS st hs sc)) H := hP
        have hD : va_D A ((mk, .inl (K, 41, .inl lk)) :: (mfd, .inl (K, 9, .inl fd)) :: (mb, .inl (KC, 60, .inl cf)) :: ((a 25), .inr (4, [.ref (a 26), .int (nI ty)])) :: ((a 26), .inl (K, 60, .inl bf)) :: ((a 27), .inr (1, [.int pk, .int pf, .int ps, .int pn, .int pp, .int pm])) :: (out, .inl (KL, 1, .inr (.inl ofn))) :: (mo, .inr (8, [.ref ms, .int (nI (h_kp hs)), .ref mb, .int (nI ty), .int 2, .ref mk, .int ml, .ref mfd, .int mf, .int sp, .int on, .int tw])) :: (ms, .inl (K, 889, .inl sf)) :: (WW a K KS st hs sc)) := hD
        have hw_13 : r_12 = (0) := hw_13
        have hw_13 := hw_13.symm
        subst hw_13
        refine k_nrm (y := 0) rfl ?_
        refine lv_istore (lv' := [(6, .int 0), (5, .int 2), (4, .int (nI i)), (3, .ref out), (2, .ref mo), (1, .ref (a 0)), (0, .ref b)]) hx hb dL_law_504 hl (by decide) rfl (fun ls hl => ?_)
        refine lv_aload_n hx hb dL_law_506 rfl (lv_at hl 4 rfl) ?_
        have ct := k_cut_T (wp := [(mk, .inl (K, 41, .inl lk)), (mfd, .inl (K, 9, .inl fd)), (mb, .inl (KC, 60, .inl cf)), ((a 25), .inr (4, [.ref (a 26), .int (nI ty)])), ((a 26), .inl (K, 60, .inl bf)), ((a 27), .inr (1, [.int pk, .int pf, .int ps, .int pn, .int pp, .int pm])), (out, .inl (KL, 1, .inr (.inl ofn))), (mo, .inr (8, [.ref ms, .int (nI (h_kp hs)), .ref mb, .int (nI ty), .int 2, .ref mk, .int ml, .ref mfd, .int mf, .int sp, .int on, .int tw])), (ms, .inl (K, 889, .inl sf))]) (T := (WW a K KS st hs sc)) (wc := [(mo, .inr (8, [.ref ms, .int (nI (h_kp hs)), .ref mb, .int (nI ty), .int 2, .ref mk, .int ml, .ref mfd, .int mf, .int sp, .int on, .int tw]))]) (wr := [(mk, .inl (K, 41, .inl lk)), (mfd, .inl (K, 9, .inl fd)), (mb, .inl (KC, 60, .inl cf)), ((a 25), .inr (4, [.ref (a 26), .int (nI ty)])), ((a 26), .inl (K, 60, .inl bf)), ((a 27), .inr (1, [.int pk, .int pf, .int ps, .int pn, .int pp, .int pm])), (out, .inl (KL, 1, .inr (.inl ofn))), (ms, .inl (K, 889, .inl sf))]) (tc := []) hG hS hA hK hP hD [7] [0, 1, 2, 3, 4, 5, 6, 8] [] rfl rfl (by decide) (by decide) (by decide) rfl
        refine k_endi (As := [.ref mo]) ct (k_runV (As := []) (rest := []) S0 Lv_L_83 rfl (ci := 8) (q0 := 0) rfl rfl ct (c_M_thrown l D mo ms (nI (h_kp hs)) mb (nI ty) 2 mk ml mfd mf sp on tw H.size) hl.1 rfl (Nat.le_of_ble_eq_true rfl) rfl dL_law_507 ⟨⟨Nat.le_of_ble_eq_true rfl, Nat.le_of_ble_eq_true rfl⟩, (show C9 + 1 ≤ 601024 by omega), (show S9 + 6 ≤ 7293034 by omega)⟩) rfl rfl (fun r_14 _ H locs hw_15 hP hD hK hS => ?_)
        have hP : va_P D vwCl ((mk, .inl (K, 41, .inl lk)) :: (mfd, .inl (K, 9, .inl fd)) :: (mb, .inl (KC, 60, .inl cf)) :: ((a 25), .inr (4, [.ref (a 26), .int (nI ty)])) :: ((a 26), .inl (K, 60, .inl bf)) :: ((a 27), .inr (1, [.int pk, .int pf, .int ps, .int pn, .int pp, .int pm])) :: (out, .inl (KL, 1, .inr (.inl ofn))) :: (ms, .inl (K, 889, .inl sf)) :: (mo, .inr (8, [.ref ms, .int (nI (h_kp hs)), .ref mb, .int (nI ty), .int 2, .ref mk, .int ml, .ref mfd, .int mf, .int sp, .int on, .int tw])) :: (WW a K KS st hs sc)) H := k_swapP (a := [(mk, .inl (K, 41, .inl lk)), (mfd, .inl (K, 9, .inl fd)), (mb, .inl (KC, 60, .inl cf)), ((a 25), .inr (4, [.ref (a 26), .int (nI ty)])), ((a 26), .inl (K, 60, .inl bf)), ((a 27), .inr (1, [.int pk, .int pf, .int ps, .int pn, .int pp, .int pm])), (out, .inl (KL, 1, .inr (.inl ofn))), (ms, .inl (K, 889, .inl sf))]) (b := (WW a K KS st hs sc)) (c := [(mo, .inr (8, [.ref ms, .int (nI (h_kp hs)), .ref mb, .int (nI ty), .int 2, .ref mk, .int ml, .ref mfd, .int mf, .int sp, .int on, .int tw]))]) hP
        have hD : va_D A ((mk, .inl (K, 41, .inl lk)) :: (mfd, .inl (K, 9, .inl fd)) :: (mb, .inl (KC, 60, .inl cf)) :: ((a 25), .inr (4, [.ref (a 26), .int (nI ty)])) :: ((a 26), .inl (K, 60, .inl bf)) :: ((a 27), .inr (1, [.int pk, .int pf, .int ps, .int pn, .int pp, .int pm])) :: (out, .inl (KL, 1, .inr (.inl ofn))) :: (ms, .inl (K, 889, .inl sf)) :: (mo, .inr (8, [.ref ms, .int (nI (h_kp hs)), .ref mb, .int (nI ty), .int 2, .ref mk, .int ml, .ref mfd, .int mf, .int sp, .int on, .int tw])) :: (WW a K KS st hs sc)) := va_D.swap (a := [(mk, .inl (K, 41, .inl lk)), (mfd, .inl (K, 9, .inl fd)), (mb, .inl (KC, 60, .inl cf)), ((a 25), .inr (4, [.ref (a 26), .int (nI ty)])), ((a 26), .inl (K, 60, .inl bf)), ((a 27), .inr (1, [.int pk, .int pf, .int ps, .int pn, .int pp, .int pm])), (out, .inl (KL, 1, .inr (.inl ofn))), (ms, .inl (K, 889, .inl sf))]) (b := (WW a K KS st hs sc)) (c := [(mo, .inr (8, [.ref ms, .int (nI (h_kp hs)), .ref mb, .int (nI ty), .int 2, .ref mk, .int ml, .ref mfd, .int mf, .int sp, .int on, .int tw]))]) hD
        have hK : va_K D vwCl [(K, .int), (KS, .object "BarcodeWand$State"), (KL, .long), (KC, .char)] s := hK
        have hP : va_P D vwCl ((mk, .inl (K, 41, .inl lk)) :: (mfd, .inl (K, 9, .inl fd)) :: (mb, .inl (KC, 60, .inl cf)) :: ((a 25), .inr (4, [.ref (a 26), .int (nI ty)])) :: ((a 26), .inl (K, 60, .inl bf)) :: ((a 27), .inr (1, [.int pk, .int pf, .int ps, .int pn, .int pp, .int pm])) :: (out, .inl (KL, 1, .inr (.inl ofn))) :: (ms, .inl (K, 889, .inl sf)) :: (mo, .inr (8, [.ref ms, .int (nI (h_kp hs)), .ref mb, .int (nI ty), .int 2, .ref mk, .int ml, .ref mfd, .int mf, .int sp, .int on, .int tw])) :: (WW a K KS st hs sc)) H := hP
        have hD : va_D A ((mk, .inl (K, 41, .inl lk)) :: (mfd, .inl (K, 9, .inl fd)) :: (mb, .inl (KC, 60, .inl cf)) :: ((a 25), .inr (4, [.ref (a 26), .int (nI ty)])) :: ((a 26), .inl (K, 60, .inl bf)) :: ((a 27), .inr (1, [.int pk, .int pf, .int ps, .int pn, .int pp, .int pm])) :: (out, .inl (KL, 1, .inr (.inl ofn))) :: (ms, .inl (K, 889, .inl sf)) :: (mo, .inr (8, [.ref ms, .int (nI (h_kp hs)), .ref mb, .int (nI ty), .int 2, .ref mk, .int ml, .ref mfd, .int mf, .int sp, .int on, .int tw])) :: (WW a K KS st hs sc)) := hD
        have hw_15 : r_14 = 2 := hw_15
        have hw_15 := hw_15.symm
        subst hw_15
        refine k_nrm (y := 2) rfl ?_
        refine lv_iload hx hb dL_law_510 (lv_at hl 1 rfl) ?_
        refine lv_icmp_eq (tgt := 517) hx hb dL_law_512 (by decide) (fun _ => ?_) (fun c9 => absurd (by decide) c9)
        refine lv_iload hx hb dL_law_517 (lv_at hl 1 rfl) ?_
        refine lv_if_ne (tgt := 534) hx hb dL_law_519 (by decide) (fun _ => ?_) (fun c9 => absurd c9 (by decide))
        refine lv_goto (tgt := 1479) hx hb dL_law_534 (by decide) ?_
        have hP9 : va_P D vwCl ((mo, .inr (8, [.ref ms, .int (nI (h_kp hs)), .ref mb, .int (nI ty), .int 2, .ref mk, .int ml, .ref mfd, .int mf, .int sp, .int on, .int tw])) :: (ms, .inl (K, 889, .inl sf)) :: (mk, .inl (K, 41, .inl lk)) :: (mfd, .inl (K, 9, .inl fd)) :: (mb, .inl (KC, 60, .inl cf)) :: ((a 25), .inr (4, [.ref (a 26), .int (nI ty)])) :: ((a 26), .inl (K, 60, .inl bf)) :: ((a 27), .inr (1, [.int pk, .int pf, .int ps, .int pn, .int pp, .int pm])) :: (out, .inl (KL, 1, .inr (.inl ofn))) :: (WW a K KS st hs sc)) H := k_subP (wp := [(mk, .inl (K, 41, .inl lk)), (mfd, .inl (K, 9, .inl fd)), (mb, .inl (KC, 60, .inl cf)), ((a 25), .inr (4, [.ref (a 26), .int (nI ty)])), ((a 26), .inl (K, 60, .inl bf)), ((a 27), .inr (1, [.int pk, .int pf, .int ps, .int pn, .int pp, .int pm])), (out, .inl (KL, 1, .inr (.inl ofn))), (ms, .inl (K, 889, .inl sf)), (mo, .inr (8, [.ref ms, .int (nI (h_kp hs)), .ref mb, .int (nI ty), .int 2, .ref mk, .int ml, .ref mfd, .int mf, .int sp, .int on, .int tw]))]) (wp' := [(mo, .inr (8, [.ref ms, .int (nI (h_kp hs)), .ref mb, .int (nI ty), .int 2, .ref mk, .int ml, .ref mfd, .int mf, .int sp, .int on, .int tw])), (ms, .inl (K, 889, .inl sf)), (mk, .inl (K, 41, .inl lk)), (mfd, .inl (K, 9, .inl fd)), (mb, .inl (KC, 60, .inl cf)), ((a 25), .inr (4, [.ref (a 26), .int (nI ty)])), ((a 26), .inl (K, 60, .inl bf)), ((a 27), .inr (1, [.int pk, .int pf, .int ps, .int pn, .int pp, .int pm])), (out, .inl (KL, 1, .inr (.inl ofn)))]) (T := (WW a K KS st hs sc)) hP [8, 7, 0, 1, 2, 3, 4, 5, 6] rfl
        have hD9 : va_D A ((mo, .inr (8, [.ref ms, .int (nI (h_kp hs)), .ref mb, .int (nI ty), .int 2, .ref mk, .int ml, .ref mfd, .int mf, .int sp, .int on, .int tw])) :: (ms, .inl (K, 889, .inl sf)) :: (mk, .inl (K, 41, .inl lk)) :: (mfd, .inl (K, 9, .inl fd)) :: (mb, .inl (KC, 60, .inl cf)) :: ((a 25), .inr (4, [.ref (a 26), .int (nI ty)])) :: ((a 26), .inl (K, 60, .inl bf)) :: ((a 27), .inr (1, [.int pk, .int pf, .int ps, .int pn, .int pp, .int pm])) :: (out, .inl (KL, 1, .inr (.inl ofn))) :: (WW a K KS st hs sc)) := k_subD (wp := [(mk, .inl (K, 41, .inl lk)), (mfd, .inl (K, 9, .inl fd)), (mb, .inl (KC, 60, .inl cf)), ((a 25), .inr (4, [.ref (a 26), .int (nI ty)])), ((a 26), .inl (K, 60, .inl bf)), ((a 27), .inr (1, [.int pk, .int pf, .int ps, .int pn, .int pp, .int pm])), (out, .inl (KL, 1, .inr (.inl ofn))), (ms, .inl (K, 889, .inl sf)), (mo, .inr (8, [.ref ms, .int (nI (h_kp hs)), .ref mb, .int (nI ty), .int 2, .ref mk, .int ml, .ref mfd, .int mf, .int sp, .int on, .int tw]))]) (wp' := [(mo, .inr (8, [.ref ms, .int (nI (h_kp hs)), .ref mb, .int (nI ty), .int 2, .ref mk, .int ml, .ref mfd, .int mf, .int sp, .int on, .int tw])), (ms, .inl (K, 889, .inl sf)), (mk, .inl (K, 41, .inl lk)), (mfd, .inl (K, 9, .inl fd)), (mb, .inl (KC, 60, .inl cf)), ((a 25), .inr (4, [.ref (a 26), .int (nI ty)])), ((a 26), .inl (K, 60, .inl bf)), ((a 27), .inr (1, [.int pk, .int pf, .int ps, .int pn, .int pp, .int pm])), (out, .inl (KL, 1, .inr (.inl ofn)))]) (T := (WW a K KS st hs sc)) hD [8, 7, 0, 1, 2, 3, 4, 5, 6] (by decide) rfl
        subst hAe
        refine W.widen (k := Cn) (n := Sn) (by omega) (by omega) ?_
        exact next st hs sc sf lk fd bf cf ofn ty 2 ml mf sp on tw pk pf ps pn pp pm H locs ls hLW hBU hP9 hD9 hS (lv_sub hl [2, 3, 4, 5, 6] rfl)
    · skip
      refine lv_aload_n hx hb dL_law_441 rfl (lv_at hl 3 rfl) ?_
      refine lv_aload_n hx hb dL_law_442 rfl (lv_at hl 4 rfl) ?_
      refine lv_iload hx hb dL_law_443 (lv_at hl 0 rfl) ?_
      refine lv_iconst (v := 1) hx hb dL_law_445 (by decide) ?_
      refine lv_iadd hx hb dL_law_446 ?_
      refine k_nrm (y := (nI (i + 1))) (nI_add i 1) ?_
      refine va_sld hx hb hX hbl hbA hS (vp_in_nI (by omega) (by omega)) dL_law_447 ?_
      refine k_nrm (y := y1) ((by rw [nI_clamp (by omega)]; exact hy1.symm)) ?_
      refine lv_aload_n hx hb dL_law_448 rfl (lv_at hl 4 rfl) ?_
      refine lv_iload hx hb dL_law_449 (lv_at hl 0 rfl) ?_
      refine lv_iconst (v := 2) hx hb dL_law_451 (by decide) ?_
      refine lv_iadd hx hb dL_law_452 ?_
      refine k_nrm (y := (nI (i + 2))) (nI_add i 2) ?_
      refine va_sld hx hb hX hbl hbA hS (vp_in_nI (by omega) (by omega)) dL_law_453 ?_
      refine k_nrm (y := y2) ((by rw [nI_clamp (by omega)]; exact hy2.symm)) ?_
      refine lv_aload_n hx hb dL_law_454 rfl (lv_at hl 4 rfl) ?_
      refine lv_iload hx hb dL_law_455 (lv_at hl 0 rfl) ?_
      refine lv_iconst (v := 3) hx hb dL_law_457 (by decide) ?_
      refine lv_iadd hx hb dL_law_458 ?_
      refine k_nrm (y := (nI (i + 3))) (nI_add i 3) ?_
      refine va_sld hx hb hX hbl hbA hS (vp_in_nI (by omega) (by omega)) dL_law_459 ?_
      refine k_nrm (y := y3) ((by rw [nI_clamp (by omega)]; exact hy3.symm)) ?_
      refine lv_if_eq (tgt := 467) hx hb dL_law_460 (by decide) (fun c_16 => ?_) (fun c_16 => ?_)
      · have hc9 := c_16
        refine lv_iconst (v := 0) hx hb dL_law_467 (by decide) ?_
        refine lv_aload_n hx hb dL_law_468 rfl (lv_at hl 1 rfl) ?_
        have ct := k_cut_TT (wp := [(mo, .inr (8, [.ref ms, .int (nI (h_kp hs)), .ref mb, .int (nI ty), .int th, .ref mk, .int ml, .ref mfd, .int mf, .int sp, .int on, .int tw])), (ms, .inl (K, 889, .inl sf)), (mk, .inl (K, 41, .inl lk)), (mfd, .inl (K, 9, .inl fd)), (mb, .inl (KC, 60, .inl cf)), ((a 25), .inr (4, [.ref (a 26), .int (nI ty)])), ((a 26), .inl (K, 60, .inl bf)), ((a 27), .inr (1, [.int pk, .int pf, .int ps, .int pn, .int pp, .int pm])), (out, .inl (KL, 1, .inr (.inl ofn)))]) (T := (WW a K KS st hs sc)) (wc := [(out, .inl (KL, 1, .inr (.inl ofn)))]) (wr := [(mo, .inr (8, [.ref ms, .int (nI (h_kp hs)), .ref mb, .int (nI ty), .int th, .ref mk, .int ml, .ref mfd, .int mf, .int sp, .int on, .int tw])), (ms, .inl (K, 889, .inl sf)), (mk, .inl (K, 41, .inl lk)), (mfd, .inl (K, 9, .inl fd)), (mb, .inl (KC, 60, .inl cf)), ((a 25), .inr (4, [.ref (a 26), .int (nI ty)])), ((a 26), .inl (K, 60, .inl bf)), ((a 27), .inr (1, [.int pk, .int pf, .int ps, .int pn, .int pp, .int pm]))]) (tc := [(K, .int), (KS, .object "BarcodeWand$State"), (KL, .long)]) hG hS hA hK hP hD [8] [0, 1, 2, 3, 4, 5, 6, 7] [0, 1, 2] rfl rfl (by decide) (by decide) (by decide) rfl
        refine k_endi (As := [.ref (a 0), .int y1, .int y2, .int 0, .ref out]) ct (k_runSW (As := [.ref (a 0), .int y1, .int y2, .int 0, .ref out]) (rest := []) S0 Ls_L_100 ct (c_L_draw l D a K KS st hs sc y1 y2 0 out KL ofn (by assumption) (by assumption) (by assumption) (by assumption) H.size) hl.1 rfl (Nat.le_of_ble_eq_true rfl) rfl dL_law_469 ⟨⟨Nat.le_of_ble_eq_true rfl, Nat.le_of_ble_eq_true rfl⟩, (show C9 ≤ 601024 by omega), (show S9 ≤ 7293034 by omega)⟩) rfl rfl (fun r_17 u H locs hw_18 hP hD hK hS => ?_)
        obtain ⟨stq, scq, ogq, rvq⟩ := u
        have hK : va_K D vwCl [(K, .int), (KS, .object "BarcodeWand$State"), (KL, .long), (KC, .char)] s := hK
        have hP : va_P D vwCl ((mo, .inr (8, [.ref ms, .int (nI (h_kp hs)), .ref mb, .int (nI ty), .int th, .ref mk, .int ml, .ref mfd, .int mf, .int sp, .int on, .int tw])) :: (ms, .inl (K, 889, .inl sf)) :: (mk, .inl (K, 41, .inl lk)) :: (mfd, .inl (K, 9, .inl fd)) :: (mb, .inl (KC, 60, .inl cf)) :: ((a 25), .inr (4, [.ref (a 26), .int (nI ty)])) :: ((a 26), .inl (K, 60, .inl bf)) :: ((a 27), .inr (1, [.int pk, .int pf, .int ps, .int pn, .int pp, .int pm])) :: (out, .inl (KL, 1, .inr (.inl ogq))) :: (WW a K KS stq (svH hs st) scq)) H := hP
        have hD : va_D A ((mo, .inr (8, [.ref ms, .int (nI (h_kp hs)), .ref mb, .int (nI ty), .int th, .ref mk, .int ml, .ref mfd, .int mf, .int sp, .int on, .int tw])) :: (ms, .inl (K, 889, .inl sf)) :: (mk, .inl (K, 41, .inl lk)) :: (mfd, .inl (K, 9, .inl fd)) :: (mb, .inl (KC, 60, .inl cf)) :: ((a 25), .inr (4, [.ref (a 26), .int (nI ty)])) :: ((a 26), .inl (K, 60, .inl bf)) :: ((a 27), .inr (1, [.int pk, .int pf, .int ps, .int pn, .int pp, .int pm])) :: (out, .inl (KL, 1, .inr (.inl ogq))) :: (WW a K KS stq (svH hs st) scq)) := hD
        rcases hw_18 with ⟨rfl, c_19, c_20⟩
        · skip
          refine lv_istore (lv' := [(5, .int 0), (4, .int (nI i)), (3, .ref out), (2, .ref mo), (1, .ref (a 0)), (0, .ref b)]) hx hb dL_law_472 hl (by decide) rfl (fun ls hl => ?_)
          refine lv_aload_n hx hb dL_law_474 rfl (lv_at hl 3 rfl) ?_
          refine lv_aload_n hx hb dL_law_475 rfl (lv_at hl 5 rfl) ?_
          refine lv_iload hx hb dL_law_476 (lv_at hl 1 rfl) ?_
          refine lv_iconst (v := 1) hx hb dL_law_478 (by decide) ?_
          refine lv_iadd hx hb dL_law_479 ?_
          refine k_nrm (y := (nI (i + 1))) (nI_add i 1) ?_
          refine va_sld hx hb hX hbl hbA hS (vp_in_nI (by omega) (by omega)) dL_law_480 ?_
          refine k_nrm (y := y1) ((by rw [nI_clamp (by omega)]; exact hy1.symm)) ?_
          refine lv_aload_n hx hb dL_law_481 rfl (lv_at hl 5 rfl) ?_
          refine lv_iload hx hb dL_law_482 (lv_at hl 1 rfl) ?_
          refine lv_iconst (v := 2) hx hb dL_law_484 (by decide) ?_
          refine lv_iadd hx hb dL_law_485 ?_
          refine k_nrm (y := (nI (i + 2))) (nI_add i 2) ?_
          refine va_sld hx hb hX hbl hbA hS (vp_in_nI (by omega) (by omega)) dL_law_486 ?_
          refine k_nrm (y := y2) ((by rw [nI_clamp (by omega)]; exact hy2.symm)) ?_
          refine lv_aload_n hx hb dL_law_487 rfl (lv_at hl 5 rfl) ?_
          refine lv_iload hx hb dL_law_488 (lv_at hl 1 rfl) ?_
          refine lv_iconst (v := 3) hx hb dL_law_490 (by decide) ?_
          refine lv_iadd hx hb dL_law_491 ?_
          refine k_nrm (y := (nI (i + 3))) (nI_add i 3) ?_
          refine va_sld hx hb hX hbl hbA hS (vp_in_nI (by omega) (by omega)) dL_law_492 ?_
          refine k_nrm (y := y3) ((by rw [nI_clamp (by omega)]; exact hy3.symm)) ?_
          refine lv_if_eq (tgt := 500) hx hb dL_law_493 (by decide) (fun c_21 => ?_) (fun c9 => absurd c_16 c9)
          refine lv_iconst (v := 0) hx hb dL_law_500 (by decide) ?_
          have ct := k_cut_T (wp := [(mo, .inr (8, [.ref ms, .int (nI (h_kp hs)), .ref mb, .int (nI ty), .int th, .ref mk, .int ml, .ref mfd, .int mf, .int sp, .int on, .int tw])), (ms, .inl (K, 889, .inl sf)), (mk, .inl (K, 41, .inl lk)), (mfd, .inl (K, 9, .inl fd)), (mb, .inl (KC, 60, .inl cf)), ((a 25), .inr (4, [.ref (a 26), .int (nI ty)])), ((a 26), .inl (K, 60, .inl bf)), ((a 27), .inr (1, [.int pk, .int pf, .int ps, .int pn, .int pp, .int pm])), (out, .inl (KL, 1, .inr (.inl ogq)))]) (T := (WW a K KS stq (svH hs st) scq)) (wc := [(mo, .inr (8, [.ref ms, .int (nI (h_kp hs)), .ref mb, .int (nI ty), .int th, .ref mk, .int ml, .ref mfd, .int mf, .int sp, .int on, .int tw])), (ms, .inl (K, 889, .inl sf)), (mk, .inl (K, 41, .inl lk)), (mfd, .inl (K, 9, .inl fd))]) (wr := [(mb, .inl (KC, 60, .inl cf)), ((a 25), .inr (4, [.ref (a 26), .int (nI ty)])), ((a 26), .inl (K, 60, .inl bf)), ((a 27), .inr (1, [.int pk, .int pf, .int ps, .int pn, .int pp, .int pm])), (out, .inl (KL, 1, .inr (.inl ogq)))]) (tc := [(K, .int)]) hG hS hA hK hP hD [0, 1, 2, 3] [4, 5, 6, 7, 8] [0] rfl rfl (by decide) (by decide) (by decide) rfl
          refine k_endi (As := [.ref mo, .int y1, .int y2, .int 0]) ct (k_runV (As := [.int y1, .int y2, .int 0]) (rest := []) S0 Lv_L_103 rfl (ci := 8) (q0 := 0) rfl rfl ct (c_M_draw l D mo ms (h_kp hs) mb (nI ty) th mk ml mfd mf sp on tw K sf lk fd st y1 y2 0 stq rvq (by assumption) (by assumption) (by assumption) (by first | assumption | omega) (by assumption) (by assumption) (by assumption) H.size) hl.1 rfl (Nat.le_of_ble_eq_true rfl) rfl dL_law_501 ⟨⟨Nat.le_of_ble_eq_true rfl, Nat.le_of_ble_eq_true rfl⟩, (show C9 ≤ 601024 by omega), (show S9 ≤ 7293034 by omega)⟩) rfl rfl (fun r_22 u H locs hw_28 hP hD hK hS => ?_)
          obtain ⟨ml1v_23, mf1v_24, sg_25, lk1v_26, fd1v_27⟩ := u
          have hP : va_P D vwCl ((mb, .inl (KC, 60, .inl cf)) :: ((a 25), .inr (4, [.ref (a 26), .int (nI ty)])) :: ((a 26), .inl (K, 60, .inl bf)) :: ((a 27), .inr (1, [.int pk, .int pf, .int ps, .int pn, .int pp, .int pm])) :: (out, .inl (KL, 1, .inr (.inl ogq))) :: (mo, .inr (8, [.ref ms, .int (nI (min ((h_kp hs) + 1) 6)), .ref mb, .int (nI ty), .int 0, .ref mk, .int ml1v_23, .ref mfd, .int mf1v_24, .int sp, .int on, .int tw])) :: (ms, .inl (K, 889, .inl sg_25)) :: (mk, .inl (K, 41, .inl lk1v_26)) :: (mfd, .inl (K, 9, .inl fd1v_27)) :: (WW a K KS stq (svH hs st) scq)) H := k_swapP (a := [(mb, .inl (KC, 60, .inl cf)), ((a 25), .inr (4, [.ref (a 26), .int (nI ty)])), ((a 26), .inl (K, 60, .inl bf)), ((a 27), .inr (1, [.int pk, .int pf, .int ps, .int pn, .int pp, .int pm])), (out, .inl (KL, 1, .inr (.inl ogq)))]) (b := (WW a K KS stq (svH hs st) scq)) (c := [(mo, .inr (8, [.ref ms, .int (nI (min ((h_kp hs) + 1) 6)), .ref mb, .int (nI ty), .int 0, .ref mk, .int ml1v_23, .ref mfd, .int mf1v_24, .int sp, .int on, .int tw])), (ms, .inl (K, 889, .inl sg_25)), (mk, .inl (K, 41, .inl lk1v_26)), (mfd, .inl (K, 9, .inl fd1v_27))]) hP
          have hD : va_D A ((mb, .inl (KC, 60, .inl cf)) :: ((a 25), .inr (4, [.ref (a 26), .int (nI ty)])) :: ((a 26), .inl (K, 60, .inl bf)) :: ((a 27), .inr (1, [.int pk, .int pf, .int ps, .int pn, .int pp, .int pm])) :: (out, .inl (KL, 1, .inr (.inl ogq))) :: (mo, .inr (8, [.ref ms, .int (nI (min ((h_kp hs) + 1) 6)), .ref mb, .int (nI ty), .int 0, .ref mk, .int ml1v_23, .ref mfd, .int mf1v_24, .int sp, .int on, .int tw])) :: (ms, .inl (K, 889, .inl sg_25)) :: (mk, .inl (K, 41, .inl lk1v_26)) :: (mfd, .inl (K, 9, .inl fd1v_27)) :: (WW a K KS stq (svH hs st) scq)) := va_D.swap (a := [(mb, .inl (KC, 60, .inl cf)), ((a 25), .inr (4, [.ref (a 26), .int (nI ty)])), ((a 26), .inl (K, 60, .inl bf)), ((a 27), .inr (1, [.int pk, .int pf, .int ps, .int pn, .int pp, .int pm])), (out, .inl (KL, 1, .inr (.inl ogq)))]) (b := (WW a K KS stq (svH hs st) scq)) (c := [(mo, .inr (8, [.ref ms, .int (nI (min ((h_kp hs) + 1) 6)), .ref mb, .int (nI ty), .int 0, .ref mk, .int ml1v_23, .ref mfd, .int mf1v_24, .int sp, .int on, .int tw])), (ms, .inl (K, 889, .inl sg_25)), (mk, .inl (K, 41, .inl lk1v_26)), (mfd, .inl (K, 9, .inl fd1v_27))]) hD
          have hK : va_K D vwCl [(K, .int), (KS, .object "BarcodeWand$State"), (KL, .long), (KC, .char)] s := hK
          have hP : va_P D vwCl ((mb, .inl (KC, 60, .inl cf)) :: ((a 25), .inr (4, [.ref (a 26), .int (nI ty)])) :: ((a 26), .inl (K, 60, .inl bf)) :: ((a 27), .inr (1, [.int pk, .int pf, .int ps, .int pn, .int pp, .int pm])) :: (out, .inl (KL, 1, .inr (.inl ogq))) :: (mo, .inr (8, [.ref ms, .int (nI (min ((h_kp hs) + 1) 6)), .ref mb, .int (nI ty), .int 0, .ref mk, .int ml1v_23, .ref mfd, .int mf1v_24, .int sp, .int on, .int tw])) :: (ms, .inl (K, 889, .inl sg_25)) :: (mk, .inl (K, 41, .inl lk1v_26)) :: (mfd, .inl (K, 9, .inl fd1v_27)) :: (WW a K KS stq (svH hs st) scq)) H := hP
          have hD : va_D A ((mb, .inl (KC, 60, .inl cf)) :: ((a 25), .inr (4, [.ref (a 26), .int (nI ty)])) :: ((a 26), .inl (K, 60, .inl bf)) :: ((a 27), .inr (1, [.int pk, .int pf, .int ps, .int pn, .int pp, .int pm])) :: (out, .inl (KL, 1, .inr (.inl ogq))) :: (mo, .inr (8, [.ref ms, .int (nI (min ((h_kp hs) + 1) 6)), .ref mb, .int (nI ty), .int 0, .ref mk, .int ml1v_23, .ref mfd, .int mf1v_24, .int sp, .int on, .int tw])) :: (ms, .inl (K, 889, .inl sg_25)) :: (mk, .inl (K, 41, .inl lk1v_26)) :: (mfd, .inl (K, 9, .inl fd1v_27)) :: (WW a K KS stq (svH hs st) scq)) := hD
          have hw_28 : r_22 = rvq ∧ RS stq sg_25 ∧ hiEq sg_25 (svM (h_kp hs) sf) := hw_28
          refine lv_istore (lv' := [(6, .int r_22), (5, .int 0), (4, .int (nI i)), (3, .ref out), (2, .ref mo), (1, .ref (a 0)), (0, .ref b)]) hx hb dL_law_504 hl (by decide) rfl (fun ls hl => ?_)
          refine lv_aload_n hx hb dL_law_506 rfl (lv_at hl 4 rfl) ?_
          have ct := k_cut_T (wp := [(mb, .inl (KC, 60, .inl cf)), ((a 25), .inr (4, [.ref (a 26), .int (nI ty)])), ((a 26), .inl (K, 60, .inl bf)), ((a 27), .inr (1, [.int pk, .int pf, .int ps, .int pn, .int pp, .int pm])), (out, .inl (KL, 1, .inr (.inl ogq))), (mo, .inr (8, [.ref ms, .int (nI (min ((h_kp hs) + 1) 6)), .ref mb, .int (nI ty), .int 0, .ref mk, .int ml1v_23, .ref mfd, .int mf1v_24, .int sp, .int on, .int tw])), (ms, .inl (K, 889, .inl sg_25)), (mk, .inl (K, 41, .inl lk1v_26)), (mfd, .inl (K, 9, .inl fd1v_27))]) (T := (WW a K KS stq (svH hs st) scq)) (wc := [(mo, .inr (8, [.ref ms, .int (nI (min ((h_kp hs) + 1) 6)), .ref mb, .int (nI ty), .int 0, .ref mk, .int ml1v_23, .ref mfd, .int mf1v_24, .int sp, .int on, .int tw]))]) (wr := [(mb, .inl (KC, 60, .inl cf)), ((a 25), .inr (4, [.ref (a 26), .int (nI ty)])), ((a 26), .inl (K, 60, .inl bf)), ((a 27), .inr (1, [.int pk, .int pf, .int ps, .int pn, .int pp, .int pm])), (out, .inl (KL, 1, .inr (.inl ogq))), (ms, .inl (K, 889, .inl sg_25)), (mk, .inl (K, 41, .inl lk1v_26)), (mfd, .inl (K, 9, .inl fd1v_27))]) (tc := []) hG hS hA hK hP hD [5] [0, 1, 2, 3, 4, 6, 7, 8] [] rfl rfl (by decide) (by decide) (by decide) rfl
          refine k_endi (As := [.ref mo]) ct (k_runV (As := []) (rest := []) S0 Lv_L_83 rfl (ci := 8) (q0 := 0) rfl rfl ct (c_M_thrown l D mo ms (nI (min ((h_kp hs) + 1) 6)) mb (nI ty) 0 mk ml1v_23 mfd mf1v_24 sp on tw H.size) hl.1 rfl (Nat.le_of_ble_eq_true rfl) rfl dL_law_507 ⟨⟨Nat.le_of_ble_eq_true rfl, Nat.le_of_ble_eq_true rfl⟩, (show C9 ≤ 601024 by omega), (show S9 ≤ 7293034 by omega)⟩) rfl rfl (fun r_29 _ H locs hw_30 hP hD hK hS => ?_)
          have hP : va_P D vwCl ((mb, .inl (KC, 60, .inl cf)) :: ((a 25), .inr (4, [.ref (a 26), .int (nI ty)])) :: ((a 26), .inl (K, 60, .inl bf)) :: ((a 27), .inr (1, [.int pk, .int pf, .int ps, .int pn, .int pp, .int pm])) :: (out, .inl (KL, 1, .inr (.inl ogq))) :: (ms, .inl (K, 889, .inl sg_25)) :: (mk, .inl (K, 41, .inl lk1v_26)) :: (mfd, .inl (K, 9, .inl fd1v_27)) :: (mo, .inr (8, [.ref ms, .int (nI (min ((h_kp hs) + 1) 6)), .ref mb, .int (nI ty), .int 0, .ref mk, .int ml1v_23, .ref mfd, .int mf1v_24, .int sp, .int on, .int tw])) :: (WW a K KS stq (svH hs st) scq)) H := k_swapP (a := [(mb, .inl (KC, 60, .inl cf)), ((a 25), .inr (4, [.ref (a 26), .int (nI ty)])), ((a 26), .inl (K, 60, .inl bf)), ((a 27), .inr (1, [.int pk, .int pf, .int ps, .int pn, .int pp, .int pm])), (out, .inl (KL, 1, .inr (.inl ogq))), (ms, .inl (K, 889, .inl sg_25)), (mk, .inl (K, 41, .inl lk1v_26)), (mfd, .inl (K, 9, .inl fd1v_27))]) (b := (WW a K KS stq (svH hs st) scq)) (c := [(mo, .inr (8, [.ref ms, .int (nI (min ((h_kp hs) + 1) 6)), .ref mb, .int (nI ty), .int 0, .ref mk, .int ml1v_23, .ref mfd, .int mf1v_24, .int sp, .int on, .int tw]))]) hP
          have hD : va_D A ((mb, .inl (KC, 60, .inl cf)) :: ((a 25), .inr (4, [.ref (a 26), .int (nI ty)])) :: ((a 26), .inl (K, 60, .inl bf)) :: ((a 27), .inr (1, [.int pk, .int pf, .int ps, .int pn, .int pp, .int pm])) :: (out, .inl (KL, 1, .inr (.inl ogq))) :: (ms, .inl (K, 889, .inl sg_25)) :: (mk, .inl (K, 41, .inl lk1v_26)) :: (mfd, .inl (K, 9, .inl fd1v_27)) :: (mo, .inr (8, [.ref ms, .int (nI (min ((h_kp hs) + 1) 6)), .ref mb, .int (nI ty), .int 0, .ref mk, .int ml1v_23, .ref mfd, .int mf1v_24, .int sp, .int on, .int tw])) :: (WW a K KS stq (svH hs st) scq)) := va_D.swap (a := [(mb, .inl (KC, 60, .inl cf)), ((a 25), .inr (4, [.ref (a 26), .int (nI ty)])), ((a 26), .inl (K, 60, .inl bf)), ((a 27), .inr (1, [.int pk, .int pf, .int ps, .int pn, .int pp, .int pm])), (out, .inl (KL, 1, .inr (.inl ogq))), (ms, .inl (K, 889, .inl sg_25)), (mk, .inl (K, 41, .inl lk1v_26)), (mfd, .inl (K, 9, .inl fd1v_27))]) (b := (WW a K KS stq (svH hs st) scq)) (c := [(mo, .inr (8, [.ref ms, .int (nI (min ((h_kp hs) + 1) 6)), .ref mb, .int (nI ty), .int 0, .ref mk, .int ml1v_23, .ref mfd, .int mf1v_24, .int sp, .int on, .int tw]))]) hD
          have hK : va_K D vwCl [(K, .int), (KS, .object "BarcodeWand$State"), (KL, .long), (KC, .char)] s := hK
          have hP : va_P D vwCl ((mb, .inl (KC, 60, .inl cf)) :: ((a 25), .inr (4, [.ref (a 26), .int (nI ty)])) :: ((a 26), .inl (K, 60, .inl bf)) :: ((a 27), .inr (1, [.int pk, .int pf, .int ps, .int pn, .int pp, .int pm])) :: (out, .inl (KL, 1, .inr (.inl ogq))) :: (ms, .inl (K, 889, .inl sg_25)) :: (mk, .inl (K, 41, .inl lk1v_26)) :: (mfd, .inl (K, 9, .inl fd1v_27)) :: (mo, .inr (8, [.ref ms, .int (nI (min ((h_kp hs) + 1) 6)), .ref mb, .int (nI ty), .int 0, .ref mk, .int ml1v_23, .ref mfd, .int mf1v_24, .int sp, .int on, .int tw])) :: (WW a K KS stq (svH hs st) scq)) H := hP
          have hD : va_D A ((mb, .inl (KC, 60, .inl cf)) :: ((a 25), .inr (4, [.ref (a 26), .int (nI ty)])) :: ((a 26), .inl (K, 60, .inl bf)) :: ((a 27), .inr (1, [.int pk, .int pf, .int ps, .int pn, .int pp, .int pm])) :: (out, .inl (KL, 1, .inr (.inl ogq))) :: (ms, .inl (K, 889, .inl sg_25)) :: (mk, .inl (K, 41, .inl lk1v_26)) :: (mfd, .inl (K, 9, .inl fd1v_27)) :: (mo, .inr (8, [.ref ms, .int (nI (min ((h_kp hs) + 1) 6)), .ref mb, .int (nI ty), .int 0, .ref mk, .int ml1v_23, .ref mfd, .int mf1v_24, .int sp, .int on, .int tw])) :: (WW a K KS stq (svH hs st) scq)) := hD
          have hw_30 : r_29 = 0 := hw_30
          have hw_30 := hw_30.symm
          subst hw_30
          refine k_nrm (y := 0) rfl ?_
          refine lv_iload hx hb dL_law_510 (lv_at hl 1 rfl) ?_
          refine lv_icmp_eq (tgt := 517) hx hb dL_law_512 (by decide) (fun _ => ?_) (fun c9 => absurd (by decide) c9)
          refine lv_iload hx hb dL_law_517 (lv_at hl 1 rfl) ?_
          refine lv_if_ne (tgt := 534) hx hb dL_law_519 (by decide) (fun c9 => absurd (by decide) c9) (fun _ => ?_)
          refine lv_aload_n hx hb dL_law_522 rfl (lv_at hl 3 rfl) ?_
          refine lv_iconst (v := 0) hx hb dL_law_523 (by decide) ?_
          refine va_lald hx hb hK hP 4 2 rfl rfl (by unfold vp_in; decide) dL_law_524 ?_
          refine k_nrml (y := rvq.toInt64) (show ogq (0 : Int32).toNatClampNeg = rvq.toInt64 from c_20) ?_
          refine lv_iload hx hb dL_law_525 (lv_at hl 0 rfl) ?_
          refine lv_i2l (v := r_22.toInt64) hx hb dL_law_527 rfl ?_
          refine W.lcmp hx hb dL_law_528 ?_
          refine k_nrm (y := 0) (lg_same rfl (hw_28.1.symm)) ?_
          refine lv_if_eq (tgt := 534) hx hb dL_law_529 (by decide) (fun _ => ?_) (fun c9 => absurd (by decide) c9)
          refine lv_goto (tgt := 1479) hx hb dL_law_534 (by decide) ?_
          have hf_31 : ((nI (min ((h_kp hs) + 1) 6)) : Int32) = (nI (h_kp (svH hs st))) := by rw [kp_sv]
          have hP : va_P D vwCl ((mb, .inl (KC, 60, .inl cf)) :: ((a 25), .inr (4, [.ref (a 26), .int (nI ty)])) :: ((a 26), .inl (K, 60, .inl bf)) :: ((a 27), .inr (1, [.int pk, .int pf, .int ps, .int pn, .int pp, .int pm])) :: (out, .inl (KL, 1, .inr (.inl ogq))) :: (ms, .inl (K, 889, .inl sg_25)) :: (mk, .inl (K, 41, .inl lk1v_26)) :: (mfd, .inl (K, 9, .inl fd1v_27)) :: (mo, .inr (8, [.ref ms, .int (nI (h_kp (svH hs st))), .ref mb, .int (nI ty), .int 0, .ref mk, .int ml1v_23, .ref mfd, .int mf1v_24, .int sp, .int on, .int tw])) :: (WW a K KS stq (svH hs st) scq)) H := (congrArg (fun z9 : Int32 => va_P D vwCl ((mb, .inl (KC, 60, .inl cf)) :: ((a 25), .inr (4, [.ref (a 26), .int (nI ty)])) :: ((a 26), .inl (K, 60, .inl bf)) :: ((a 27), .inr (1, [.int pk, .int pf, .int ps, .int pn, .int pp, .int pm])) :: (out, .inl (KL, 1, .inr (.inl ogq))) :: (ms, .inl (K, 889, .inl sg_25)) :: (mk, .inl (K, 41, .inl lk1v_26)) :: (mfd, .inl (K, 9, .inl fd1v_27)) :: (mo, .inr (8, [.ref ms, .int z9, .ref mb, .int (nI ty), .int 0, .ref mk, .int ml1v_23, .ref mfd, .int mf1v_24, .int sp, .int on, .int tw])) :: (WW a K KS stq (svH hs st) scq)) H) hf_31).mp hP
          have hD : va_D A ((mb, .inl (KC, 60, .inl cf)) :: ((a 25), .inr (4, [.ref (a 26), .int (nI ty)])) :: ((a 26), .inl (K, 60, .inl bf)) :: ((a 27), .inr (1, [.int pk, .int pf, .int ps, .int pn, .int pp, .int pm])) :: (out, .inl (KL, 1, .inr (.inl ogq))) :: (ms, .inl (K, 889, .inl sg_25)) :: (mk, .inl (K, 41, .inl lk1v_26)) :: (mfd, .inl (K, 9, .inl fd1v_27)) :: (mo, .inr (8, [.ref ms, .int (nI (h_kp (svH hs st))), .ref mb, .int (nI ty), .int 0, .ref mk, .int ml1v_23, .ref mfd, .int mf1v_24, .int sp, .int on, .int tw])) :: (WW a K KS stq (svH hs st) scq)) := (congrArg (fun z9 : Int32 => va_D A ((mb, .inl (KC, 60, .inl cf)) :: ((a 25), .inr (4, [.ref (a 26), .int (nI ty)])) :: ((a 26), .inl (K, 60, .inl bf)) :: ((a 27), .inr (1, [.int pk, .int pf, .int ps, .int pn, .int pp, .int pm])) :: (out, .inl (KL, 1, .inr (.inl ogq))) :: (ms, .inl (K, 889, .inl sg_25)) :: (mk, .inl (K, 41, .inl lk1v_26)) :: (mfd, .inl (K, 9, .inl fd1v_27)) :: (mo, .inr (8, [.ref ms, .int z9, .ref mb, .int (nI ty), .int 0, .ref mk, .int ml1v_23, .ref mfd, .int mf1v_24, .int sp, .int on, .int tw])) :: (WW a K KS stq (svH hs st) scq))) hf_31).mp hD
          have hP9 : va_P D vwCl ((mo, .inr (8, [.ref ms, .int (nI (h_kp (svH hs st))), .ref mb, .int (nI ty), .int 0, .ref mk, .int ml1v_23, .ref mfd, .int mf1v_24, .int sp, .int on, .int tw])) :: (ms, .inl (K, 889, .inl sg_25)) :: (mk, .inl (K, 41, .inl lk1v_26)) :: (mfd, .inl (K, 9, .inl fd1v_27)) :: (mb, .inl (KC, 60, .inl cf)) :: ((a 25), .inr (4, [.ref (a 26), .int (nI ty)])) :: ((a 26), .inl (K, 60, .inl bf)) :: ((a 27), .inr (1, [.int pk, .int pf, .int ps, .int pn, .int pp, .int pm])) :: (out, .inl (KL, 1, .inr (.inl ogq))) :: (WW a K KS stq (svH hs st) scq)) H := k_subP (wp := [(mb, .inl (KC, 60, .inl cf)), ((a 25), .inr (4, [.ref (a 26), .int (nI ty)])), ((a 26), .inl (K, 60, .inl bf)), ((a 27), .inr (1, [.int pk, .int pf, .int ps, .int pn, .int pp, .int pm])), (out, .inl (KL, 1, .inr (.inl ogq))), (ms, .inl (K, 889, .inl sg_25)), (mk, .inl (K, 41, .inl lk1v_26)), (mfd, .inl (K, 9, .inl fd1v_27)), (mo, .inr (8, [.ref ms, .int (nI (h_kp (svH hs st))), .ref mb, .int (nI ty), .int 0, .ref mk, .int ml1v_23, .ref mfd, .int mf1v_24, .int sp, .int on, .int tw]))]) (wp' := [(mo, .inr (8, [.ref ms, .int (nI (h_kp (svH hs st))), .ref mb, .int (nI ty), .int 0, .ref mk, .int ml1v_23, .ref mfd, .int mf1v_24, .int sp, .int on, .int tw])), (ms, .inl (K, 889, .inl sg_25)), (mk, .inl (K, 41, .inl lk1v_26)), (mfd, .inl (K, 9, .inl fd1v_27)), (mb, .inl (KC, 60, .inl cf)), ((a 25), .inr (4, [.ref (a 26), .int (nI ty)])), ((a 26), .inl (K, 60, .inl bf)), ((a 27), .inr (1, [.int pk, .int pf, .int ps, .int pn, .int pp, .int pm])), (out, .inl (KL, 1, .inr (.inl ogq)))]) (T := (WW a K KS stq (svH hs st) scq)) hP [8, 5, 6, 7, 0, 1, 2, 3, 4] rfl
          have hD9 : va_D A ((mo, .inr (8, [.ref ms, .int (nI (h_kp (svH hs st))), .ref mb, .int (nI ty), .int 0, .ref mk, .int ml1v_23, .ref mfd, .int mf1v_24, .int sp, .int on, .int tw])) :: (ms, .inl (K, 889, .inl sg_25)) :: (mk, .inl (K, 41, .inl lk1v_26)) :: (mfd, .inl (K, 9, .inl fd1v_27)) :: (mb, .inl (KC, 60, .inl cf)) :: ((a 25), .inr (4, [.ref (a 26), .int (nI ty)])) :: ((a 26), .inl (K, 60, .inl bf)) :: ((a 27), .inr (1, [.int pk, .int pf, .int ps, .int pn, .int pp, .int pm])) :: (out, .inl (KL, 1, .inr (.inl ogq))) :: (WW a K KS stq (svH hs st) scq)) := k_subD (wp := [(mb, .inl (KC, 60, .inl cf)), ((a 25), .inr (4, [.ref (a 26), .int (nI ty)])), ((a 26), .inl (K, 60, .inl bf)), ((a 27), .inr (1, [.int pk, .int pf, .int ps, .int pn, .int pp, .int pm])), (out, .inl (KL, 1, .inr (.inl ogq))), (ms, .inl (K, 889, .inl sg_25)), (mk, .inl (K, 41, .inl lk1v_26)), (mfd, .inl (K, 9, .inl fd1v_27)), (mo, .inr (8, [.ref ms, .int (nI (h_kp (svH hs st))), .ref mb, .int (nI ty), .int 0, .ref mk, .int ml1v_23, .ref mfd, .int mf1v_24, .int sp, .int on, .int tw]))]) (wp' := [(mo, .inr (8, [.ref ms, .int (nI (h_kp (svH hs st))), .ref mb, .int (nI ty), .int 0, .ref mk, .int ml1v_23, .ref mfd, .int mf1v_24, .int sp, .int on, .int tw])), (ms, .inl (K, 889, .inl sg_25)), (mk, .inl (K, 41, .inl lk1v_26)), (mfd, .inl (K, 9, .inl fd1v_27)), (mb, .inl (KC, 60, .inl cf)), ((a 25), .inr (4, [.ref (a 26), .int (nI ty)])), ((a 26), .inl (K, 60, .inl bf)), ((a 27), .inr (1, [.int pk, .int pf, .int ps, .int pn, .int pp, .int pm])), (out, .inl (KL, 1, .inr (.inl ogq)))]) (T := (WW a K KS stq (svH hs st) scq)) hD [8, 5, 6, 7, 0, 1, 2, 3, 4] (by decide) rfl
          subst hAe
          refine W.widen (k := Cn) (n := Sn) (by omega) (by omega) ?_
          exact next stq (svH hs st) scq sg_25 lk1v_26 fd1v_27 bf cf ogq ty 0 ml1v_23 mf1v_24 sp on tw pk pf ps pn pp pm H locs ls (law_sv hLW (dr_b hbst c_19) (RC_lab c_19 (setT_lab hlx)) hw_28.2.1 hw_28.2.2) hBU hP9 hD9 hS (lv_sub hl [2, 3, 4, 5, 6] rfl)
      · have hc9 := c_16
        refine lv_iconst (v := 1) hx hb dL_law_463 (by decide) ?_
        refine lv_goto (tgt := 468) hx hb dL_law_464 (by decide) ?_
        refine lv_aload_n hx hb dL_law_468 rfl (lv_at hl 1 rfl) ?_
        have ct := k_cut_TT (wp := [(mo, .inr (8, [.ref ms, .int (nI (h_kp hs)), .ref mb, .int (nI ty), .int th, .ref mk, .int ml, .ref mfd, .int mf, .int sp, .int on, .int tw])), (ms, .inl (K, 889, .inl sf)), (mk, .inl (K, 41, .inl lk)), (mfd, .inl (K, 9, .inl fd)), (mb, .inl (KC, 60, .inl cf)), ((a 25), .inr (4, [.ref (a 26), .int (nI ty)])), ((a 26), .inl (K, 60, .inl bf)), ((a 27), .inr (1, [.int pk, .int pf, .int ps, .int pn, .int pp, .int pm])), (out, .inl (KL, 1, .inr (.inl ofn)))]) (T := (WW a K KS st hs sc)) (wc := [(out, .inl (KL, 1, .inr (.inl ofn)))]) (wr := [(mo, .inr (8, [.ref ms, .int (nI (h_kp hs)), .ref mb, .int (nI ty), .int th, .ref mk, .int ml, .ref mfd, .int mf, .int sp, .int on, .int tw])), (ms, .inl (K, 889, .inl sf)), (mk, .inl (K, 41, .inl lk)), (mfd, .inl (K, 9, .inl fd)), (mb, .inl (KC, 60, .inl cf)), ((a 25), .inr (4, [.ref (a 26), .int (nI ty)])), ((a 26), .inl (K, 60, .inl bf)), ((a 27), .inr (1, [.int pk, .int pf, .int ps, .int pn, .int pp, .int pm]))]) (tc := [(K, .int), (KS, .object "BarcodeWand$State"), (KL, .long)]) hG hS hA hK hP hD [8] [0, 1, 2, 3, 4, 5, 6, 7] [0, 1, 2] rfl rfl (by decide) (by decide) (by decide) rfl
        refine k_endi (As := [.ref (a 0), .int y1, .int y2, .int 1, .ref out]) ct (k_runSW (As := [.ref (a 0), .int y1, .int y2, .int 1, .ref out]) (rest := []) S0 Ls_L_100 ct (c_L_draw l D a K KS st hs sc y1 y2 1 out KL ofn (by assumption) (by assumption) (by assumption) (by assumption) H.size) hl.1 rfl (Nat.le_of_ble_eq_true rfl) rfl dL_law_469 ⟨⟨Nat.le_of_ble_eq_true rfl, Nat.le_of_ble_eq_true rfl⟩, (show C9 ≤ 601024 by omega), (show S9 ≤ 7293034 by omega)⟩) rfl rfl (fun r_32 u H locs hw_33 hP hD hK hS => ?_)
        obtain ⟨stq, scq, ogq, rvq⟩ := u
        have hK : va_K D vwCl [(K, .int), (KS, .object "BarcodeWand$State"), (KL, .long), (KC, .char)] s := hK
        have hP : va_P D vwCl ((mo, .inr (8, [.ref ms, .int (nI (h_kp hs)), .ref mb, .int (nI ty), .int th, .ref mk, .int ml, .ref mfd, .int mf, .int sp, .int on, .int tw])) :: (ms, .inl (K, 889, .inl sf)) :: (mk, .inl (K, 41, .inl lk)) :: (mfd, .inl (K, 9, .inl fd)) :: (mb, .inl (KC, 60, .inl cf)) :: ((a 25), .inr (4, [.ref (a 26), .int (nI ty)])) :: ((a 26), .inl (K, 60, .inl bf)) :: ((a 27), .inr (1, [.int pk, .int pf, .int ps, .int pn, .int pp, .int pm])) :: (out, .inl (KL, 1, .inr (.inl ogq))) :: (WW a K KS stq (svH hs st) scq)) H := hP
        have hD : va_D A ((mo, .inr (8, [.ref ms, .int (nI (h_kp hs)), .ref mb, .int (nI ty), .int th, .ref mk, .int ml, .ref mfd, .int mf, .int sp, .int on, .int tw])) :: (ms, .inl (K, 889, .inl sf)) :: (mk, .inl (K, 41, .inl lk)) :: (mfd, .inl (K, 9, .inl fd)) :: (mb, .inl (KC, 60, .inl cf)) :: ((a 25), .inr (4, [.ref (a 26), .int (nI ty)])) :: ((a 26), .inl (K, 60, .inl bf)) :: ((a 27), .inr (1, [.int pk, .int pf, .int ps, .int pn, .int pp, .int pm])) :: (out, .inl (KL, 1, .inr (.inl ogq))) :: (WW a K KS stq (svH hs st) scq)) := hD
        rcases hw_33 with ⟨rfl, c_34, c_35⟩
        · skip
          refine lv_istore (lv' := [(5, .int 0), (4, .int (nI i)), (3, .ref out), (2, .ref mo), (1, .ref (a 0)), (0, .ref b)]) hx hb dL_law_472 hl (by decide) rfl (fun ls hl => ?_)
          refine lv_aload_n hx hb dL_law_474 rfl (lv_at hl 3 rfl) ?_
          refine lv_aload_n hx hb dL_law_475 rfl (lv_at hl 5 rfl) ?_
          refine lv_iload hx hb dL_law_476 (lv_at hl 1 rfl) ?_
          refine lv_iconst (v := 1) hx hb dL_law_478 (by decide) ?_
          refine lv_iadd hx hb dL_law_479 ?_
          refine k_nrm (y := (nI (i + 1))) (nI_add i 1) ?_
          refine va_sld hx hb hX hbl hbA hS (vp_in_nI (by omega) (by omega)) dL_law_480 ?_
          refine k_nrm (y := y1) ((by rw [nI_clamp (by omega)]; exact hy1.symm)) ?_
          refine lv_aload_n hx hb dL_law_481 rfl (lv_at hl 5 rfl) ?_
          refine lv_iload hx hb dL_law_482 (lv_at hl 1 rfl) ?_
          refine lv_iconst (v := 2) hx hb dL_law_484 (by decide) ?_
          refine lv_iadd hx hb dL_law_485 ?_
          refine k_nrm (y := (nI (i + 2))) (nI_add i 2) ?_
          refine va_sld hx hb hX hbl hbA hS (vp_in_nI (by omega) (by omega)) dL_law_486 ?_
          refine k_nrm (y := y2) ((by rw [nI_clamp (by omega)]; exact hy2.symm)) ?_
          refine lv_aload_n hx hb dL_law_487 rfl (lv_at hl 5 rfl) ?_
          refine lv_iload hx hb dL_law_488 (lv_at hl 1 rfl) ?_
          refine lv_iconst (v := 3) hx hb dL_law_490 (by decide) ?_
          refine lv_iadd hx hb dL_law_491 ?_
          refine k_nrm (y := (nI (i + 3))) (nI_add i 3) ?_
          refine va_sld hx hb hX hbl hbA hS (vp_in_nI (by omega) (by omega)) dL_law_492 ?_
          refine k_nrm (y := y3) ((by rw [nI_clamp (by omega)]; exact hy3.symm)) ?_
          refine lv_if_eq (tgt := 500) hx hb dL_law_493 (by decide) (fun c9 => absurd c9 c_16) (fun c_36 => ?_)
          refine lv_iconst (v := 1) hx hb dL_law_496 (by decide) ?_
          refine lv_goto (tgt := 501) hx hb dL_law_497 (by decide) ?_
          have ct := k_cut_T (wp := [(mo, .inr (8, [.ref ms, .int (nI (h_kp hs)), .ref mb, .int (nI ty), .int th, .ref mk, .int ml, .ref mfd, .int mf, .int sp, .int on, .int tw])), (ms, .inl (K, 889, .inl sf)), (mk, .inl (K, 41, .inl lk)), (mfd, .inl (K, 9, .inl fd)), (mb, .inl (KC, 60, .inl cf)), ((a 25), .inr (4, [.ref (a 26), .int (nI ty)])), ((a 26), .inl (K, 60, .inl bf)), ((a 27), .inr (1, [.int pk, .int pf, .int ps, .int pn, .int pp, .int pm])), (out, .inl (KL, 1, .inr (.inl ogq)))]) (T := (WW a K KS stq (svH hs st) scq)) (wc := [(mo, .inr (8, [.ref ms, .int (nI (h_kp hs)), .ref mb, .int (nI ty), .int th, .ref mk, .int ml, .ref mfd, .int mf, .int sp, .int on, .int tw])), (ms, .inl (K, 889, .inl sf)), (mk, .inl (K, 41, .inl lk)), (mfd, .inl (K, 9, .inl fd))]) (wr := [(mb, .inl (KC, 60, .inl cf)), ((a 25), .inr (4, [.ref (a 26), .int (nI ty)])), ((a 26), .inl (K, 60, .inl bf)), ((a 27), .inr (1, [.int pk, .int pf, .int ps, .int pn, .int pp, .int pm])), (out, .inl (KL, 1, .inr (.inl ogq)))]) (tc := [(K, .int)]) hG hS hA hK hP hD [0, 1, 2, 3] [4, 5, 6, 7, 8] [0] rfl rfl (by decide) (by decide) (by decide) rfl
          refine k_endi (As := [.ref mo, .int y1, .int y2, .int 1]) ct (k_runV (As := [.int y1, .int y2, .int 1]) (rest := []) S0 Lv_L_103 rfl (ci := 8) (q0 := 0) rfl rfl ct (c_M_draw l D mo ms (h_kp hs) mb (nI ty) th mk ml mfd mf sp on tw K sf lk fd st y1 y2 1 stq rvq (by assumption) (by assumption) (by assumption) (by first | assumption | omega) (by assumption) (by assumption) (by assumption) H.size) hl.1 rfl (Nat.le_of_ble_eq_true rfl) rfl dL_law_501 ⟨⟨Nat.le_of_ble_eq_true rfl, Nat.le_of_ble_eq_true rfl⟩, (show C9 ≤ 601024 by omega), (show S9 ≤ 7293034 by omega)⟩) rfl rfl (fun r_37 u H locs hw_43 hP hD hK hS => ?_)
          obtain ⟨ml1v_38, mf1v_39, sg_40, lk1v_41, fd1v_42⟩ := u
          have hP : va_P D vwCl ((mb, .inl (KC, 60, .inl cf)) :: ((a 25), .inr (4, [.ref (a 26), .int (nI ty)])) :: ((a 26), .inl (K, 60, .inl bf)) :: ((a 27), .inr (1, [.int pk, .int pf, .int ps, .int pn, .int pp, .int pm])) :: (out, .inl (KL, 1, .inr (.inl ogq))) :: (mo, .inr (8, [.ref ms, .int (nI (min ((h_kp hs) + 1) 6)), .ref mb, .int (nI ty), .int 0, .ref mk, .int ml1v_38, .ref mfd, .int mf1v_39, .int sp, .int on, .int tw])) :: (ms, .inl (K, 889, .inl sg_40)) :: (mk, .inl (K, 41, .inl lk1v_41)) :: (mfd, .inl (K, 9, .inl fd1v_42)) :: (WW a K KS stq (svH hs st) scq)) H := k_swapP (a := [(mb, .inl (KC, 60, .inl cf)), ((a 25), .inr (4, [.ref (a 26), .int (nI ty)])), ((a 26), .inl (K, 60, .inl bf)), ((a 27), .inr (1, [.int pk, .int pf, .int ps, .int pn, .int pp, .int pm])), (out, .inl (KL, 1, .inr (.inl ogq)))]) (b := (WW a K KS stq (svH hs st) scq)) (c := [(mo, .inr (8, [.ref ms, .int (nI (min ((h_kp hs) + 1) 6)), .ref mb, .int (nI ty), .int 0, .ref mk, .int ml1v_38, .ref mfd, .int mf1v_39, .int sp, .int on, .int tw])), (ms, .inl (K, 889, .inl sg_40)), (mk, .inl (K, 41, .inl lk1v_41)), (mfd, .inl (K, 9, .inl fd1v_42))]) hP
          have hD : va_D A ((mb, .inl (KC, 60, .inl cf)) :: ((a 25), .inr (4, [.ref (a 26), .int (nI ty)])) :: ((a 26), .inl (K, 60, .inl bf)) :: ((a 27), .inr (1, [.int pk, .int pf, .int ps, .int pn, .int pp, .int pm])) :: (out, .inl (KL, 1, .inr (.inl ogq))) :: (mo, .inr (8, [.ref ms, .int (nI (min ((h_kp hs) + 1) 6)), .ref mb, .int (nI ty), .int 0, .ref mk, .int ml1v_38, .ref mfd, .int mf1v_39, .int sp, .int on, .int tw])) :: (ms, .inl (K, 889, .inl sg_40)) :: (mk, .inl (K, 41, .inl lk1v_41)) :: (mfd, .inl (K, 9, .inl fd1v_42)) :: (WW a K KS stq (svH hs st) scq)) := va_D.swap (a := [(mb, .inl (KC, 60, .inl cf)), ((a 25), .inr (4, [.ref (a 26), .int (nI ty)])), ((a 26), .inl (K, 60, .inl bf)), ((a 27), .inr (1, [.int pk, .int pf, .int ps, .int pn, .int pp, .int pm])), (out, .inl (KL, 1, .inr (.inl ogq)))]) (b := (WW a K KS stq (svH hs st) scq)) (c := [(mo, .inr (8, [.ref ms, .int (nI (min ((h_kp hs) + 1) 6)), .ref mb, .int (nI ty), .int 0, .ref mk, .int ml1v_38, .ref mfd, .int mf1v_39, .int sp, .int on, .int tw])), (ms, .inl (K, 889, .inl sg_40)), (mk, .inl (K, 41, .inl lk1v_41)), (mfd, .inl (K, 9, .inl fd1v_42))]) hD
          have hK : va_K D vwCl [(K, .int), (KS, .object "BarcodeWand$State"), (KL, .long), (KC, .char)] s := hK
          have hP : va_P D vwCl ((mb, .inl (KC, 60, .inl cf)) :: ((a 25), .inr (4, [.ref (a 26), .int (nI ty)])) :: ((a 26), .inl (K, 60, .inl bf)) :: ((a 27), .inr (1, [.int pk, .int pf, .int ps, .int pn, .int pp, .int pm])) :: (out, .inl (KL, 1, .inr (.inl ogq))) :: (mo, .inr (8, [.ref ms, .int (nI (min ((h_kp hs) + 1) 6)), .ref mb, .int (nI ty), .int 0, .ref mk, .int ml1v_38, .ref mfd, .int mf1v_39, .int sp, .int on, .int tw])) :: (ms, .inl (K, 889, .inl sg_40)) :: (mk, .inl (K, 41, .inl lk1v_41)) :: (mfd, .inl (K, 9, .inl fd1v_42)) :: (WW a K KS stq (svH hs st) scq)) H := hP
          have hD : va_D A ((mb, .inl (KC, 60, .inl cf)) :: ((a 25), .inr (4, [.ref (a 26), .int (nI ty)])) :: ((a 26), .inl (K, 60, .inl bf)) :: ((a 27), .inr (1, [.int pk, .int pf, .int ps, .int pn, .int pp, .int pm])) :: (out, .inl (KL, 1, .inr (.inl ogq))) :: (mo, .inr (8, [.ref ms, .int (nI (min ((h_kp hs) + 1) 6)), .ref mb, .int (nI ty), .int 0, .ref mk, .int ml1v_38, .ref mfd, .int mf1v_39, .int sp, .int on, .int tw])) :: (ms, .inl (K, 889, .inl sg_40)) :: (mk, .inl (K, 41, .inl lk1v_41)) :: (mfd, .inl (K, 9, .inl fd1v_42)) :: (WW a K KS stq (svH hs st) scq)) := hD
          have hw_43 : r_37 = rvq ∧ RS stq sg_40 ∧ hiEq sg_40 (svM (h_kp hs) sf) := hw_43
          refine lv_istore (lv' := [(6, .int r_37), (5, .int 0), (4, .int (nI i)), (3, .ref out), (2, .ref mo), (1, .ref (a 0)), (0, .ref b)]) hx hb dL_law_504 hl (by decide) rfl (fun ls hl => ?_)
          refine lv_aload_n hx hb dL_law_506 rfl (lv_at hl 4 rfl) ?_
          have ct := k_cut_T (wp := [(mb, .inl (KC, 60, .inl cf)), ((a 25), .inr (4, [.ref (a 26), .int (nI ty)])), ((a 26), .inl (K, 60, .inl bf)), ((a 27), .inr (1, [.int pk, .int pf, .int ps, .int pn, .int pp, .int pm])), (out, .inl (KL, 1, .inr (.inl ogq))), (mo, .inr (8, [.ref ms, .int (nI (min ((h_kp hs) + 1) 6)), .ref mb, .int (nI ty), .int 0, .ref mk, .int ml1v_38, .ref mfd, .int mf1v_39, .int sp, .int on, .int tw])), (ms, .inl (K, 889, .inl sg_40)), (mk, .inl (K, 41, .inl lk1v_41)), (mfd, .inl (K, 9, .inl fd1v_42))]) (T := (WW a K KS stq (svH hs st) scq)) (wc := [(mo, .inr (8, [.ref ms, .int (nI (min ((h_kp hs) + 1) 6)), .ref mb, .int (nI ty), .int 0, .ref mk, .int ml1v_38, .ref mfd, .int mf1v_39, .int sp, .int on, .int tw]))]) (wr := [(mb, .inl (KC, 60, .inl cf)), ((a 25), .inr (4, [.ref (a 26), .int (nI ty)])), ((a 26), .inl (K, 60, .inl bf)), ((a 27), .inr (1, [.int pk, .int pf, .int ps, .int pn, .int pp, .int pm])), (out, .inl (KL, 1, .inr (.inl ogq))), (ms, .inl (K, 889, .inl sg_40)), (mk, .inl (K, 41, .inl lk1v_41)), (mfd, .inl (K, 9, .inl fd1v_42))]) (tc := []) hG hS hA hK hP hD [5] [0, 1, 2, 3, 4, 6, 7, 8] [] rfl rfl (by decide) (by decide) (by decide) rfl
          refine k_endi (As := [.ref mo]) ct (k_runV (As := []) (rest := []) S0 Lv_L_83 rfl (ci := 8) (q0 := 0) rfl rfl ct (c_M_thrown l D mo ms (nI (min ((h_kp hs) + 1) 6)) mb (nI ty) 0 mk ml1v_38 mfd mf1v_39 sp on tw H.size) hl.1 rfl (Nat.le_of_ble_eq_true rfl) rfl dL_law_507 ⟨⟨Nat.le_of_ble_eq_true rfl, Nat.le_of_ble_eq_true rfl⟩, (show C9 ≤ 601024 by omega), (show S9 ≤ 7293034 by omega)⟩) rfl rfl (fun r_44 _ H locs hw_45 hP hD hK hS => ?_)
          have hP : va_P D vwCl ((mb, .inl (KC, 60, .inl cf)) :: ((a 25), .inr (4, [.ref (a 26), .int (nI ty)])) :: ((a 26), .inl (K, 60, .inl bf)) :: ((a 27), .inr (1, [.int pk, .int pf, .int ps, .int pn, .int pp, .int pm])) :: (out, .inl (KL, 1, .inr (.inl ogq))) :: (ms, .inl (K, 889, .inl sg_40)) :: (mk, .inl (K, 41, .inl lk1v_41)) :: (mfd, .inl (K, 9, .inl fd1v_42)) :: (mo, .inr (8, [.ref ms, .int (nI (min ((h_kp hs) + 1) 6)), .ref mb, .int (nI ty), .int 0, .ref mk, .int ml1v_38, .ref mfd, .int mf1v_39, .int sp, .int on, .int tw])) :: (WW a K KS stq (svH hs st) scq)) H := k_swapP (a := [(mb, .inl (KC, 60, .inl cf)), ((a 25), .inr (4, [.ref (a 26), .int (nI ty)])), ((a 26), .inl (K, 60, .inl bf)), ((a 27), .inr (1, [.int pk, .int pf, .int ps, .int pn, .int pp, .int pm])), (out, .inl (KL, 1, .inr (.inl ogq))), (ms, .inl (K, 889, .inl sg_40)), (mk, .inl (K, 41, .inl lk1v_41)), (mfd, .inl (K, 9, .inl fd1v_42))]) (b := (WW a K KS stq (svH hs st) scq)) (c := [(mo, .inr (8, [.ref ms, .int (nI (min ((h_kp hs) + 1) 6)), .ref mb, .int (nI ty), .int 0, .ref mk, .int ml1v_38, .ref mfd, .int mf1v_39, .int sp, .int on, .int tw]))]) hP
          have hD : va_D A ((mb, .inl (KC, 60, .inl cf)) :: ((a 25), .inr (4, [.ref (a 26), .int (nI ty)])) :: ((a 26), .inl (K, 60, .inl bf)) :: ((a 27), .inr (1, [.int pk, .int pf, .int ps, .int pn, .int pp, .int pm])) :: (out, .inl (KL, 1, .inr (.inl ogq))) :: (ms, .inl (K, 889, .inl sg_40)) :: (mk, .inl (K, 41, .inl lk1v_41)) :: (mfd, .inl (K, 9, .inl fd1v_42)) :: (mo, .inr (8, [.ref ms, .int (nI (min ((h_kp hs) + 1) 6)), .ref mb, .int (nI ty), .int 0, .ref mk, .int ml1v_38, .ref mfd, .int mf1v_39, .int sp, .int on, .int tw])) :: (WW a K KS stq (svH hs st) scq)) := va_D.swap (a := [(mb, .inl (KC, 60, .inl cf)), ((a 25), .inr (4, [.ref (a 26), .int (nI ty)])), ((a 26), .inl (K, 60, .inl bf)), ((a 27), .inr (1, [.int pk, .int pf, .int ps, .int pn, .int pp, .int pm])), (out, .inl (KL, 1, .inr (.inl ogq))), (ms, .inl (K, 889, .inl sg_40)), (mk, .inl (K, 41, .inl lk1v_41)), (mfd, .inl (K, 9, .inl fd1v_42))]) (b := (WW a K KS stq (svH hs st) scq)) (c := [(mo, .inr (8, [.ref ms, .int (nI (min ((h_kp hs) + 1) 6)), .ref mb, .int (nI ty), .int 0, .ref mk, .int ml1v_38, .ref mfd, .int mf1v_39, .int sp, .int on, .int tw]))]) hD
          have hK : va_K D vwCl [(K, .int), (KS, .object "BarcodeWand$State"), (KL, .long), (KC, .char)] s := hK
          have hP : va_P D vwCl ((mb, .inl (KC, 60, .inl cf)) :: ((a 25), .inr (4, [.ref (a 26), .int (nI ty)])) :: ((a 26), .inl (K, 60, .inl bf)) :: ((a 27), .inr (1, [.int pk, .int pf, .int ps, .int pn, .int pp, .int pm])) :: (out, .inl (KL, 1, .inr (.inl ogq))) :: (ms, .inl (K, 889, .inl sg_40)) :: (mk, .inl (K, 41, .inl lk1v_41)) :: (mfd, .inl (K, 9, .inl fd1v_42)) :: (mo, .inr (8, [.ref ms, .int (nI (min ((h_kp hs) + 1) 6)), .ref mb, .int (nI ty), .int 0, .ref mk, .int ml1v_38, .ref mfd, .int mf1v_39, .int sp, .int on, .int tw])) :: (WW a K KS stq (svH hs st) scq)) H := hP
          have hD : va_D A ((mb, .inl (KC, 60, .inl cf)) :: ((a 25), .inr (4, [.ref (a 26), .int (nI ty)])) :: ((a 26), .inl (K, 60, .inl bf)) :: ((a 27), .inr (1, [.int pk, .int pf, .int ps, .int pn, .int pp, .int pm])) :: (out, .inl (KL, 1, .inr (.inl ogq))) :: (ms, .inl (K, 889, .inl sg_40)) :: (mk, .inl (K, 41, .inl lk1v_41)) :: (mfd, .inl (K, 9, .inl fd1v_42)) :: (mo, .inr (8, [.ref ms, .int (nI (min ((h_kp hs) + 1) 6)), .ref mb, .int (nI ty), .int 0, .ref mk, .int ml1v_38, .ref mfd, .int mf1v_39, .int sp, .int on, .int tw])) :: (WW a K KS stq (svH hs st) scq)) := hD
          have hw_45 : r_44 = 0 := hw_45
          have hw_45 := hw_45.symm
          subst hw_45
          refine k_nrm (y := 0) rfl ?_
          refine lv_iload hx hb dL_law_510 (lv_at hl 1 rfl) ?_
          refine lv_icmp_eq (tgt := 517) hx hb dL_law_512 (by decide) (fun _ => ?_) (fun c9 => absurd (by decide) c9)
          refine lv_iload hx hb dL_law_517 (lv_at hl 1 rfl) ?_
          refine lv_if_ne (tgt := 534) hx hb dL_law_519 (by decide) (fun c9 => absurd (by decide) c9) (fun _ => ?_)
          refine lv_aload_n hx hb dL_law_522 rfl (lv_at hl 3 rfl) ?_
          refine lv_iconst (v := 0) hx hb dL_law_523 (by decide) ?_
          refine va_lald hx hb hK hP 4 2 rfl rfl (by unfold vp_in; decide) dL_law_524 ?_
          refine k_nrml (y := rvq.toInt64) (show ogq (0 : Int32).toNatClampNeg = rvq.toInt64 from c_35) ?_
          refine lv_iload hx hb dL_law_525 (lv_at hl 0 rfl) ?_
          refine lv_i2l (v := r_37.toInt64) hx hb dL_law_527 rfl ?_
          refine W.lcmp hx hb dL_law_528 ?_
          refine k_nrm (y := 0) (lg_same rfl (hw_43.1.symm)) ?_
          refine lv_if_eq (tgt := 534) hx hb dL_law_529 (by decide) (fun _ => ?_) (fun c9 => absurd (by decide) c9)
          refine lv_goto (tgt := 1479) hx hb dL_law_534 (by decide) ?_
          have hf_46 : ((nI (min ((h_kp hs) + 1) 6)) : Int32) = (nI (h_kp (svH hs st))) := by rw [kp_sv]
          have hP : va_P D vwCl ((mb, .inl (KC, 60, .inl cf)) :: ((a 25), .inr (4, [.ref (a 26), .int (nI ty)])) :: ((a 26), .inl (K, 60, .inl bf)) :: ((a 27), .inr (1, [.int pk, .int pf, .int ps, .int pn, .int pp, .int pm])) :: (out, .inl (KL, 1, .inr (.inl ogq))) :: (ms, .inl (K, 889, .inl sg_40)) :: (mk, .inl (K, 41, .inl lk1v_41)) :: (mfd, .inl (K, 9, .inl fd1v_42)) :: (mo, .inr (8, [.ref ms, .int (nI (h_kp (svH hs st))), .ref mb, .int (nI ty), .int 0, .ref mk, .int ml1v_38, .ref mfd, .int mf1v_39, .int sp, .int on, .int tw])) :: (WW a K KS stq (svH hs st) scq)) H := (congrArg (fun z9 : Int32 => va_P D vwCl ((mb, .inl (KC, 60, .inl cf)) :: ((a 25), .inr (4, [.ref (a 26), .int (nI ty)])) :: ((a 26), .inl (K, 60, .inl bf)) :: ((a 27), .inr (1, [.int pk, .int pf, .int ps, .int pn, .int pp, .int pm])) :: (out, .inl (KL, 1, .inr (.inl ogq))) :: (ms, .inl (K, 889, .inl sg_40)) :: (mk, .inl (K, 41, .inl lk1v_41)) :: (mfd, .inl (K, 9, .inl fd1v_42)) :: (mo, .inr (8, [.ref ms, .int z9, .ref mb, .int (nI ty), .int 0, .ref mk, .int ml1v_38, .ref mfd, .int mf1v_39, .int sp, .int on, .int tw])) :: (WW a K KS stq (svH hs st) scq)) H) hf_46).mp hP
          have hD : va_D A ((mb, .inl (KC, 60, .inl cf)) :: ((a 25), .inr (4, [.ref (a 26), .int (nI ty)])) :: ((a 26), .inl (K, 60, .inl bf)) :: ((a 27), .inr (1, [.int pk, .int pf, .int ps, .int pn, .int pp, .int pm])) :: (out, .inl (KL, 1, .inr (.inl ogq))) :: (ms, .inl (K, 889, .inl sg_40)) :: (mk, .inl (K, 41, .inl lk1v_41)) :: (mfd, .inl (K, 9, .inl fd1v_42)) :: (mo, .inr (8, [.ref ms, .int (nI (h_kp (svH hs st))), .ref mb, .int (nI ty), .int 0, .ref mk, .int ml1v_38, .ref mfd, .int mf1v_39, .int sp, .int on, .int tw])) :: (WW a K KS stq (svH hs st) scq)) := (congrArg (fun z9 : Int32 => va_D A ((mb, .inl (KC, 60, .inl cf)) :: ((a 25), .inr (4, [.ref (a 26), .int (nI ty)])) :: ((a 26), .inl (K, 60, .inl bf)) :: ((a 27), .inr (1, [.int pk, .int pf, .int ps, .int pn, .int pp, .int pm])) :: (out, .inl (KL, 1, .inr (.inl ogq))) :: (ms, .inl (K, 889, .inl sg_40)) :: (mk, .inl (K, 41, .inl lk1v_41)) :: (mfd, .inl (K, 9, .inl fd1v_42)) :: (mo, .inr (8, [.ref ms, .int z9, .ref mb, .int (nI ty), .int 0, .ref mk, .int ml1v_38, .ref mfd, .int mf1v_39, .int sp, .int on, .int tw])) :: (WW a K KS stq (svH hs st) scq))) hf_46).mp hD
          have hP9 : va_P D vwCl ((mo, .inr (8, [.ref ms, .int (nI (h_kp (svH hs st))), .ref mb, .int (nI ty), .int 0, .ref mk, .int ml1v_38, .ref mfd, .int mf1v_39, .int sp, .int on, .int tw])) :: (ms, .inl (K, 889, .inl sg_40)) :: (mk, .inl (K, 41, .inl lk1v_41)) :: (mfd, .inl (K, 9, .inl fd1v_42)) :: (mb, .inl (KC, 60, .inl cf)) :: ((a 25), .inr (4, [.ref (a 26), .int (nI ty)])) :: ((a 26), .inl (K, 60, .inl bf)) :: ((a 27), .inr (1, [.int pk, .int pf, .int ps, .int pn, .int pp, .int pm])) :: (out, .inl (KL, 1, .inr (.inl ogq))) :: (WW a K KS stq (svH hs st) scq)) H := k_subP (wp := [(mb, .inl (KC, 60, .inl cf)), ((a 25), .inr (4, [.ref (a 26), .int (nI ty)])), ((a 26), .inl (K, 60, .inl bf)), ((a 27), .inr (1, [.int pk, .int pf, .int ps, .int pn, .int pp, .int pm])), (out, .inl (KL, 1, .inr (.inl ogq))), (ms, .inl (K, 889, .inl sg_40)), (mk, .inl (K, 41, .inl lk1v_41)), (mfd, .inl (K, 9, .inl fd1v_42)), (mo, .inr (8, [.ref ms, .int (nI (h_kp (svH hs st))), .ref mb, .int (nI ty), .int 0, .ref mk, .int ml1v_38, .ref mfd, .int mf1v_39, .int sp, .int on, .int tw]))]) (wp' := [(mo, .inr (8, [.ref ms, .int (nI (h_kp (svH hs st))), .ref mb, .int (nI ty), .int 0, .ref mk, .int ml1v_38, .ref mfd, .int mf1v_39, .int sp, .int on, .int tw])), (ms, .inl (K, 889, .inl sg_40)), (mk, .inl (K, 41, .inl lk1v_41)), (mfd, .inl (K, 9, .inl fd1v_42)), (mb, .inl (KC, 60, .inl cf)), ((a 25), .inr (4, [.ref (a 26), .int (nI ty)])), ((a 26), .inl (K, 60, .inl bf)), ((a 27), .inr (1, [.int pk, .int pf, .int ps, .int pn, .int pp, .int pm])), (out, .inl (KL, 1, .inr (.inl ogq)))]) (T := (WW a K KS stq (svH hs st) scq)) hP [8, 5, 6, 7, 0, 1, 2, 3, 4] rfl
          have hD9 : va_D A ((mo, .inr (8, [.ref ms, .int (nI (h_kp (svH hs st))), .ref mb, .int (nI ty), .int 0, .ref mk, .int ml1v_38, .ref mfd, .int mf1v_39, .int sp, .int on, .int tw])) :: (ms, .inl (K, 889, .inl sg_40)) :: (mk, .inl (K, 41, .inl lk1v_41)) :: (mfd, .inl (K, 9, .inl fd1v_42)) :: (mb, .inl (KC, 60, .inl cf)) :: ((a 25), .inr (4, [.ref (a 26), .int (nI ty)])) :: ((a 26), .inl (K, 60, .inl bf)) :: ((a 27), .inr (1, [.int pk, .int pf, .int ps, .int pn, .int pp, .int pm])) :: (out, .inl (KL, 1, .inr (.inl ogq))) :: (WW a K KS stq (svH hs st) scq)) := k_subD (wp := [(mb, .inl (KC, 60, .inl cf)), ((a 25), .inr (4, [.ref (a 26), .int (nI ty)])), ((a 26), .inl (K, 60, .inl bf)), ((a 27), .inr (1, [.int pk, .int pf, .int ps, .int pn, .int pp, .int pm])), (out, .inl (KL, 1, .inr (.inl ogq))), (ms, .inl (K, 889, .inl sg_40)), (mk, .inl (K, 41, .inl lk1v_41)), (mfd, .inl (K, 9, .inl fd1v_42)), (mo, .inr (8, [.ref ms, .int (nI (h_kp (svH hs st))), .ref mb, .int (nI ty), .int 0, .ref mk, .int ml1v_38, .ref mfd, .int mf1v_39, .int sp, .int on, .int tw]))]) (wp' := [(mo, .inr (8, [.ref ms, .int (nI (h_kp (svH hs st))), .ref mb, .int (nI ty), .int 0, .ref mk, .int ml1v_38, .ref mfd, .int mf1v_39, .int sp, .int on, .int tw])), (ms, .inl (K, 889, .inl sg_40)), (mk, .inl (K, 41, .inl lk1v_41)), (mfd, .inl (K, 9, .inl fd1v_42)), (mb, .inl (KC, 60, .inl cf)), ((a 25), .inr (4, [.ref (a 26), .int (nI ty)])), ((a 26), .inl (K, 60, .inl bf)), ((a 27), .inr (1, [.int pk, .int pf, .int ps, .int pn, .int pp, .int pm])), (out, .inl (KL, 1, .inr (.inl ogq)))]) (T := (WW a K KS stq (svH hs st) scq)) hD [8, 5, 6, 7, 0, 1, 2, 3, 4] (by decide) rfl
          subst hAe
          refine W.widen (k := Cn) (n := Sn) (by omega) (by omega) ?_
          exact next stq (svH hs st) scq sg_40 lk1v_41 fd1v_42 bf cf ogq ty 0 ml1v_38 mf1v_39 sp on tw pk pf ps pn pp pm H locs ls (law_sv hLW (dr_b hbst c_34) (RC_lab c_34 (setT_lab hlx)) hw_43.2.1 hw_43.2.2) hBU hP9 hD9 hS (lv_sub hl [2, 3, 4, 5, 6] rfl)
  · skip
    refine lv_aload_n hx hb dL_law_441 rfl (lv_at hl 3 rfl) ?_
    refine lv_aload_n hx hb dL_law_442 rfl (lv_at hl 4 rfl) ?_
    refine lv_iload hx hb dL_law_443 (lv_at hl 0 rfl) ?_
    refine lv_iconst (v := 1) hx hb dL_law_445 (by decide) ?_
    refine lv_iadd hx hb dL_law_446 ?_
    refine k_nrm (y := (nI (i + 1))) (nI_add i 1) ?_
    refine va_sld hx hb hX hbl hbA hS (vp_in_nI (by omega) (by omega)) dL_law_447 ?_
    refine k_nrm (y := y1) ((by rw [nI_clamp (by omega)]; exact hy1.symm)) ?_
    refine lv_aload_n hx hb dL_law_448 rfl (lv_at hl 4 rfl) ?_
    refine lv_iload hx hb dL_law_449 (lv_at hl 0 rfl) ?_
    refine lv_iconst (v := 2) hx hb dL_law_451 (by decide) ?_
    refine lv_iadd hx hb dL_law_452 ?_
    refine k_nrm (y := (nI (i + 2))) (nI_add i 2) ?_
    refine va_sld hx hb hX hbl hbA hS (vp_in_nI (by omega) (by omega)) dL_law_453 ?_
    refine k_nrm (y := y2) ((by rw [nI_clamp (by omega)]; exact hy2.symm)) ?_
    refine lv_aload_n hx hb dL_law_454 rfl (lv_at hl 4 rfl) ?_
    refine lv_iload hx hb dL_law_455 (lv_at hl 0 rfl) ?_
    refine lv_iconst (v := 3) hx hb dL_law_457 (by decide) ?_
    refine lv_iadd hx hb dL_law_458 ?_
    refine k_nrm (y := (nI (i + 3))) (nI_add i 3) ?_
    refine va_sld hx hb hX hbl hbA hS (vp_in_nI (by omega) (by omega)) dL_law_459 ?_
    refine k_nrm (y := y3) ((by rw [nI_clamp (by omega)]; exact hy3.symm)) ?_
    refine lv_if_eq (tgt := 467) hx hb dL_law_460 (by decide) (fun c_47 => ?_) (fun c_47 => ?_)
    · have hc9 := c_47
      refine lv_iconst (v := 0) hx hb dL_law_467 (by decide) ?_
      refine lv_aload_n hx hb dL_law_468 rfl (lv_at hl 1 rfl) ?_
      have ct := k_cut_TT (wp := [(mo, .inr (8, [.ref ms, .int (nI (h_kp hs)), .ref mb, .int (nI ty), .int th, .ref mk, .int ml, .ref mfd, .int mf, .int sp, .int on, .int tw])), (ms, .inl (K, 889, .inl sf)), (mk, .inl (K, 41, .inl lk)), (mfd, .inl (K, 9, .inl fd)), (mb, .inl (KC, 60, .inl cf)), ((a 25), .inr (4, [.ref (a 26), .int (nI ty)])), ((a 26), .inl (K, 60, .inl bf)), ((a 27), .inr (1, [.int pk, .int pf, .int ps, .int pn, .int pp, .int pm])), (out, .inl (KL, 1, .inr (.inl ofn)))]) (T := (WW a K KS st hs sc)) (wc := [(out, .inl (KL, 1, .inr (.inl ofn)))]) (wr := [(mo, .inr (8, [.ref ms, .int (nI (h_kp hs)), .ref mb, .int (nI ty), .int th, .ref mk, .int ml, .ref mfd, .int mf, .int sp, .int on, .int tw])), (ms, .inl (K, 889, .inl sf)), (mk, .inl (K, 41, .inl lk)), (mfd, .inl (K, 9, .inl fd)), (mb, .inl (KC, 60, .inl cf)), ((a 25), .inr (4, [.ref (a 26), .int (nI ty)])), ((a 26), .inl (K, 60, .inl bf)), ((a 27), .inr (1, [.int pk, .int pf, .int ps, .int pn, .int pp, .int pm]))]) (tc := [(K, .int), (KS, .object "BarcodeWand$State"), (KL, .long)]) hG hS hA hK hP hD [8] [0, 1, 2, 3, 4, 5, 6, 7] [0, 1, 2] rfl rfl (by decide) (by decide) (by decide) rfl
      refine k_endi (As := [.ref (a 0), .int y1, .int y2, .int 0, .ref out]) ct (k_runSW (As := [.ref (a 0), .int y1, .int y2, .int 0, .ref out]) (rest := []) S0 Ls_L_100 ct (c_L_drawX1 l hst D a K KS st hs sc y1 y2 0 out KL ofn (by assumption) H.size) hl.1 rfl (Nat.le_of_ble_eq_true rfl) rfl dL_law_469 ⟨⟨Nat.le_of_ble_eq_true rfl, Nat.le_of_ble_eq_true rfl⟩, (show C9 + 1 ≤ 601024 by omega), (show S9 + 6 ≤ 7293034 by omega)⟩) rfl rfl (fun r_48 _ H locs hw_49 hP hD hK hS => ?_)
      have hK : va_K D vwCl [(K, .int), (KS, .object "BarcodeWand$State"), (KL, .long), (KC, .char)] s := hK
      have hP : va_P D vwCl ((mo, .inr (8, [.ref ms, .int (nI (h_kp hs)), .ref mb, .int (nI ty), .int th, .ref mk, .int ml, .ref mfd, .int mf, .int sp, .int on, .int tw])) :: (ms, .inl (K, 889, .inl sf)) :: (mk, .inl (K, 41, .inl lk)) :: (mfd, .inl (K, 9, .inl fd)) :: (mb, .inl (KC, 60, .inl cf)) :: ((a 25), .inr (4, [.ref (a 26), .int (nI ty)])) :: ((a 26), .inl (K, 60, .inl bf)) :: ((a 27), .inr (1, [.int pk, .int pf, .int ps, .int pn, .int pp, .int pm])) :: (out, .inl (KL, 1, .inr (.inl ofn))) :: (WW a K KS st hs sc)) H := hP
      have hD : va_D A ((mo, .inr (8, [.ref ms, .int (nI (h_kp hs)), .ref mb, .int (nI ty), .int th, .ref mk, .int ml, .ref mfd, .int mf, .int sp, .int on, .int tw])) :: (ms, .inl (K, 889, .inl sf)) :: (mk, .inl (K, 41, .inl lk)) :: (mfd, .inl (K, 9, .inl fd)) :: (mb, .inl (KC, 60, .inl cf)) :: ((a 25), .inr (4, [.ref (a 26), .int (nI ty)])) :: ((a 26), .inl (K, 60, .inl bf)) :: ((a 27), .inr (1, [.int pk, .int pf, .int ps, .int pn, .int pp, .int pm])) :: (out, .inl (KL, 1, .inr (.inl ofn))) :: (WW a K KS st hs sc)) := hD
      have hw_49 : r_48 = (1) := hw_49
      have hw_49 := hw_49.symm
      subst hw_49
      refine k_nrm (y := 1) rfl ?_
      refine lv_istore (lv' := [(5, .int 1), (4, .int (nI i)), (3, .ref out), (2, .ref mo), (1, .ref (a 0)), (0, .ref b)]) hx hb dL_law_472 hl (by decide) rfl (fun ls hl => ?_)
      refine lv_aload_n hx hb dL_law_474 rfl (lv_at hl 3 rfl) ?_
      refine lv_aload_n hx hb dL_law_475 rfl (lv_at hl 5 rfl) ?_
      refine lv_iload hx hb dL_law_476 (lv_at hl 1 rfl) ?_
      refine lv_iconst (v := 1) hx hb dL_law_478 (by decide) ?_
      refine lv_iadd hx hb dL_law_479 ?_
      refine k_nrm (y := (nI (i + 1))) (nI_add i 1) ?_
      refine va_sld hx hb hX hbl hbA hS (vp_in_nI (by omega) (by omega)) dL_law_480 ?_
      refine k_nrm (y := y1) ((by rw [nI_clamp (by omega)]; exact hy1.symm)) ?_
      refine lv_aload_n hx hb dL_law_481 rfl (lv_at hl 5 rfl) ?_
      refine lv_iload hx hb dL_law_482 (lv_at hl 1 rfl) ?_
      refine lv_iconst (v := 2) hx hb dL_law_484 (by decide) ?_
      refine lv_iadd hx hb dL_law_485 ?_
      refine k_nrm (y := (nI (i + 2))) (nI_add i 2) ?_
      refine va_sld hx hb hX hbl hbA hS (vp_in_nI (by omega) (by omega)) dL_law_486 ?_
      refine k_nrm (y := y2) ((by rw [nI_clamp (by omega)]; exact hy2.symm)) ?_
      refine lv_aload_n hx hb dL_law_487 rfl (lv_at hl 5 rfl) ?_
      refine lv_iload hx hb dL_law_488 (lv_at hl 1 rfl) ?_
      refine lv_iconst (v := 3) hx hb dL_law_490 (by decide) ?_
      refine lv_iadd hx hb dL_law_491 ?_
      refine k_nrm (y := (nI (i + 3))) (nI_add i 3) ?_
      refine va_sld hx hb hX hbl hbA hS (vp_in_nI (by omega) (by omega)) dL_law_492 ?_
      refine k_nrm (y := y3) ((by rw [nI_clamp (by omega)]; exact hy3.symm)) ?_
      refine lv_if_eq (tgt := 500) hx hb dL_law_493 (by decide) (fun c_50 => ?_) (fun c9 => absurd c_47 c9)
      refine lv_iconst (v := 0) hx hb dL_law_500 (by decide) ?_
      have ct := k_cut_T (wp := [(mo, .inr (8, [.ref ms, .int (nI (h_kp hs)), .ref mb, .int (nI ty), .int th, .ref mk, .int ml, .ref mfd, .int mf, .int sp, .int on, .int tw])), (ms, .inl (K, 889, .inl sf)), (mk, .inl (K, 41, .inl lk)), (mfd, .inl (K, 9, .inl fd)), (mb, .inl (KC, 60, .inl cf)), ((a 25), .inr (4, [.ref (a 26), .int (nI ty)])), ((a 26), .inl (K, 60, .inl bf)), ((a 27), .inr (1, [.int pk, .int pf, .int ps, .int pn, .int pp, .int pm])), (out, .inl (KL, 1, .inr (.inl ofn)))]) (T := (WW a K KS st hs sc)) (wc := [(mo, .inr (8, [.ref ms, .int (nI (h_kp hs)), .ref mb, .int (nI ty), .int th, .ref mk, .int ml, .ref mfd, .int mf, .int sp, .int on, .int tw])), (ms, .inl (K, 889, .inl sf))]) (wr := [(mk, .inl (K, 41, .inl lk)), (mfd, .inl (K, 9, .inl fd)), (mb, .inl (KC, 60, .inl cf)), ((a 25), .inr (4, [.ref (a 26), .int (nI ty)])), ((a 26), .inl (K, 60, .inl bf)), ((a 27), .inr (1, [.int pk, .int pf, .int ps, .int pn, .int pp, .int pm])), (out, .inl (KL, 1, .inr (.inl ofn)))]) (tc := [(K, .int)]) hG hS hA hK hP hD [0, 1] [2, 3, 4, 5, 6, 7, 8] [0] rfl rfl (by decide) (by decide) (by decide) rfl
      refine k_endi (As := [.ref mo, .int y1, .int y2, .int 0]) ct (k_runV (As := [.int y1, .int y2, .int 0]) (rest := []) S0 Lv_L_103 rfl (ci := 8) (q0 := 0) rfl rfl ct (c_M_drawX1 l D mo ms (nI (h_kp hs)) mb (nI ty) th mk ml mfd mf sp on tw K sf st y1 y2 0 (by assumption) (by assumption) (by assumption) (by assumption) H.size) hl.1 rfl (Nat.le_of_ble_eq_true rfl) rfl dL_law_501 ⟨⟨Nat.le_of_ble_eq_true rfl, Nat.le_of_ble_eq_true rfl⟩, (show C9 + 1 ≤ 601024 by omega), (show S9 + 6 ≤ 7293034 by omega)⟩) rfl rfl (fun r_51 _ H locs hw_52 hP hD hK hS => ?_)
      have hP : va_P D vwCl ((mk, .inl (K, 41, .inl lk)) :: (mfd, .inl (K, 9, .inl fd)) :: (mb, .inl (KC, 60, .inl cf)) :: ((a 25), .inr (4, [.ref (a 26), .int (nI ty)])) :: ((a 26), .inl (K, 60, .inl bf)) :: ((a 27), .inr (1, [.int pk, .int pf, .int ps, .int pn, .int pp, .int pm])) :: (out, .inl (KL, 1, .inr (.inl ofn))) :: (mo, .inr (8, [.ref ms, .int (nI (h_kp hs)), .ref mb, .int (nI ty), .int 1, .ref mk, .int ml, .ref mfd, .int mf, .int sp, .int on, .int tw])) :: (ms, .inl (K, 889, .inl sf)) :: (WW a K KS st hs sc)) H := k_swapP (a := [(mk, .inl (K, 41, .inl lk)), (mfd, .inl (K, 9, .inl fd)), (mb, .inl (KC, 60, .inl cf)), ((a 25), .inr (4, [.ref (a 26), .int (nI ty)])), ((a 26), .inl (K, 60, .inl bf)), ((a 27), .inr (1, [.int pk, .int pf, .int ps, .int pn, .int pp, .int pm])), (out, .inl (KL, 1, .inr (.inl ofn)))]) (b := (WW a K KS st hs sc)) (c := [(mo, .inr (8, [.ref ms, .int (nI (h_kp hs)), .ref mb, .int (nI ty), .int 1, .ref mk, .int ml, .ref mfd, .int mf, .int sp, .int on, .int tw])), (ms, .inl (K, 889, .inl sf))]) hP
      have hD : va_D A ((mk, .inl (K, 41, .inl lk)) :: (mfd, .inl (K, 9, .inl fd)) :: (mb, .inl (KC, 60, .inl cf)) :: ((a 25), .inr (4, [.ref (a 26), .int (nI ty)])) :: ((a 26), .inl (K, 60, .inl bf)) :: ((a 27), .inr (1, [.int pk, .int pf, .int ps, .int pn, .int pp, .int pm])) :: (out, .inl (KL, 1, .inr (.inl ofn))) :: (mo, .inr (8, [.ref ms, .int (nI (h_kp hs)), .ref mb, .int (nI ty), .int 1, .ref mk, .int ml, .ref mfd, .int mf, .int sp, .int on, .int tw])) :: (ms, .inl (K, 889, .inl sf)) :: (WW a K KS st hs sc)) := va_D.swap (a := [(mk, .inl (K, 41, .inl lk)), (mfd, .inl (K, 9, .inl fd)), (mb, .inl (KC, 60, .inl cf)), ((a 25), .inr (4, [.ref (a 26), .int (nI ty)])), ((a 26), .inl (K, 60, .inl bf)), ((a 27), .inr (1, [.int pk, .int pf, .int ps, .int pn, .int pp, .int pm])), (out, .inl (KL, 1, .inr (.inl ofn)))]) (b := (WW a K KS st hs sc)) (c := [(mo, .inr (8, [.ref ms, .int (nI (h_kp hs)), .ref mb, .int (nI ty), .int 1, .ref mk, .int ml, .ref mfd, .int mf, .int sp, .int on, .int tw])), (ms, .inl (K, 889, .inl sf))]) hD
      have hK : va_K D vwCl [(K, .int), (KS, .object "BarcodeWand$State"), (KL, .long), (KC, .char)] s := hK
      have hP : va_P D vwCl ((mk, .inl (K, 41, .inl lk)) :: (mfd, .inl (K, 9, .inl fd)) :: (mb, .inl (KC, 60, .inl cf)) :: ((a 25), .inr (4, [.ref (a 26), .int (nI ty)])) :: ((a 26), .inl (K, 60, .inl bf)) :: ((a 27), .inr (1, [.int pk, .int pf, .int ps, .int pn, .int pp, .int pm])) :: (out, .inl (KL, 1, .inr (.inl ofn))) :: (mo, .inr (8, [.ref ms, .int (nI (h_kp hs)), .ref mb, .int (nI ty), .int 1, .ref mk, .int ml, .ref mfd, .int mf, .int sp, .int on, .int tw])) :: (ms, .inl (K, 889, .inl sf)) :: (WW a K KS st hs sc)) H := hP
      have hD : va_D A ((mk, .inl (K, 41, .inl lk)) :: (mfd, .inl (K, 9, .inl fd)) :: (mb, .inl (KC, 60, .inl cf)) :: ((a 25), .inr (4, [.ref (a 26), .int (nI ty)])) :: ((a 26), .inl (K, 60, .inl bf)) :: ((a 27), .inr (1, [.int pk, .int pf, .int ps, .int pn, .int pp, .int pm])) :: (out, .inl (KL, 1, .inr (.inl ofn))) :: (mo, .inr (8, [.ref ms, .int (nI (h_kp hs)), .ref mb, .int (nI ty), .int 1, .ref mk, .int ml, .ref mfd, .int mf, .int sp, .int on, .int tw])) :: (ms, .inl (K, 889, .inl sf)) :: (WW a K KS st hs sc)) := hD
      have hw_52 : r_51 = (0) := hw_52
      have hw_52 := hw_52.symm
      subst hw_52
      refine k_nrm (y := 0) rfl ?_
      refine lv_istore (lv' := [(6, .int 0), (5, .int 1), (4, .int (nI i)), (3, .ref out), (2, .ref mo), (1, .ref (a 0)), (0, .ref b)]) hx hb dL_law_504 hl (by decide) rfl (fun ls hl => ?_)
      refine lv_aload_n hx hb dL_law_506 rfl (lv_at hl 4 rfl) ?_
      have ct := k_cut_T (wp := [(mk, .inl (K, 41, .inl lk)), (mfd, .inl (K, 9, .inl fd)), (mb, .inl (KC, 60, .inl cf)), ((a 25), .inr (4, [.ref (a 26), .int (nI ty)])), ((a 26), .inl (K, 60, .inl bf)), ((a 27), .inr (1, [.int pk, .int pf, .int ps, .int pn, .int pp, .int pm])), (out, .inl (KL, 1, .inr (.inl ofn))), (mo, .inr (8, [.ref ms, .int (nI (h_kp hs)), .ref mb, .int (nI ty), .int 1, .ref mk, .int ml, .ref mfd, .int mf, .int sp, .int on, .int tw])), (ms, .inl (K, 889, .inl sf))]) (T := (WW a K KS st hs sc)) (wc := [(mo, .inr (8, [.ref ms, .int (nI (h_kp hs)), .ref mb, .int (nI ty), .int 1, .ref mk, .int ml, .ref mfd, .int mf, .int sp, .int on, .int tw]))]) (wr := [(mk, .inl (K, 41, .inl lk)), (mfd, .inl (K, 9, .inl fd)), (mb, .inl (KC, 60, .inl cf)), ((a 25), .inr (4, [.ref (a 26), .int (nI ty)])), ((a 26), .inl (K, 60, .inl bf)), ((a 27), .inr (1, [.int pk, .int pf, .int ps, .int pn, .int pp, .int pm])), (out, .inl (KL, 1, .inr (.inl ofn))), (ms, .inl (K, 889, .inl sf))]) (tc := []) hG hS hA hK hP hD [7] [0, 1, 2, 3, 4, 5, 6, 8] [] rfl rfl (by decide) (by decide) (by decide) rfl
      refine k_endi (As := [.ref mo]) ct (k_runV (As := []) (rest := []) S0 Lv_L_83 rfl (ci := 8) (q0 := 0) rfl rfl ct (c_M_thrown l D mo ms (nI (h_kp hs)) mb (nI ty) 1 mk ml mfd mf sp on tw H.size) hl.1 rfl (Nat.le_of_ble_eq_true rfl) rfl dL_law_507 ⟨⟨Nat.le_of_ble_eq_true rfl, Nat.le_of_ble_eq_true rfl⟩, (show C9 + 1 ≤ 601024 by omega), (show S9 + 6 ≤ 7293034 by omega)⟩) rfl rfl (fun r_53 _ H locs hw_54 hP hD hK hS => ?_)
      have hP : va_P D vwCl ((mk, .inl (K, 41, .inl lk)) :: (mfd, .inl (K, 9, .inl fd)) :: (mb, .inl (KC, 60, .inl cf)) :: ((a 25), .inr (4, [.ref (a 26), .int (nI ty)])) :: ((a 26), .inl (K, 60, .inl bf)) :: ((a 27), .inr (1, [.int pk, .int pf, .int ps, .int pn, .int pp, .int pm])) :: (out, .inl (KL, 1, .inr (.inl ofn))) :: (ms, .inl (K, 889, .inl sf)) :: (mo, .inr (8, [.ref ms, .int (nI (h_kp hs)), .ref mb, .int (nI ty), .int 1, .ref mk, .int ml, .ref mfd, .int mf, .int sp, .int on, .int tw])) :: (WW a K KS st hs sc)) H := k_swapP (a := [(mk, .inl (K, 41, .inl lk)), (mfd, .inl (K, 9, .inl fd)), (mb, .inl (KC, 60, .inl cf)), ((a 25), .inr (4, [.ref (a 26), .int (nI ty)])), ((a 26), .inl (K, 60, .inl bf)), ((a 27), .inr (1, [.int pk, .int pf, .int ps, .int pn, .int pp, .int pm])), (out, .inl (KL, 1, .inr (.inl ofn))), (ms, .inl (K, 889, .inl sf))]) (b := (WW a K KS st hs sc)) (c := [(mo, .inr (8, [.ref ms, .int (nI (h_kp hs)), .ref mb, .int (nI ty), .int 1, .ref mk, .int ml, .ref mfd, .int mf, .int sp, .int on, .int tw]))]) hP
      have hD : va_D A ((mk, .inl (K, 41, .inl lk)) :: (mfd, .inl (K, 9, .inl fd)) :: (mb, .inl (KC, 60, .inl cf)) :: ((a 25), .inr (4, [.ref (a 26), .int (nI ty)])) :: ((a 26), .inl (K, 60, .inl bf)) :: ((a 27), .inr (1, [.int pk, .int pf, .int ps, .int pn, .int pp, .int pm])) :: (out, .inl (KL, 1, .inr (.inl ofn))) :: (ms, .inl (K, 889, .inl sf)) :: (mo, .inr (8, [.ref ms, .int (nI (h_kp hs)), .ref mb, .int (nI ty), .int 1, .ref mk, .int ml, .ref mfd, .int mf, .int sp, .int on, .int tw])) :: (WW a K KS st hs sc)) := va_D.swap (a := [(mk, .inl (K, 41, .inl lk)), (mfd, .inl (K, 9, .inl fd)), (mb, .inl (KC, 60, .inl cf)), ((a 25), .inr (4, [.ref (a 26), .int (nI ty)])), ((a 26), .inl (K, 60, .inl bf)), ((a 27), .inr (1, [.int pk, .int pf, .int ps, .int pn, .int pp, .int pm])), (out, .inl (KL, 1, .inr (.inl ofn))), (ms, .inl (K, 889, .inl sf))]) (b := (WW a K KS st hs sc)) (c := [(mo, .inr (8, [.ref ms, .int (nI (h_kp hs)), .ref mb, .int (nI ty), .int 1, .ref mk, .int ml, .ref mfd, .int mf, .int sp, .int on, .int tw]))]) hD
      have hK : va_K D vwCl [(K, .int), (KS, .object "BarcodeWand$State"), (KL, .long), (KC, .char)] s := hK
      have hP : va_P D vwCl ((mk, .inl (K, 41, .inl lk)) :: (mfd, .inl (K, 9, .inl fd)) :: (mb, .inl (KC, 60, .inl cf)) :: ((a 25), .inr (4, [.ref (a 26), .int (nI ty)])) :: ((a 26), .inl (K, 60, .inl bf)) :: ((a 27), .inr (1, [.int pk, .int pf, .int ps, .int pn, .int pp, .int pm])) :: (out, .inl (KL, 1, .inr (.inl ofn))) :: (ms, .inl (K, 889, .inl sf)) :: (mo, .inr (8, [.ref ms, .int (nI (h_kp hs)), .ref mb, .int (nI ty), .int 1, .ref mk, .int ml, .ref mfd, .int mf, .int sp, .int on, .int tw])) :: (WW a K KS st hs sc)) H := hP
      have hD : va_D A ((mk, .inl (K, 41, .inl lk)) :: (mfd, .inl (K, 9, .inl fd)) :: (mb, .inl (KC, 60, .inl cf)) :: ((a 25), .inr (4, [.ref (a 26), .int (nI ty)])) :: ((a 26), .inl (K, 60, .inl bf)) :: ((a 27), .inr (1, [.int pk, .int pf, .int ps, .int pn, .int pp, .int pm])) :: (out, .inl (KL, 1, .inr (.inl ofn))) :: (ms, .inl (K, 889, .inl sf)) :: (mo, .inr (8, [.ref ms, .int (nI (h_kp hs)), .ref mb, .int (nI ty), .int 1, .ref mk, .int ml, .ref mfd, .int mf, .int sp, .int on, .int tw])) :: (WW a K KS st hs sc)) := hD
      have hw_54 : r_53 = 1 := hw_54
      have hw_54 := hw_54.symm
      subst hw_54
      refine k_nrm (y := 1) rfl ?_
      refine lv_iload hx hb dL_law_510 (lv_at hl 1 rfl) ?_
      refine lv_icmp_eq (tgt := 517) hx hb dL_law_512 (by decide) (fun _ => ?_) (fun c9 => absurd (by decide) c9)
      refine lv_iload hx hb dL_law_517 (lv_at hl 1 rfl) ?_
      refine lv_if_ne (tgt := 534) hx hb dL_law_519 (by decide) (fun _ => ?_) (fun c9 => absurd c9 (by decide))
      refine lv_goto (tgt := 1479) hx hb dL_law_534 (by decide) ?_
      have hP9 : va_P D vwCl ((mo, .inr (8, [.ref ms, .int (nI (h_kp hs)), .ref mb, .int (nI ty), .int 1, .ref mk, .int ml, .ref mfd, .int mf, .int sp, .int on, .int tw])) :: (ms, .inl (K, 889, .inl sf)) :: (mk, .inl (K, 41, .inl lk)) :: (mfd, .inl (K, 9, .inl fd)) :: (mb, .inl (KC, 60, .inl cf)) :: ((a 25), .inr (4, [.ref (a 26), .int (nI ty)])) :: ((a 26), .inl (K, 60, .inl bf)) :: ((a 27), .inr (1, [.int pk, .int pf, .int ps, .int pn, .int pp, .int pm])) :: (out, .inl (KL, 1, .inr (.inl ofn))) :: (WW a K KS st hs sc)) H := k_subP (wp := [(mk, .inl (K, 41, .inl lk)), (mfd, .inl (K, 9, .inl fd)), (mb, .inl (KC, 60, .inl cf)), ((a 25), .inr (4, [.ref (a 26), .int (nI ty)])), ((a 26), .inl (K, 60, .inl bf)), ((a 27), .inr (1, [.int pk, .int pf, .int ps, .int pn, .int pp, .int pm])), (out, .inl (KL, 1, .inr (.inl ofn))), (ms, .inl (K, 889, .inl sf)), (mo, .inr (8, [.ref ms, .int (nI (h_kp hs)), .ref mb, .int (nI ty), .int 1, .ref mk, .int ml, .ref mfd, .int mf, .int sp, .int on, .int tw]))]) (wp' := [(mo, .inr (8, [.ref ms, .int (nI (h_kp hs)), .ref mb, .int (nI ty), .int 1, .ref mk, .int ml, .ref mfd, .int mf, .int sp, .int on, .int tw])), (ms, .inl (K, 889, .inl sf)), (mk, .inl (K, 41, .inl lk)), (mfd, .inl (K, 9, .inl fd)), (mb, .inl (KC, 60, .inl cf)), ((a 25), .inr (4, [.ref (a 26), .int (nI ty)])), ((a 26), .inl (K, 60, .inl bf)), ((a 27), .inr (1, [.int pk, .int pf, .int ps, .int pn, .int pp, .int pm])), (out, .inl (KL, 1, .inr (.inl ofn)))]) (T := (WW a K KS st hs sc)) hP [8, 7, 0, 1, 2, 3, 4, 5, 6] rfl
      have hD9 : va_D A ((mo, .inr (8, [.ref ms, .int (nI (h_kp hs)), .ref mb, .int (nI ty), .int 1, .ref mk, .int ml, .ref mfd, .int mf, .int sp, .int on, .int tw])) :: (ms, .inl (K, 889, .inl sf)) :: (mk, .inl (K, 41, .inl lk)) :: (mfd, .inl (K, 9, .inl fd)) :: (mb, .inl (KC, 60, .inl cf)) :: ((a 25), .inr (4, [.ref (a 26), .int (nI ty)])) :: ((a 26), .inl (K, 60, .inl bf)) :: ((a 27), .inr (1, [.int pk, .int pf, .int ps, .int pn, .int pp, .int pm])) :: (out, .inl (KL, 1, .inr (.inl ofn))) :: (WW a K KS st hs sc)) := k_subD (wp := [(mk, .inl (K, 41, .inl lk)), (mfd, .inl (K, 9, .inl fd)), (mb, .inl (KC, 60, .inl cf)), ((a 25), .inr (4, [.ref (a 26), .int (nI ty)])), ((a 26), .inl (K, 60, .inl bf)), ((a 27), .inr (1, [.int pk, .int pf, .int ps, .int pn, .int pp, .int pm])), (out, .inl (KL, 1, .inr (.inl ofn))), (ms, .inl (K, 889, .inl sf)), (mo, .inr (8, [.ref ms, .int (nI (h_kp hs)), .ref mb, .int (nI ty), .int 1, .ref mk, .int ml, .ref mfd, .int mf, .int sp, .int on, .int tw]))]) (wp' := [(mo, .inr (8, [.ref ms, .int (nI (h_kp hs)), .ref mb, .int (nI ty), .int 1, .ref mk, .int ml, .ref mfd, .int mf, .int sp, .int on, .int tw])), (ms, .inl (K, 889, .inl sf)), (mk, .inl (K, 41, .inl lk)), (mfd, .inl (K, 9, .inl fd)), (mb, .inl (KC, 60, .inl cf)), ((a 25), .inr (4, [.ref (a 26), .int (nI ty)])), ((a 26), .inl (K, 60, .inl bf)), ((a 27), .inr (1, [.int pk, .int pf, .int ps, .int pn, .int pp, .int pm])), (out, .inl (KL, 1, .inr (.inl ofn)))]) (T := (WW a K KS st hs sc)) hD [8, 7, 0, 1, 2, 3, 4, 5, 6] (by decide) rfl
      subst hAe
      refine W.widen (k := Cn) (n := Sn) (by omega) (by omega) ?_
      exact next st hs sc sf lk fd bf cf ofn ty 1 ml mf sp on tw pk pf ps pn pp pm H locs ls hLW hBU hP9 hD9 hS (lv_sub hl [2, 3, 4, 5, 6] rfl)
    · have hc9 := c_47
      refine lv_iconst (v := 1) hx hb dL_law_463 (by decide) ?_
      refine lv_goto (tgt := 468) hx hb dL_law_464 (by decide) ?_
      refine lv_aload_n hx hb dL_law_468 rfl (lv_at hl 1 rfl) ?_
      have ct := k_cut_TT (wp := [(mo, .inr (8, [.ref ms, .int (nI (h_kp hs)), .ref mb, .int (nI ty), .int th, .ref mk, .int ml, .ref mfd, .int mf, .int sp, .int on, .int tw])), (ms, .inl (K, 889, .inl sf)), (mk, .inl (K, 41, .inl lk)), (mfd, .inl (K, 9, .inl fd)), (mb, .inl (KC, 60, .inl cf)), ((a 25), .inr (4, [.ref (a 26), .int (nI ty)])), ((a 26), .inl (K, 60, .inl bf)), ((a 27), .inr (1, [.int pk, .int pf, .int ps, .int pn, .int pp, .int pm])), (out, .inl (KL, 1, .inr (.inl ofn)))]) (T := (WW a K KS st hs sc)) (wc := [(out, .inl (KL, 1, .inr (.inl ofn)))]) (wr := [(mo, .inr (8, [.ref ms, .int (nI (h_kp hs)), .ref mb, .int (nI ty), .int th, .ref mk, .int ml, .ref mfd, .int mf, .int sp, .int on, .int tw])), (ms, .inl (K, 889, .inl sf)), (mk, .inl (K, 41, .inl lk)), (mfd, .inl (K, 9, .inl fd)), (mb, .inl (KC, 60, .inl cf)), ((a 25), .inr (4, [.ref (a 26), .int (nI ty)])), ((a 26), .inl (K, 60, .inl bf)), ((a 27), .inr (1, [.int pk, .int pf, .int ps, .int pn, .int pp, .int pm]))]) (tc := [(K, .int), (KS, .object "BarcodeWand$State"), (KL, .long)]) hG hS hA hK hP hD [8] [0, 1, 2, 3, 4, 5, 6, 7] [0, 1, 2] rfl rfl (by decide) (by decide) (by decide) rfl
      refine k_endi (As := [.ref (a 0), .int y1, .int y2, .int 1, .ref out]) ct (k_runSW (As := [.ref (a 0), .int y1, .int y2, .int 1, .ref out]) (rest := []) S0 Ls_L_100 ct (c_L_drawX1 l hst D a K KS st hs sc y1 y2 1 out KL ofn (by assumption) H.size) hl.1 rfl (Nat.le_of_ble_eq_true rfl) rfl dL_law_469 ⟨⟨Nat.le_of_ble_eq_true rfl, Nat.le_of_ble_eq_true rfl⟩, (show C9 + 1 ≤ 601024 by omega), (show S9 + 6 ≤ 7293034 by omega)⟩) rfl rfl (fun r_55 _ H locs hw_56 hP hD hK hS => ?_)
      have hK : va_K D vwCl [(K, .int), (KS, .object "BarcodeWand$State"), (KL, .long), (KC, .char)] s := hK
      have hP : va_P D vwCl ((mo, .inr (8, [.ref ms, .int (nI (h_kp hs)), .ref mb, .int (nI ty), .int th, .ref mk, .int ml, .ref mfd, .int mf, .int sp, .int on, .int tw])) :: (ms, .inl (K, 889, .inl sf)) :: (mk, .inl (K, 41, .inl lk)) :: (mfd, .inl (K, 9, .inl fd)) :: (mb, .inl (KC, 60, .inl cf)) :: ((a 25), .inr (4, [.ref (a 26), .int (nI ty)])) :: ((a 26), .inl (K, 60, .inl bf)) :: ((a 27), .inr (1, [.int pk, .int pf, .int ps, .int pn, .int pp, .int pm])) :: (out, .inl (KL, 1, .inr (.inl ofn))) :: (WW a K KS st hs sc)) H := hP
      have hD : va_D A ((mo, .inr (8, [.ref ms, .int (nI (h_kp hs)), .ref mb, .int (nI ty), .int th, .ref mk, .int ml, .ref mfd, .int mf, .int sp, .int on, .int tw])) :: (ms, .inl (K, 889, .inl sf)) :: (mk, .inl (K, 41, .inl lk)) :: (mfd, .inl (K, 9, .inl fd)) :: (mb, .inl (KC, 60, .inl cf)) :: ((a 25), .inr (4, [.ref (a 26), .int (nI ty)])) :: ((a 26), .inl (K, 60, .inl bf)) :: ((a 27), .inr (1, [.int pk, .int pf, .int ps, .int pn, .int pp, .int pm])) :: (out, .inl (KL, 1, .inr (.inl ofn))) :: (WW a K KS st hs sc)) := hD
      have hw_56 : r_55 = (1) := hw_56
      have hw_56 := hw_56.symm
      subst hw_56
      refine k_nrm (y := 1) rfl ?_
      refine lv_istore (lv' := [(5, .int 1), (4, .int (nI i)), (3, .ref out), (2, .ref mo), (1, .ref (a 0)), (0, .ref b)]) hx hb dL_law_472 hl (by decide) rfl (fun ls hl => ?_)
      refine lv_aload_n hx hb dL_law_474 rfl (lv_at hl 3 rfl) ?_
      refine lv_aload_n hx hb dL_law_475 rfl (lv_at hl 5 rfl) ?_
      refine lv_iload hx hb dL_law_476 (lv_at hl 1 rfl) ?_
      refine lv_iconst (v := 1) hx hb dL_law_478 (by decide) ?_
      refine lv_iadd hx hb dL_law_479 ?_
      refine k_nrm (y := (nI (i + 1))) (nI_add i 1) ?_
      refine va_sld hx hb hX hbl hbA hS (vp_in_nI (by omega) (by omega)) dL_law_480 ?_
      refine k_nrm (y := y1) ((by rw [nI_clamp (by omega)]; exact hy1.symm)) ?_
      refine lv_aload_n hx hb dL_law_481 rfl (lv_at hl 5 rfl) ?_
      refine lv_iload hx hb dL_law_482 (lv_at hl 1 rfl) ?_
      refine lv_iconst (v := 2) hx hb dL_law_484 (by decide) ?_
      refine lv_iadd hx hb dL_law_485 ?_
      refine k_nrm (y := (nI (i + 2))) (nI_add i 2) ?_
      refine va_sld hx hb hX hbl hbA hS (vp_in_nI (by omega) (by omega)) dL_law_486 ?_
      refine k_nrm (y := y2) ((by rw [nI_clamp (by omega)]; exact hy2.symm)) ?_
      refine lv_aload_n hx hb dL_law_487 rfl (lv_at hl 5 rfl) ?_
      refine lv_iload hx hb dL_law_488 (lv_at hl 1 rfl) ?_
      refine lv_iconst (v := 3) hx hb dL_law_490 (by decide) ?_
      refine lv_iadd hx hb dL_law_491 ?_
      refine k_nrm (y := (nI (i + 3))) (nI_add i 3) ?_
      refine va_sld hx hb hX hbl hbA hS (vp_in_nI (by omega) (by omega)) dL_law_492 ?_
      refine k_nrm (y := y3) ((by rw [nI_clamp (by omega)]; exact hy3.symm)) ?_
      refine lv_if_eq (tgt := 500) hx hb dL_law_493 (by decide) (fun c9 => absurd c9 c_47) (fun c_57 => ?_)
      refine lv_iconst (v := 1) hx hb dL_law_496 (by decide) ?_
      refine lv_goto (tgt := 501) hx hb dL_law_497 (by decide) ?_
      have ct := k_cut_T (wp := [(mo, .inr (8, [.ref ms, .int (nI (h_kp hs)), .ref mb, .int (nI ty), .int th, .ref mk, .int ml, .ref mfd, .int mf, .int sp, .int on, .int tw])), (ms, .inl (K, 889, .inl sf)), (mk, .inl (K, 41, .inl lk)), (mfd, .inl (K, 9, .inl fd)), (mb, .inl (KC, 60, .inl cf)), ((a 25), .inr (4, [.ref (a 26), .int (nI ty)])), ((a 26), .inl (K, 60, .inl bf)), ((a 27), .inr (1, [.int pk, .int pf, .int ps, .int pn, .int pp, .int pm])), (out, .inl (KL, 1, .inr (.inl ofn)))]) (T := (WW a K KS st hs sc)) (wc := [(mo, .inr (8, [.ref ms, .int (nI (h_kp hs)), .ref mb, .int (nI ty), .int th, .ref mk, .int ml, .ref mfd, .int mf, .int sp, .int on, .int tw])), (ms, .inl (K, 889, .inl sf))]) (wr := [(mk, .inl (K, 41, .inl lk)), (mfd, .inl (K, 9, .inl fd)), (mb, .inl (KC, 60, .inl cf)), ((a 25), .inr (4, [.ref (a 26), .int (nI ty)])), ((a 26), .inl (K, 60, .inl bf)), ((a 27), .inr (1, [.int pk, .int pf, .int ps, .int pn, .int pp, .int pm])), (out, .inl (KL, 1, .inr (.inl ofn)))]) (tc := [(K, .int)]) hG hS hA hK hP hD [0, 1] [2, 3, 4, 5, 6, 7, 8] [0] rfl rfl (by decide) (by decide) (by decide) rfl
      refine k_endi (As := [.ref mo, .int y1, .int y2, .int 1]) ct (k_runV (As := [.int y1, .int y2, .int 1]) (rest := []) S0 Lv_L_103 rfl (ci := 8) (q0 := 0) rfl rfl ct (c_M_drawX1 l D mo ms (nI (h_kp hs)) mb (nI ty) th mk ml mfd mf sp on tw K sf st y1 y2 1 (by assumption) (by assumption) (by assumption) (by assumption) H.size) hl.1 rfl (Nat.le_of_ble_eq_true rfl) rfl dL_law_501 ⟨⟨Nat.le_of_ble_eq_true rfl, Nat.le_of_ble_eq_true rfl⟩, (show C9 + 1 ≤ 601024 by omega), (show S9 + 6 ≤ 7293034 by omega)⟩) rfl rfl (fun r_58 _ H locs hw_59 hP hD hK hS => ?_)
      have hP : va_P D vwCl ((mk, .inl (K, 41, .inl lk)) :: (mfd, .inl (K, 9, .inl fd)) :: (mb, .inl (KC, 60, .inl cf)) :: ((a 25), .inr (4, [.ref (a 26), .int (nI ty)])) :: ((a 26), .inl (K, 60, .inl bf)) :: ((a 27), .inr (1, [.int pk, .int pf, .int ps, .int pn, .int pp, .int pm])) :: (out, .inl (KL, 1, .inr (.inl ofn))) :: (mo, .inr (8, [.ref ms, .int (nI (h_kp hs)), .ref mb, .int (nI ty), .int 1, .ref mk, .int ml, .ref mfd, .int mf, .int sp, .int on, .int tw])) :: (ms, .inl (K, 889, .inl sf)) :: (WW a K KS st hs sc)) H := k_swapP (a := [(mk, .inl (K, 41, .inl lk)), (mfd, .inl (K, 9, .inl fd)), (mb, .inl (KC, 60, .inl cf)), ((a 25), .inr (4, [.ref (a 26), .int (nI ty)])), ((a 26), .inl (K, 60, .inl bf)), ((a 27), .inr (1, [.int pk, .int pf, .int ps, .int pn, .int pp, .int pm])), (out, .inl (KL, 1, .inr (.inl ofn)))]) (b := (WW a K KS st hs sc)) (c := [(mo, .inr (8, [.ref ms, .int (nI (h_kp hs)), .ref mb, .int (nI ty), .int 1, .ref mk, .int ml, .ref mfd, .int mf, .int sp, .int on, .int tw])), (ms, .inl (K, 889, .inl sf))]) hP
      have hD : va_D A ((mk, .inl (K, 41, .inl lk)) :: (mfd, .inl (K, 9, .inl fd)) :: (mb, .inl (KC, 60, .inl cf)) :: ((a 25), .inr (4, [.ref (a 26), .int (nI ty)])) :: ((a 26), .inl (K, 60, .inl bf)) :: ((a 27), .inr (1, [.int pk, .int pf, .int ps, .int pn, .int pp, .int pm])) :: (out, .inl (KL, 1, .inr (.inl ofn))) :: (mo, .inr (8, [.ref ms, .int (nI (h_kp hs)), .ref mb, .int (nI ty), .int 1, .ref mk, .int ml, .ref mfd, .int mf, .int sp, .int on, .int tw])) :: (ms, .inl (K, 889, .inl sf)) :: (WW a K KS st hs sc)) := va_D.swap (a := [(mk, .inl (K, 41, .inl lk)), (mfd, .inl (K, 9, .inl fd)), (mb, .inl (KC, 60, .inl cf)), ((a 25), .inr (4, [.ref (a 26), .int (nI ty)])), ((a 26), .inl (K, 60, .inl bf)), ((a 27), .inr (1, [.int pk, .int pf, .int ps, .int pn, .int pp, .int pm])), (out, .inl (KL, 1, .inr (.inl ofn)))]) (b := (WW a K KS st hs sc)) (c := [(mo, .inr (8, [.ref ms, .int (nI (h_kp hs)), .ref mb, .int (nI ty), .int 1, .ref mk, .int ml, .ref mfd, .int mf, .int sp, .int on, .int tw])), (ms, .inl (K, 889, .inl sf))]) hD
      have hK : va_K D vwCl [(K, .int), (KS, .object "BarcodeWand$State"), (KL, .long), (KC, .char)] s := hK
      have hP : va_P D vwCl ((mk, .inl (K, 41, .inl lk)) :: (mfd, .inl (K, 9, .inl fd)) :: (mb, .inl (KC, 60, .inl cf)) :: ((a 25), .inr (4, [.ref (a 26), .int (nI ty)])) :: ((a 26), .inl (K, 60, .inl bf)) :: ((a 27), .inr (1, [.int pk, .int pf, .int ps, .int pn, .int pp, .int pm])) :: (out, .inl (KL, 1, .inr (.inl ofn))) :: (mo, .inr (8, [.ref ms, .int (nI (h_kp hs)), .ref mb, .int (nI ty), .int 1, .ref mk, .int ml, .ref mfd, .int mf, .int sp, .int on, .int tw])) :: (ms, .inl (K, 889, .inl sf)) :: (WW a K KS st hs sc)) H := hP
      have hD : va_D A ((mk, .inl (K, 41, .inl lk)) :: (mfd, .inl (K, 9, .inl fd)) :: (mb, .inl (KC, 60, .inl cf)) :: ((a 25), .inr (4, [.ref (a 26), .int (nI ty)])) :: ((a 26), .inl (K, 60, .inl bf)) :: ((a 27), .inr (1, [.int pk, .int pf, .int ps, .int pn, .int pp, .int pm])) :: (out, .inl (KL, 1, .inr (.inl ofn))) :: (mo, .inr (8, [.ref ms, .int (nI (h_kp hs)), .ref mb, .int (nI ty), .int 1, .ref mk, .int ml, .ref mfd, .int mf, .int sp, .int on, .int tw])) :: (ms, .inl (K, 889, .inl sf)) :: (WW a K KS st hs sc)) := hD
      have hw_59 : r_58 = (0) := hw_59
      have hw_59 := hw_59.symm
      subst hw_59
      refine k_nrm (y := 0) rfl ?_
      refine lv_istore (lv' := [(6, .int 0), (5, .int 1), (4, .int (nI i)), (3, .ref out), (2, .ref mo), (1, .ref (a 0)), (0, .ref b)]) hx hb dL_law_504 hl (by decide) rfl (fun ls hl => ?_)
      refine lv_aload_n hx hb dL_law_506 rfl (lv_at hl 4 rfl) ?_
      have ct := k_cut_T (wp := [(mk, .inl (K, 41, .inl lk)), (mfd, .inl (K, 9, .inl fd)), (mb, .inl (KC, 60, .inl cf)), ((a 25), .inr (4, [.ref (a 26), .int (nI ty)])), ((a 26), .inl (K, 60, .inl bf)), ((a 27), .inr (1, [.int pk, .int pf, .int ps, .int pn, .int pp, .int pm])), (out, .inl (KL, 1, .inr (.inl ofn))), (mo, .inr (8, [.ref ms, .int (nI (h_kp hs)), .ref mb, .int (nI ty), .int 1, .ref mk, .int ml, .ref mfd, .int mf, .int sp, .int on, .int tw])), (ms, .inl (K, 889, .inl sf))]) (T := (WW a K KS st hs sc)) (wc := [(mo, .inr (8, [.ref ms, .int (nI (h_kp hs)), .ref mb, .int (nI ty), .int 1, .ref mk, .int ml, .ref mfd, .int mf, .int sp, .int on, .int tw]))]) (wr := [(mk, .inl (K, 41, .inl lk)), (mfd, .inl (K, 9, .inl fd)), (mb, .inl (KC, 60, .inl cf)), ((a 25), .inr (4, [.ref (a 26), .int (nI ty)])), ((a 26), .inl (K, 60, .inl bf)), ((a 27), .inr (1, [.int pk, .int pf, .int ps, .int pn, .int pp, .int pm])), (out, .inl (KL, 1, .inr (.inl ofn))), (ms, .inl (K, 889, .inl sf))]) (tc := []) hG hS hA hK hP hD [7] [0, 1, 2, 3, 4, 5, 6, 8] [] rfl rfl (by decide) (by decide) (by decide) rfl
      refine k_endi (As := [.ref mo]) ct (k_runV (As := []) (rest := []) S0 Lv_L_83 rfl (ci := 8) (q0 := 0) rfl rfl ct (c_M_thrown l D mo ms (nI (h_kp hs)) mb (nI ty) 1 mk ml mfd mf sp on tw H.size) hl.1 rfl (Nat.le_of_ble_eq_true rfl) rfl dL_law_507 ⟨⟨Nat.le_of_ble_eq_true rfl, Nat.le_of_ble_eq_true rfl⟩, (show C9 + 1 ≤ 601024 by omega), (show S9 + 6 ≤ 7293034 by omega)⟩) rfl rfl (fun r_60 _ H locs hw_61 hP hD hK hS => ?_)
      have hP : va_P D vwCl ((mk, .inl (K, 41, .inl lk)) :: (mfd, .inl (K, 9, .inl fd)) :: (mb, .inl (KC, 60, .inl cf)) :: ((a 25), .inr (4, [.ref (a 26), .int (nI ty)])) :: ((a 26), .inl (K, 60, .inl bf)) :: ((a 27), .inr (1, [.int pk, .int pf, .int ps, .int pn, .int pp, .int pm])) :: (out, .inl (KL, 1, .inr (.inl ofn))) :: (ms, .inl (K, 889, .inl sf)) :: (mo, .inr (8, [.ref ms, .int (nI (h_kp hs)), .ref mb, .int (nI ty), .int 1, .ref mk, .int ml, .ref mfd, .int mf, .int sp, .int on, .int tw])) :: (WW a K KS st hs sc)) H := k_swapP (a := [(mk, .inl (K, 41, .inl lk)), (mfd, .inl (K, 9, .inl fd)), (mb, .inl (KC, 60, .inl cf)), ((a 25), .inr (4, [.ref (a 26), .int (nI ty)])), ((a 26), .inl (K, 60, .inl bf)), ((a 27), .inr (1, [.int pk, .int pf, .int ps, .int pn, .int pp, .int pm])), (out, .inl (KL, 1, .inr (.inl ofn))), (ms, .inl (K, 889, .inl sf))]) (b := (WW a K KS st hs sc)) (c := [(mo, .inr (8, [.ref ms, .int (nI (h_kp hs)), .ref mb, .int (nI ty), .int 1, .ref mk, .int ml, .ref mfd, .int mf, .int sp, .int on, .int tw]))]) hP
      have hD : va_D A ((mk, .inl (K, 41, .inl lk)) :: (mfd, .inl (K, 9, .inl fd)) :: (mb, .inl (KC, 60, .inl cf)) :: ((a 25), .inr (4, [.ref (a 26), .int (nI ty)])) :: ((a 26), .inl (K, 60, .inl bf)) :: ((a 27), .inr (1, [.int pk, .int pf, .int ps, .int pn, .int pp, .int pm])) :: (out, .inl (KL, 1, .inr (.inl ofn))) :: (ms, .inl (K, 889, .inl sf)) :: (mo, .inr (8, [.ref ms, .int (nI (h_kp hs)), .ref mb, .int (nI ty), .int 1, .ref mk, .int ml, .ref mfd, .int mf, .int sp, .int on, .int tw])) :: (WW a K KS st hs sc)) := va_D.swap (a := [(mk, .inl (K, 41, .inl lk)), (mfd, .inl (K, 9, .inl fd)), (mb, .inl (KC, 60, .inl cf)), ((a 25), .inr (4, [.ref (a 26), .int (nI ty)])), ((a 26), .inl (K, 60, .inl bf)), ((a 27), .inr (1, [.int pk, .int pf, .int ps, .int pn, .int pp, .int pm])), (out, .inl (KL, 1, .inr (.inl ofn))), (ms, .inl (K, 889, .inl sf))]) (b := (WW a K KS st hs sc)) (c := [(mo, .inr (8, [.ref ms, .int (nI (h_kp hs)), .ref mb, .int (nI ty), .int 1, .ref mk, .int ml, .ref mfd, .int mf, .int sp, .int on, .int tw]))]) hD
      have hK : va_K D vwCl [(K, .int), (KS, .object "BarcodeWand$State"), (KL, .long), (KC, .char)] s := hK
      have hP : va_P D vwCl ((mk, .inl (K, 41, .inl lk)) :: (mfd, .inl (K, 9, .inl fd)) :: (mb, .inl (KC, 60, .inl cf)) :: ((a 25), .inr (4, [.ref (a 26), .int (nI ty)])) :: ((a 26), .inl (K, 60, .inl bf)) :: ((a 27), .inr (1, [.int pk, .int pf, .int ps, .int pn, .int pp, .int pm])) :: (out, .inl (KL, 1, .inr (.inl ofn))) :: (ms, .inl (K, 889, .inl sf)) :: (mo, .inr (8, [.ref ms, .int (nI (h_kp hs)), .ref mb, .int (nI ty), .int 1, .ref mk, .int ml, .ref mfd, .int mf, .int sp, .int on, .int tw])) :: (WW a K KS st hs sc)) H := hP
      have hD : va_D A ((mk, .inl (K, 41, .inl lk)) :: (mfd, .inl (K, 9, .inl fd)) :: (mb, .inl (KC, 60, .inl cf)) :: ((a 25), .inr (4, [.ref (a 26), .int (nI ty)])) :: ((a 26), .inl (K, 60, .inl bf)) :: ((a 27), .inr (1, [.int pk, .int pf, .int ps, .int pn, .int pp, .int pm])) :: (out, .inl (KL, 1, .inr (.inl ofn))) :: (ms, .inl (K, 889, .inl sf)) :: (mo, .inr (8, [.ref ms, .int (nI (h_kp hs)), .ref mb, .int (nI ty), .int 1, .ref mk, .int ml, .ref mfd, .int mf, .int sp, .int on, .int tw])) :: (WW a K KS st hs sc)) := hD
      have hw_61 : r_60 = 1 := hw_61
      have hw_61 := hw_61.symm
      subst hw_61
      refine k_nrm (y := 1) rfl ?_
      refine lv_iload hx hb dL_law_510 (lv_at hl 1 rfl) ?_
      refine lv_icmp_eq (tgt := 517) hx hb dL_law_512 (by decide) (fun _ => ?_) (fun c9 => absurd (by decide) c9)
      refine lv_iload hx hb dL_law_517 (lv_at hl 1 rfl) ?_
      refine lv_if_ne (tgt := 534) hx hb dL_law_519 (by decide) (fun _ => ?_) (fun c9 => absurd c9 (by decide))
      refine lv_goto (tgt := 1479) hx hb dL_law_534 (by decide) ?_
      have hP9 : va_P D vwCl ((mo, .inr (8, [.ref ms, .int (nI (h_kp hs)), .ref mb, .int (nI ty), .int 1, .ref mk, .int ml, .ref mfd, .int mf, .int sp, .int on, .int tw])) :: (ms, .inl (K, 889, .inl sf)) :: (mk, .inl (K, 41, .inl lk)) :: (mfd, .inl (K, 9, .inl fd)) :: (mb, .inl (KC, 60, .inl cf)) :: ((a 25), .inr (4, [.ref (a 26), .int (nI ty)])) :: ((a 26), .inl (K, 60, .inl bf)) :: ((a 27), .inr (1, [.int pk, .int pf, .int ps, .int pn, .int pp, .int pm])) :: (out, .inl (KL, 1, .inr (.inl ofn))) :: (WW a K KS st hs sc)) H := k_subP (wp := [(mk, .inl (K, 41, .inl lk)), (mfd, .inl (K, 9, .inl fd)), (mb, .inl (KC, 60, .inl cf)), ((a 25), .inr (4, [.ref (a 26), .int (nI ty)])), ((a 26), .inl (K, 60, .inl bf)), ((a 27), .inr (1, [.int pk, .int pf, .int ps, .int pn, .int pp, .int pm])), (out, .inl (KL, 1, .inr (.inl ofn))), (ms, .inl (K, 889, .inl sf)), (mo, .inr (8, [.ref ms, .int (nI (h_kp hs)), .ref mb, .int (nI ty), .int 1, .ref mk, .int ml, .ref mfd, .int mf, .int sp, .int on, .int tw]))]) (wp' := [(mo, .inr (8, [.ref ms, .int (nI (h_kp hs)), .ref mb, .int (nI ty), .int 1, .ref mk, .int ml, .ref mfd, .int mf, .int sp, .int on, .int tw])), (ms, .inl (K, 889, .inl sf)), (mk, .inl (K, 41, .inl lk)), (mfd, .inl (K, 9, .inl fd)), (mb, .inl (KC, 60, .inl cf)), ((a 25), .inr (4, [.ref (a 26), .int (nI ty)])), ((a 26), .inl (K, 60, .inl bf)), ((a 27), .inr (1, [.int pk, .int pf, .int ps, .int pn, .int pp, .int pm])), (out, .inl (KL, 1, .inr (.inl ofn)))]) (T := (WW a K KS st hs sc)) hP [8, 7, 0, 1, 2, 3, 4, 5, 6] rfl
      have hD9 : va_D A ((mo, .inr (8, [.ref ms, .int (nI (h_kp hs)), .ref mb, .int (nI ty), .int 1, .ref mk, .int ml, .ref mfd, .int mf, .int sp, .int on, .int tw])) :: (ms, .inl (K, 889, .inl sf)) :: (mk, .inl (K, 41, .inl lk)) :: (mfd, .inl (K, 9, .inl fd)) :: (mb, .inl (KC, 60, .inl cf)) :: ((a 25), .inr (4, [.ref (a 26), .int (nI ty)])) :: ((a 26), .inl (K, 60, .inl bf)) :: ((a 27), .inr (1, [.int pk, .int pf, .int ps, .int pn, .int pp, .int pm])) :: (out, .inl (KL, 1, .inr (.inl ofn))) :: (WW a K KS st hs sc)) := k_subD (wp := [(mk, .inl (K, 41, .inl lk)), (mfd, .inl (K, 9, .inl fd)), (mb, .inl (KC, 60, .inl cf)), ((a 25), .inr (4, [.ref (a 26), .int (nI ty)])), ((a 26), .inl (K, 60, .inl bf)), ((a 27), .inr (1, [.int pk, .int pf, .int ps, .int pn, .int pp, .int pm])), (out, .inl (KL, 1, .inr (.inl ofn))), (ms, .inl (K, 889, .inl sf)), (mo, .inr (8, [.ref ms, .int (nI (h_kp hs)), .ref mb, .int (nI ty), .int 1, .ref mk, .int ml, .ref mfd, .int mf, .int sp, .int on, .int tw]))]) (wp' := [(mo, .inr (8, [.ref ms, .int (nI (h_kp hs)), .ref mb, .int (nI ty), .int 1, .ref mk, .int ml, .ref mfd, .int mf, .int sp, .int on, .int tw])), (ms, .inl (K, 889, .inl sf)), (mk, .inl (K, 41, .inl lk)), (mfd, .inl (K, 9, .inl fd)), (mb, .inl (KC, 60, .inl cf)), ((a 25), .inr (4, [.ref (a 26), .int (nI ty)])), ((a 26), .inl (K, 60, .inl bf)), ((a 27), .inr (1, [.int pk, .int pf, .int ps, .int pn, .int pp, .int pm])), (out, .inl (KL, 1, .inr (.inl ofn)))]) (T := (WW a K KS st hs sc)) hD [8, 7, 0, 1, 2, 3, 4, 5, 6] (by decide) rfl
      subst hAe
      refine W.widen (k := Cn) (n := Sn) (by omega) (by omega) ?_
      exact next st hs sc sf lk fd bf cf ofn ty 1 ml mf sp on tw pk pf ps pn pp pm H locs ls hLW hBU hP9 hD9 hS (lv_sub hl [2, 3, 4, 5, 6] rfl)
