set_option maxRecDepth 20000 in
theorem lk_L_draws : Cond.code yL_draws cL_draws 15 (some .boolean) ∈ wsA := mA 694 rfl rfl
theorem ly_L_draws : k_y yL_draws 4 := ⟨by decide +kernel, by decide +kernel, by decide +kernel⟩
set_option maxRecDepth 20000 in
theorem ls_L_draws : Cond.static yL_draws ∈ wsA := mA 693 rfl rfl
set_option maxRecDepth 20000 in
theorem Ls_L_166 : k_LS RL 166 yL_draws cL_draws 15 (some .boolean) 4 := ⟨mA 692 rfl rfl, ls_L_draws, li_BarcodeWandLaw, lk_L_draws, ly_L_draws⟩
set_option maxRecDepth 20000 in
theorem lk_L_clean : Cond.code yL_clean cL_clean 10 (some .boolean) ∈ wsA := mA 712 rfl rfl
theorem ly_L_clean : k_y yL_clean 4 := ⟨by decide +kernel, by decide +kernel, by decide +kernel⟩
set_option maxRecDepth 20000 in
theorem ls_L_clean : Cond.static yL_clean ∈ wsA := mA 711 rfl rfl
set_option maxRecDepth 20000 in
theorem Ls_L_184 : k_LS RL 184 yL_clean cL_clean 10 (some .boolean) 4 := ⟨mA 710 rfl rfl, ls_L_clean, li_BarcodeWandLaw, lk_L_clean, ly_L_clean⟩
set_option maxRecDepth 20000 in
theorem lk_L_smudges : Cond.code yL_smudges cL_smudges 7 (some .boolean) ∈ wsA := mA 697 rfl rfl
theorem ly_L_smudges : k_y yL_smudges 2 := ⟨by decide +kernel, by decide +kernel, by decide +kernel⟩
set_option maxRecDepth 20000 in
theorem ls_L_smudges : Cond.static yL_smudges ∈ wsA := mA 696 rfl rfl
set_option maxRecDepth 20000 in
theorem Ls_L_180 : k_LS RL 180 yL_smudges cL_smudges 7 (some .boolean) 2 := ⟨mA 695 rfl rfl, ls_L_smudges, li_BarcodeWandLaw, lk_L_smudges, ly_L_smudges⟩
theorem dL_law_0 : decode cL_law 0 = .ok (.new 11, 3) := by decide +kernel
theorem dL_law_3 : decode cL_law 3 = .ok (.dup, 1) := by decide +kernel
theorem dL_law_4 : decode cL_law 4 = .ok (.invokespecial 165, 3) := by decide +kernel
theorem dL_law_7 : decode cL_law 7 = .ok (.astore_n 1, 1) := by decide +kernel
theorem dL_law_8 : decode cL_law 8 = .ok (.aload_n 1, 1) := by decide +kernel
theorem dL_law_9 : decode cL_law 9 = .ok (.invokestatic 157, 3) := by decide +kernel
theorem dL_law_12 : decode cL_law 12 = .ok (.ifCond .eq 17, 3) := by decide +kernel
theorem dL_law_15 : decode cL_law 15 = .ok (.aload_n 1, 1) := by decide +kernel
theorem dL_law_16 : decode cL_law 16 = .ok (.iconst 5, 1) := by decide +kernel
theorem dL_law_17 : decode cL_law 17 = .ok (.iconst 5, 1) := by decide +kernel
theorem dL_law_18 : decode cL_law 18 = .ok (.iconst 0, 1) := by decide +kernel
theorem dL_law_19 : decode cL_law 19 = .ok (.invokestatic 166, 3) := by decide +kernel
theorem dL_law_22 : decode cL_law 22 = .ok (.ifCond .eq 7, 3) := by decide +kernel
theorem dL_law_25 : decode cL_law 25 = .ok (.iconst 1, 1) := by decide +kernel
theorem dL_law_26 : decode cL_law 26 = .ok (.goto 4, 3) := by decide +kernel
theorem dL_law_29 : decode cL_law 29 = .ok (.iconst 0, 1) := by decide +kernel
theorem dL_law_30 : decode cL_law 30 = .ok (.istore_n 2, 1) := by decide +kernel
theorem dL_law_31 : decode cL_law 31 = .ok (.iconst 0, 1) := by decide +kernel
theorem dL_law_32 : decode cL_law 32 = .ok (.istore_n 3, 1) := by decide +kernel
theorem dL_law_33 : decode cL_law 33 = .ok (.iload_n 3, 1) := by decide +kernel
theorem dL_law_34 : decode cL_law 34 = .ok (.bipush 40, 2) := by decide +kernel
theorem dL_law_36 : decode cL_law 36 = .ok (.if_icmp .ge 334, 3) := by decide +kernel
theorem dL_law_39 : decode cL_law 39 = .ok (.iload_n 2, 1) := by decide +kernel
theorem dL_law_40 : decode cL_law 40 = .ok (.ifCond .eq 330, 3) := by decide +kernel
theorem dL_law_43 : decode cL_law 43 = .ok (.aload_n 0, 1) := by decide +kernel
theorem dL_law_44 : decode cL_law 44 = .ok (.iconst 2, 1) := by decide +kernel
theorem dL_law_45 : decode cL_law 45 = .ok (.iload_n 3, 1) := by decide +kernel
theorem dL_law_46 : decode cL_law 46 = .ok (.imul, 1) := by decide +kernel
theorem dL_law_47 : decode cL_law 47 = .ok (.invokestatic 170, 3) := by decide +kernel
theorem dL_law_50 : decode cL_law 50 = .ok (.istore 4, 2) := by decide +kernel
theorem dL_law_52 : decode cL_law 52 = .ok (.aload_n 0, 1) := by decide +kernel
theorem dL_law_53 : decode cL_law 53 = .ok (.iconst 2, 1) := by decide +kernel
theorem dL_law_54 : decode cL_law 54 = .ok (.iload_n 3, 1) := by decide +kernel
theorem dL_law_55 : decode cL_law 55 = .ok (.imul, 1) := by decide +kernel
theorem dL_law_56 : decode cL_law 56 = .ok (.iconst 1, 1) := by decide +kernel
theorem dL_law_57 : decode cL_law 57 = .ok (.iadd, 1) := by decide +kernel
theorem dL_law_58 : decode cL_law 58 = .ok (.invokestatic 170, 3) := by decide +kernel
theorem dL_law_61 : decode cL_law 61 = .ok (.istore 5, 2) := by decide +kernel
theorem dL_law_63 : decode cL_law 63 = .ok (.aload_n 1, 1) := by decide +kernel
theorem dL_law_64 : decode cL_law 64 = .ok (.invokevirtual 174, 3) := by decide +kernel
theorem dL_law_67 : decode cL_law 67 = .ok (.istore 6, 2) := by decide +kernel
theorem dL_law_69 : decode cL_law 69 = .ok (.aload_n 1, 1) := by decide +kernel
theorem dL_law_70 : decode cL_law 70 = .ok (.invokestatic 153, 3) := by decide +kernel
theorem dL_law_73 : decode cL_law 73 = .ok (.lstore 7, 2) := by decide +kernel
theorem dL_law_75 : decode cL_law 75 = .ok (.iload_n 3, 1) := by decide +kernel
theorem dL_law_76 : decode cL_law 76 = .ok (.ifCond .ne 19, 3) := by decide +kernel
theorem dL_law_79 : decode cL_law 79 = .ok (.aload_n 1, 1) := by decide +kernel
theorem dL_law_80 : decode cL_law 80 = .ok (.iload 4, 2) := by decide +kernel
theorem dL_law_82 : decode cL_law 82 = .ok (.sipush 1000, 3) := by decide +kernel
theorem dL_law_85 : decode cL_law 85 = .ok (.invokestatic 72, 3) := by decide +kernel
theorem dL_law_88 : decode cL_law 88 = .ok (.iconst 3, 1) := by decide +kernel
theorem dL_law_89 : decode cL_law 89 = .ok (.invokestatic 77, 3) := by decide +kernel
theorem dL_law_92 : decode cL_law 92 = .ok (.goto 11, 3) := by decide +kernel
theorem dL_law_95 : decode cL_law 95 = .ok (.aload_n 1, 1) := by decide +kernel
theorem dL_law_96 : decode cL_law 96 = .ok (.iload 4, 2) := by decide +kernel
theorem dL_law_98 : decode cL_law 98 = .ok (.iload 5, 2) := by decide +kernel
theorem dL_law_100 : decode cL_law 100 = .ok (.invokestatic 177, 3) := by decide +kernel
theorem dL_law_103 : decode cL_law 103 = .ok (.istore 9, 2) := by decide +kernel
theorem dL_law_105 : decode cL_law 105 = .ok (.iload 9, 2) := by decide +kernel
theorem dL_law_107 : decode cL_law 107 = .ok (.sipush (-1000), 3) := by decide +kernel
theorem dL_law_110 : decode cL_law 110 = .ok (.if_icmp .ge 30, 3) := by decide +kernel
theorem dL_law_113 : decode cL_law 113 = .ok (.aload_n 1, 1) := by decide +kernel
theorem dL_law_114 : decode cL_law 114 = .ok (.invokevirtual 174, 3) := by decide +kernel
theorem dL_law_117 : decode cL_law 117 = .ok (.iload 6, 2) := by decide +kernel
theorem dL_law_119 : decode cL_law 119 = .ok (.if_icmp .ne 17, 3) := by decide +kernel
theorem dL_law_122 : decode cL_law 122 = .ok (.aload_n 1, 1) := by decide +kernel
theorem dL_law_123 : decode cL_law 123 = .ok (.invokestatic 153, 3) := by decide +kernel
theorem dL_law_126 : decode cL_law 126 = .ok (.lload 7, 2) := by decide +kernel
theorem dL_law_128 : decode cL_law 128 = .ok (.lcmp, 1) := by decide +kernel
theorem dL_law_129 : decode cL_law 129 = .ok (.ifCond .ne 7, 3) := by decide +kernel
theorem dL_law_132 : decode cL_law 132 = .ok (.iconst 1, 1) := by decide +kernel
theorem dL_law_133 : decode cL_law 133 = .ok (.goto 35, 3) := by decide +kernel
theorem dL_law_136 : decode cL_law 136 = .ok (.iconst 0, 1) := by decide +kernel
theorem dL_law_137 : decode cL_law 137 = .ok (.goto 31, 3) := by decide +kernel
theorem dL_law_140 : decode cL_law 140 = .ok (.aload_n 1, 1) := by decide +kernel
theorem dL_law_141 : decode cL_law 141 = .ok (.invokevirtual 174, 3) := by decide +kernel
theorem dL_law_144 : decode cL_law 144 = .ok (.iload 6, 2) := by decide +kernel
theorem dL_law_146 : decode cL_law 146 = .ok (.bipush 6, 2) := by decide +kernel
theorem dL_law_148 : decode cL_law 148 = .ok (.if_icmp .ge 10, 3) := by decide +kernel
theorem dL_law_151 : decode cL_law 151 = .ok (.iload 6, 2) := by decide +kernel
theorem dL_law_153 : decode cL_law 153 = .ok (.iconst 1, 1) := by decide +kernel
theorem dL_law_154 : decode cL_law 154 = .ok (.iadd, 1) := by decide +kernel
theorem dL_law_155 : decode cL_law 155 = .ok (.goto 5, 3) := by decide +kernel
theorem dL_law_158 : decode cL_law 158 = .ok (.bipush 6, 2) := by decide +kernel
theorem dL_law_160 : decode cL_law 160 = .ok (.if_icmp .ne 7, 3) := by decide +kernel
theorem dL_law_163 : decode cL_law 163 = .ok (.iconst 1, 1) := by decide +kernel
theorem dL_law_164 : decode cL_law 164 = .ok (.goto 4, 3) := by decide +kernel
theorem dL_law_167 : decode cL_law 167 = .ok (.iconst 0, 1) := by decide +kernel
theorem dL_law_168 : decode cL_law 168 = .ok (.istore_n 2, 1) := by decide +kernel
theorem dL_law_169 : decode cL_law 169 = .ok (.iload_n 2, 1) := by decide +kernel
theorem dL_law_170 : decode cL_law 170 = .ok (.ifCond .eq 72, 3) := by decide +kernel
theorem dL_law_173 : decode cL_law 173 = .ok (.iload 9, 2) := by decide +kernel
theorem dL_law_175 : decode cL_law 175 = .ok (.sipush (-1000), 3) := by decide +kernel
theorem dL_law_178 : decode cL_law 178 = .ok (.if_icmp .lt 64, 3) := by decide +kernel
theorem dL_law_181 : decode cL_law 181 = .ok (.iload_n 3, 1) := by decide +kernel
theorem dL_law_182 : decode cL_law 182 = .ok (.ifCond .le 60, 3) := by decide +kernel
theorem dL_law_185 : decode cL_law 185 = .ok (.iload 6, 2) := by decide +kernel
theorem dL_law_187 : decode cL_law 187 = .ok (.bipush 6, 2) := by decide +kernel
theorem dL_law_189 : decode cL_law 189 = .ok (.if_icmp .ge 53, 3) := by decide +kernel
theorem dL_law_192 : decode cL_law 192 = .ok (.iload 5, 2) := by decide +kernel
theorem dL_law_194 : decode cL_law 194 = .ok (.bipush 6, 2) := by decide +kernel
theorem dL_law_196 : decode cL_law 196 = .ok (.ishr, 1) := by decide +kernel
theorem dL_law_197 : decode cL_law 197 = .ok (.iconst 3, 1) := by decide +kernel
theorem dL_law_198 : decode cL_law 198 = .ok (.invokestatic 72, 3) := by decide +kernel
theorem dL_law_201 : decode cL_law 201 = .ok (.ifCond .ne 41, 3) := by decide +kernel
theorem dL_law_204 : decode cL_law 204 = .ok (.aload_n 1, 1) := by decide +kernel
theorem dL_law_205 : decode cL_law 205 = .ok (.invokestatic 160, 3) := by decide +kernel
theorem dL_law_208 : decode cL_law 208 = .ok (.iload 6, 2) := by decide +kernel
theorem dL_law_210 : decode cL_law 210 = .ok (.if_icmp .ne 30, 3) := by decide +kernel
theorem dL_law_213 : decode cL_law 213 = .ok (.aload_n 1, 1) := by decide +kernel
theorem dL_law_214 : decode cL_law 214 = .ok (.invokestatic 153, 3) := by decide +kernel
theorem dL_law_217 : decode cL_law 217 = .ok (.lload 7, 2) := by decide +kernel
theorem dL_law_219 : decode cL_law 219 = .ok (.lcmp, 1) := by decide +kernel
theorem dL_law_220 : decode cL_law 220 = .ok (.ifCond .ne 20, 3) := by decide +kernel
theorem dL_law_223 : decode cL_law 223 = .ok (.aload_n 1, 1) := by decide +kernel
theorem dL_law_224 : decode cL_law 224 = .ok (.iload 4, 2) := by decide +kernel
theorem dL_law_226 : decode cL_law 226 = .ok (.iload 5, 2) := by decide +kernel
theorem dL_law_228 : decode cL_law 228 = .ok (.invokestatic 177, 3) := by decide +kernel
theorem dL_law_231 : decode cL_law 231 = .ok (.iload 9, 2) := by decide +kernel
theorem dL_law_233 : decode cL_law 233 = .ok (.if_icmp .ne 7, 3) := by decide +kernel
theorem dL_law_236 : decode cL_law 236 = .ok (.iconst 1, 1) := by decide +kernel
theorem dL_law_237 : decode cL_law 237 = .ok (.goto 4, 3) := by decide +kernel
theorem dL_law_240 : decode cL_law 240 = .ok (.iconst 0, 1) := by decide +kernel
theorem dL_law_241 : decode cL_law 241 = .ok (.istore_n 2, 1) := by decide +kernel
theorem dL_law_242 : decode cL_law 242 = .ok (.iload_n 2, 1) := by decide +kernel
theorem dL_law_243 : decode cL_law 243 = .ok (.ifCond .eq 119, 3) := by decide +kernel
theorem dL_law_246 : decode cL_law 246 = .ok (.aload_n 1, 1) := by decide +kernel
theorem dL_law_247 : decode cL_law 247 = .ok (.invokestatic 157, 3) := by decide +kernel
theorem dL_law_250 : decode cL_law 250 = .ok (.ifCond .eq 112, 3) := by decide +kernel
theorem dL_law_253 : decode cL_law 253 = .ok (.aload_n 1, 1) := by decide +kernel
theorem dL_law_254 : decode cL_law 254 = .ok (.iconst 1, 1) := by decide +kernel
theorem dL_law_255 : decode cL_law 255 = .ok (.iload 5, 2) := by decide +kernel
theorem dL_law_257 : decode cL_law 257 = .ok (.iconst 3, 1) := by decide +kernel
theorem dL_law_258 : decode cL_law 258 = .ok (.ishr, 1) := by decide +kernel
theorem dL_law_259 : decode cL_law 259 = .ok (.bipush 25, 2) := by decide +kernel
theorem dL_law_261 : decode cL_law 261 = .ok (.invokestatic 72, 3) := by decide +kernel
theorem dL_law_264 : decode cL_law 264 = .ok (.iadd, 1) := by decide +kernel
theorem dL_law_265 : decode cL_law 265 = .ok (.iconst 1, 1) := by decide +kernel
theorem dL_law_266 : decode cL_law 266 = .ok (.iload 4, 2) := by decide +kernel
theorem dL_law_268 : decode cL_law 268 = .ok (.bipush 6, 2) := by decide +kernel
theorem dL_law_270 : decode cL_law 270 = .ok (.ishr, 1) := by decide +kernel
theorem dL_law_271 : decode cL_law 271 = .ok (.bipush 25, 2) := by decide +kernel
theorem dL_law_273 : decode cL_law 273 = .ok (.invokestatic 72, 3) := by decide +kernel
theorem dL_law_276 : decode cL_law 276 = .ok (.iadd, 1) := by decide +kernel
theorem dL_law_277 : decode cL_law 277 = .ok (.iload 4, 2) := by decide +kernel
theorem dL_law_279 : decode cL_law 279 = .ok (.bipush 9, 2) := by decide +kernel
theorem dL_law_281 : decode cL_law 281 = .ok (.ishr, 1) := by decide +kernel
theorem dL_law_282 : decode cL_law 282 = .ok (.iconst 2, 1) := by decide +kernel
theorem dL_law_283 : decode cL_law 283 = .ok (.invokestatic 72, 3) := by decide +kernel
theorem dL_law_286 : decode cL_law 286 = .ok (.ifCond .ne 7, 3) := by decide +kernel
theorem dL_law_289 : decode cL_law 289 = .ok (.iconst 1, 1) := by decide +kernel
theorem dL_law_290 : decode cL_law 290 = .ok (.goto 4, 3) := by decide +kernel
theorem dL_law_293 : decode cL_law 293 = .ok (.iconst 0, 1) := by decide +kernel
theorem dL_law_294 : decode cL_law 294 = .ok (.invokestatic 166, 3) := by decide +kernel
theorem dL_law_297 : decode cL_law 297 = .ok (.ifCond .eq 65, 3) := by decide +kernel
theorem dL_law_300 : decode cL_law 300 = .ok (.iload_n 3, 1) := by decide +kernel
theorem dL_law_301 : decode cL_law 301 = .ok (.iconst 3, 1) := by decide +kernel
theorem dL_law_302 : decode cL_law 302 = .ok (.irem, 1) := by decide +kernel
theorem dL_law_303 : decode cL_law 303 = .ok (.ifCond .gt 19, 3) := by decide +kernel
theorem dL_law_306 : decode cL_law 306 = .ok (.aload_n 1, 1) := by decide +kernel
theorem dL_law_307 : decode cL_law 307 = .ok (.iload 4, 2) := by decide +kernel
theorem dL_law_309 : decode cL_law 309 = .ok (.iconst 4, 1) := by decide +kernel
theorem dL_law_310 : decode cL_law 310 = .ok (.ishr, 1) := by decide +kernel
theorem dL_law_311 : decode cL_law 311 = .ok (.bipush 24, 2) := by decide +kernel
theorem dL_law_313 : decode cL_law 313 = .ok (.invokestatic 72, 3) := by decide +kernel
theorem dL_law_316 : decode cL_law 316 = .ok (.invokestatic 180, 3) := by decide +kernel
theorem dL_law_319 : decode cL_law 319 = .ok (.ifCond .eq 43, 3) := by decide +kernel
theorem dL_law_322 : decode cL_law 322 = .ok (.iload_n 3, 1) := by decide +kernel
theorem dL_law_323 : decode cL_law 323 = .ok (.iconst 4, 1) := by decide +kernel
theorem dL_law_324 : decode cL_law 324 = .ok (.irem, 1) := by decide +kernel
theorem dL_law_325 : decode cL_law 325 = .ok (.ifCond .gt 33, 3) := by decide +kernel
theorem dL_law_328 : decode cL_law 328 = .ok (.aload_n 1, 1) := by decide +kernel
theorem dL_law_329 : decode cL_law 329 = .ok (.iload 5, 2) := by decide +kernel
theorem dL_law_331 : decode cL_law 331 = .ok (.iconst 2, 1) := by decide +kernel
theorem dL_law_332 : decode cL_law 332 = .ok (.ishr, 1) := by decide +kernel
theorem dL_law_333 : decode cL_law 333 = .ok (.sipush 10000, 3) := by decide +kernel
theorem dL_law_336 : decode cL_law 336 = .ok (.invokestatic 72, 3) := by decide +kernel
theorem dL_law_339 : decode cL_law 339 = .ok (.iconst 4, 1) := by decide +kernel
theorem dL_law_340 : decode cL_law 340 = .ok (.iconst 1, 1) := by decide +kernel
theorem dL_law_341 : decode cL_law 341 = .ok (.iload 4, 2) := by decide +kernel
theorem dL_law_343 : decode cL_law 343 = .ok (.bipush 7, 2) := by decide +kernel
theorem dL_law_345 : decode cL_law 345 = .ok (.ishr, 1) := by decide +kernel
theorem dL_law_346 : decode cL_law 346 = .ok (.bipush 50, 2) := by decide +kernel
theorem dL_law_348 : decode cL_law 348 = .ok (.invokestatic 72, 3) := by decide +kernel
theorem dL_law_351 : decode cL_law 351 = .ok (.iadd, 1) := by decide +kernel
theorem dL_law_352 : decode cL_law 352 = .ok (.invokestatic 184, 3) := by decide +kernel
theorem dL_law_355 : decode cL_law 355 = .ok (.ifCond .eq 7, 3) := by decide +kernel
theorem dL_law_358 : decode cL_law 358 = .ok (.iconst 1, 1) := by decide +kernel
theorem dL_law_359 : decode cL_law 359 = .ok (.goto 4, 3) := by decide +kernel
theorem dL_law_362 : decode cL_law 362 = .ok (.iconst 0, 1) := by decide +kernel
theorem dL_law_363 : decode cL_law 363 = .ok (.istore_n 2, 1) := by decide +kernel
theorem dL_law_364 : decode cL_law 364 = .ok (.iinc 3 1, 3) := by decide +kernel
theorem dL_law_367 : decode cL_law 367 = .ok (.goto (-334), 3) := by decide +kernel
theorem dL_law_370 : decode cL_law 370 = .ok (.iload_n 2, 1) := by decide +kernel
theorem dL_law_371 : decode cL_law 371 = .ok (.ifCond .eq 14, 3) := by decide +kernel
theorem dL_law_374 : decode cL_law 374 = .ok (.aload_n 1, 1) := by decide +kernel
theorem dL_law_375 : decode cL_law 375 = .ok (.invokestatic 157, 3) := by decide +kernel
theorem dL_law_378 : decode cL_law 378 = .ok (.ifCond .eq 7, 3) := by decide +kernel
theorem dL_law_381 : decode cL_law 381 = .ok (.iconst 1, 1) := by decide +kernel
theorem dL_law_382 : decode cL_law 382 = .ok (.goto 4, 3) := by decide +kernel
theorem dL_law_385 : decode cL_law 385 = .ok (.iconst 0, 1) := by decide +kernel
theorem dL_law_386 : decode cL_law 386 = .ok (.ireturn, 1) := by decide +kernel
set_option maxHeartbeats 8000000 in
set_option maxRecDepth 100000 in
theorem law_C {p : Program} {l : Launch} {e : Env} {s : State} {m : MethodId} {below : List Frame} {meth : Method} {c : Code} {b L : Nat} {xs : Nat → Int32} (hst : l.stackTraces = false) (D : va_G) (C0 : lw_At p s m meth c b L xs) (hG : k_G (fun q : Nat => s.heap.size ≤ q) s s.heap) {a : Nat → Nat} {K KS : ClassId} (hK : va_K D vwCl [(K, .int), (KS, .object "BarcodeWand$State")] s) {k : Nat} (hk40 : k < 40) {C9 S9 Cn Sn : Nat} (hC9 : C9 + 7 ≤ Cn) (hS9 : S9 + 42 ≤ Sn) (hCn : Cn ≤ 690337) (hSn : Sn ≤ 7030456) (next : ∀ (st : ST) (hs : HT) (sc : SCT) (H : Heap) (locs : List Loc) (ls : Array Slot), invS (k + 1) st → okH hs → va_P D vwCl (WW a K KS st hs sc) H → va_D (fun q : Nat => s.heap.size ≤ q) (WW a K KS st hs sc) → va_S (fun q : Nat => s.heap.size ≤ q) s.heap H locs → lv_has ls 10 [(3, .int (nI (k + 1))), (2, .int 1), (1, .ref (a 0)), (0, .ref b)] → W p l e room_1 s m #[Value.ref b] below meth c H locs Cn Sn (lw_Z below #[Value.ref b] s) (F0 m 33 ls [])) (xx yy : Int32) (st : ST) (hs : HT) (sc : SCT) {H : Heap} {locs : List Loc} {ls : Array Slot} (hii : invS (k + 1) st) (hh : okH hs) (hP : va_P D vwCl (WW a K KS st hs sc) H) (hD : va_D (fun q : Nat => s.heap.size ≤ q) (WW a K KS st hs sc)) (hS : va_S (fun q : Nat => s.heap.size ≤ q) s.heap H locs) (hl : lv_has ls 10 [(5, .int yy), (4, .int xx), (3, .int (nI k)), (2, .int 1), (1, .ref (a 0)), (0, .ref b)]) : W p l e room_1 s m #[Value.ref b] below meth c H locs C9 S9 (lw_Z below #[Value.ref b] s) (F0 m 242 ls []) := by
  have C1 := C0
  obtain ⟨hx, hb, hr, hml, hown, hts, hX, hbl, hlocks, hgv⟩ := C1
  have hown : s.vm.findClass RL = some m.cls := hown
  have ht : ∀ v9 ∈ wsA, v9.before #[Value.ref b] s = true := fun v9 h9 => hts v9 (wsA_tbl h9)
  have S0 : k_C p s m #[Value.ref b] c cL_law 10 RL := ⟨hx, hb, hml, hown, ht⟩
  have hbA : ¬ (fun q : Nat => s.heap.size ≤ q) b := Nat.not_le.mpr hbl
  have hA : ∀ q : Nat, s.heap.size ≤ q → (fun q : Nat => s.heap.size ≤ q) q := fun _ h9 => h9
  generalize hAe : (fun q : Nat => s.heap.size ≤ q) = A at hG hD hS hA hbA
  refine lv_iload_n hx hb dL_law_242 rfl (lv_at hl 3 rfl) ?_
  refine lv_if_eq (tgt := 362) hx hb dL_law_243 (by decide) (fun c9 => absurd c9 (by decide)) (fun _ => ?_)
  refine lv_aload_n hx hb dL_law_246 rfl (lv_at hl 4 rfl) ?_
  have ct := k_cut_TT (wp := []) (T := (WW a K KS st hs sc)) (wc := []) (wr := []) (tc := [(K, .int), (KS, .object "BarcodeWand$State")]) hG hS hA hK hP hD [] [] [0, 1] rfl rfl (by decide) (by decide) (by decide) rfl
  refine k_endi (As := [.ref (a 0)]) ct (k_runS (As := [.ref (a 0)]) (rest := []) S0 Ls_L_157 ct (c_L_hangs l hst D a K KS st hs sc (k + 1) hii (by omega) H.size) hl.1 rfl (Nat.le_of_ble_eq_true rfl) rfl dL_law_247 ⟨⟨Nat.le_of_ble_eq_true rfl, Nat.le_of_ble_eq_true rfl⟩, (show C9 + 2 ≤ 690337 by omega), (show S9 + 12 ≤ 7030456 by omega)⟩) rfl rfl (fun r_1 sc1v_2 H locs hw_3 hP hD hK hS => ?_)
  have hK : va_K D vwCl [(K, .int), (KS, .object "BarcodeWand$State")] s := hK
  have hP : va_P D vwCl ((WW a K KS st hs sc1v_2)) H := hP
  have hD : va_D A ((WW a K KS st hs sc1v_2)) := hD
  have hw_3 : r_1 = 1 := hw_3
  have hw_3 := hw_3.symm
  subst hw_3
  refine k_nrm (y := 1) rfl ?_
  refine lv_if_eq (tgt := 362) hx hb dL_law_250 (by decide) (fun c9 => absurd c9 (by decide)) (fun _ => ?_)
  refine lv_aload_n hx hb dL_law_253 rfl (lv_at hl 4 rfl) ?_
  refine lv_iconst (v := 1) hx hb dL_law_254 (by decide) ?_
  refine lv_iload hx hb dL_law_255 (lv_at hl 0 rfl) ?_
  refine lv_iconst (v := 3) hx hb dL_law_257 (by decide) ?_
  refine lv_ishr hx hb dL_law_258 ?_
  refine k_nrm (y := (shrF yy 3)) rfl ?_
  refine lv_bipush (v := 25) hx hb dL_law_259 (by decide) ?_
  have ct := k_cut_T (wp := []) (T := (WW a K KS st hs sc1v_2)) (wc := []) (wr := []) (tc := []) hG hS hA hK hP hD [] [] [] rfl rfl (by decide) (by decide) (by decide) rfl
  refine k_endi (As := [.int (shrF yy 3), .int 25]) ct (k_runS (As := [.int (shrF yy 3), .int 25]) (rest := [.int 1, .ref (a 0)]) S0 Ls_L_72 ct (c_low l D (shrF yy 3) 25 (by first | assumption | decide) H.size) hl.1 rfl (Nat.le_of_ble_eq_true rfl) rfl dL_law_261 ⟨⟨Nat.le_of_ble_eq_true rfl, Nat.le_of_ble_eq_true rfl⟩, (show C9 + 2 ≤ 690337 by omega), (show S9 + 12 ≤ 7030456 by omega)⟩) rfl rfl (fun r_4 _ H locs hw_5 hP hD hK hS => ?_)
  have hP : va_P D vwCl ((WW a K KS st hs sc1v_2)) H := k_swapP (a := []) (b := (WW a K KS st hs sc1v_2)) (c := []) hP
  have hD : va_D A ((WW a K KS st hs sc1v_2)) := va_D.swap (a := []) (b := (WW a K KS st hs sc1v_2)) (c := []) hD
  have hK : va_K D vwCl [(K, .int), (KS, .object "BarcodeWand$State")] s := hK
  have hP : va_P D vwCl ((WW a K KS st hs sc1v_2)) H := hP
  have hD : va_D A ((WW a K KS st hs sc1v_2)) := hD
  have hw_5 : r_4 = (lowF (shrF yy 3) 25) := hw_5
  have hw_5 := hw_5.symm
  subst hw_5
  refine k_nrm (y := (lowF (shrF yy 3) 25)) rfl ?_
  refine lv_iadd hx hb dL_law_264 ?_
  refine k_nrm (y := (1 + (lowF (shrF yy 3) 25))) (rfl) ?_
  refine lv_iconst (v := 1) hx hb dL_law_265 (by decide) ?_
  refine lv_iload hx hb dL_law_266 (lv_at hl 1 rfl) ?_
  refine lv_bipush (v := 6) hx hb dL_law_268 (by decide) ?_
  refine lv_ishr hx hb dL_law_270 ?_
  refine k_nrm (y := (shrF xx 6)) rfl ?_
  refine lv_bipush (v := 25) hx hb dL_law_271 (by decide) ?_
  have ct := k_cut_T (wp := []) (T := (WW a K KS st hs sc1v_2)) (wc := []) (wr := []) (tc := []) hG hS hA hK hP hD [] [] [] rfl rfl (by decide) (by decide) (by decide) rfl
  refine k_endi (As := [.int (shrF xx 6), .int 25]) ct (k_runS (As := [.int (shrF xx 6), .int 25]) (rest := [.int 1, .int (1 + (lowF (shrF yy 3) 25)), .ref (a 0)]) S0 Ls_L_72 ct (c_low l D (shrF xx 6) 25 (by first | assumption | decide) H.size) hl.1 rfl (Nat.le_of_ble_eq_true rfl) rfl dL_law_273 ⟨⟨Nat.le_of_ble_eq_true rfl, Nat.le_of_ble_eq_true rfl⟩, (show C9 + 2 ≤ 690337 by omega), (show S9 + 12 ≤ 7030456 by omega)⟩) rfl rfl (fun r_6 _ H locs hw_7 hP hD hK hS => ?_)
  have hP : va_P D vwCl ((WW a K KS st hs sc1v_2)) H := k_swapP (a := []) (b := (WW a K KS st hs sc1v_2)) (c := []) hP
  have hD : va_D A ((WW a K KS st hs sc1v_2)) := va_D.swap (a := []) (b := (WW a K KS st hs sc1v_2)) (c := []) hD
  have hK : va_K D vwCl [(K, .int), (KS, .object "BarcodeWand$State")] s := hK
  have hP : va_P D vwCl ((WW a K KS st hs sc1v_2)) H := hP
  have hD : va_D A ((WW a K KS st hs sc1v_2)) := hD
  have hw_7 : r_6 = (lowF (shrF xx 6) 25) := hw_7
  have hw_7 := hw_7.symm
  subst hw_7
  refine k_nrm (y := (lowF (shrF xx 6) 25)) rfl ?_
  refine lv_iadd hx hb dL_law_276 ?_
  refine k_nrm (y := (1 + (lowF (shrF xx 6) 25))) (rfl) ?_
  refine lv_iload hx hb dL_law_277 (lv_at hl 1 rfl) ?_
  refine lv_bipush (v := 9) hx hb dL_law_279 (by decide) ?_
  refine lv_ishr hx hb dL_law_281 ?_
  refine k_nrm (y := (shrF xx 9)) rfl ?_
  refine lv_iconst (v := 2) hx hb dL_law_282 (by decide) ?_
  have ct := k_cut_T (wp := []) (T := (WW a K KS st hs sc1v_2)) (wc := []) (wr := []) (tc := []) hG hS hA hK hP hD [] [] [] rfl rfl (by decide) (by decide) (by decide) rfl
  refine k_endi (As := [.int (shrF xx 9), .int 2]) ct (k_runS (As := [.int (shrF xx 9), .int 2]) (rest := [.int (1 + (lowF (shrF xx 6) 25)), .int (1 + (lowF (shrF yy 3) 25)), .ref (a 0)]) S0 Ls_L_72 ct (c_low l D (shrF xx 9) 2 (by first | assumption | decide) H.size) hl.1 rfl (Nat.le_of_ble_eq_true rfl) rfl dL_law_283 ⟨⟨Nat.le_of_ble_eq_true rfl, Nat.le_of_ble_eq_true rfl⟩, (show C9 + 2 ≤ 690337 by omega), (show S9 + 12 ≤ 7030456 by omega)⟩) rfl rfl (fun r_8 _ H locs hw_9 hP hD hK hS => ?_)
  have hP : va_P D vwCl ((WW a K KS st hs sc1v_2)) H := k_swapP (a := []) (b := (WW a K KS st hs sc1v_2)) (c := []) hP
  have hD : va_D A ((WW a K KS st hs sc1v_2)) := va_D.swap (a := []) (b := (WW a K KS st hs sc1v_2)) (c := []) hD
  have hK : va_K D vwCl [(K, .int), (KS, .object "BarcodeWand$State")] s := hK
  have hP : va_P D vwCl ((WW a K KS st hs sc1v_2)) H := hP
  have hD : va_D A ((WW a K KS st hs sc1v_2)) := hD
  have hw_9 : r_8 = (lowF (shrF xx 9) 2) := hw_9
  have hw_9 := hw_9.symm
  subst hw_9
  refine k_nrm (y := (lowF (shrF xx 9) 2)) rfl ?_
  refine lv_if_ne (tgt := 293) hx hb dL_law_286 (by decide) (fun c_10 => ?_) (fun c_10 => ?_)
  · have hc9 := c_10
    refine lv_iconst (v := 0) hx hb dL_law_293 (by decide) ?_
    have ct := k_cut_TT (wp := []) (T := (WW a K KS st hs sc1v_2)) (wc := []) (wr := []) (tc := [(K, .int), (KS, .object "BarcodeWand$State")]) hG hS hA hK hP hD [] [] [0, 1] rfl rfl (by decide) (by decide) (by decide) rfl
    refine k_endi (As := [.ref (a 0), .int (1 + (lowF (shrF yy 3) 25)), .int (1 + (lowF (shrF xx 6) 25)), .int 0]) ct (k_runS (As := [.ref (a 0), .int (1 + (lowF (shrF yy 3) 25)), .int (1 + (lowF (shrF xx 6) 25)), .int 0]) (rest := []) S0 Ls_L_166 ct (c_L_draws l hst D a K KS st hs sc1v_2 (k + 1) (1 + (lowF (shrF yy 3) 25)) (1 + (lowF (shrF xx 6) 25)) 0 hii (by omega) hh (per_low _ _ (n := 25) (by decide) (by decide)) (Or.inl rfl) H.size) hl.1 rfl (Nat.le_of_ble_eq_true rfl) rfl dL_law_294 ⟨⟨Nat.le_of_ble_eq_true rfl, Nat.le_of_ble_eq_true rfl⟩, (show C9 + 2 + 2 ≤ 690337 by omega), (show S9 + 12 + 12 ≤ 7030456 by omega)⟩) rfl rfl (fun r_11 u H locs hw_15 hP hD hK hS => ?_)
    obtain ⟨st1v_12, hs1v_13, sc1v_14⟩ := u
    have hK : va_K D vwCl [(K, .int), (KS, .object "BarcodeWand$State")] s := hK
    have hP : va_P D vwCl ((WW a K KS st1v_12 hs1v_13 sc1v_14)) H := hP
    have hD : va_D A ((WW a K KS st1v_12 hs1v_13 sc1v_14)) := hD
    have hw_15 : r_11 = 1 ∧ okH hs1v_13 ∧ nrm st1v_12 = nrm st := hw_15
    obtain ⟨v_16a, v_16b, v_16c⟩ := hw_15
    refine k_nrm (y := 1) (v_16a) ?_
    have v_16d := invS_view v_16c.symm hii
    refine lv_if_eq (tgt := 362) hx hb dL_law_297 (by decide) (fun c9 => absurd c9 (by decide)) (fun _ => ?_)
    refine lv_iload_n hx hb dL_law_300 rfl (lv_at hl 2 rfl) ?_
    refine lv_iconst (v := 3) hx hb dL_law_301 (by decide) ?_
    refine lv_irem hx hb dL_law_302 (by decide) ?_
    refine k_nrm (y := (nI (k % 3))) (pk_rem (d := 3) (by omega) (by decide) (by decide)) ?_
    refine lv_if_gt (tgt := 322) hx hb dL_law_303 (by decide) (fun c_17 => ?_) (fun c_17 => ?_)
    · have hc9 := c_17
      refine lv_iload_n hx hb dL_law_322 rfl (lv_at hl 2 rfl) ?_
      refine lv_iconst (v := 4) hx hb dL_law_323 (by decide) ?_
      refine lv_irem hx hb dL_law_324 (by decide) ?_
      refine k_nrm (y := (nI (k % 4))) (pk_rem (d := 4) (by omega) (by decide) (by decide)) ?_
      refine lv_if_gt (tgt := 358) hx hb dL_law_325 (by decide) (fun c_18 => ?_) (fun c_18 => ?_)
      · have hc9 := c_18
        refine lv_iconst (v := 1) hx hb dL_law_358 (by decide) ?_
        refine lv_goto (tgt := 363) hx hb dL_law_359 (by decide) ?_
        refine lv_istore_n (lv' := [(2, .int 1), (5, .int yy), (4, .int xx), (3, .int (nI k)), (1, .ref (a 0)), (0, .ref b)]) hx hb dL_law_363 rfl hl (by decide) rfl (fun ls hl => ?_)
        obtain ⟨x_19, ex_19⟩ : ∃ z : Int32, z = (nI k) + 1 := ⟨_, rfl⟩
        refine lv_iinc (v := x_19) (lv' := [(3, .int x_19), (2, .int 1), (5, .int yy), (4, .int xx), (1, .ref (a 0)), (0, .ref b)]) hx hb dL_law_364 hl (k := 3) rfl (by rw [ex_19]; rfl) (by decide) rfl (fun ls hl => ?_)
        refine lv_goto (tgt := 33) hx hb dL_law_367 (by decide) ?_
        have he9 : x_19 = (nI (k + 1)) := by rw [ex_19]; exact nI_1 k
        rw [he9] at hl
        have hl : lv_has ls 10 [(3, .int (nI (k + 1))), (2, .int 1), (5, .int yy), (4, .int xx), (1, .ref (a 0)), (0, .ref b)] := hl
        subst hAe
        refine W.widen (k := Cn) (n := Sn) (by omega) (by omega) ?_
        exact next st1v_12 hs1v_13 sc1v_14 H locs ls v_16d v_16b hP hD hS (lv_sub hl [0, 1, 4, 5] rfl)
      · have hc9 := c_18
        refine lv_aload_n hx hb dL_law_328 rfl (lv_at hl 4 rfl) ?_
        refine lv_iload hx hb dL_law_329 (lv_at hl 0 rfl) ?_
        refine lv_iconst (v := 2) hx hb dL_law_331 (by decide) ?_
        refine lv_ishr hx hb dL_law_332 ?_
        refine k_nrm (y := (shrF yy 2)) rfl ?_
        refine lv_sipush (v := 10000) hx hb dL_law_333 (by decide) ?_
        have ct := k_cut_T (wp := []) (T := (WW a K KS st1v_12 hs1v_13 sc1v_14)) (wc := []) (wr := []) (tc := []) hG hS hA hK hP hD [] [] [] rfl rfl (by decide) (by decide) (by decide) rfl
        refine k_endi (As := [.int (shrF yy 2), .int 10000]) ct (k_runS (As := [.int (shrF yy 2), .int 10000]) (rest := [.ref (a 0)]) S0 Ls_L_72 ct (c_low l D (shrF yy 2) 10000 (by first | assumption | decide) H.size) hl.1 rfl (Nat.le_of_ble_eq_true rfl) rfl dL_law_336 ⟨⟨Nat.le_of_ble_eq_true rfl, Nat.le_of_ble_eq_true rfl⟩, (show C9 + 2 + 2 ≤ 690337 by omega), (show S9 + 12 + 12 ≤ 7030456 by omega)⟩) rfl rfl (fun r_20 _ H locs hw_21 hP hD hK hS => ?_)
        have hP : va_P D vwCl ((WW a K KS st1v_12 hs1v_13 sc1v_14)) H := k_swapP (a := []) (b := (WW a K KS st1v_12 hs1v_13 sc1v_14)) (c := []) hP
        have hD : va_D A ((WW a K KS st1v_12 hs1v_13 sc1v_14)) := va_D.swap (a := []) (b := (WW a K KS st1v_12 hs1v_13 sc1v_14)) (c := []) hD
        have hK : va_K D vwCl [(K, .int), (KS, .object "BarcodeWand$State")] s := hK
        have hP : va_P D vwCl ((WW a K KS st1v_12 hs1v_13 sc1v_14)) H := hP
        have hD : va_D A ((WW a K KS st1v_12 hs1v_13 sc1v_14)) := hD
        have hw_21 : r_20 = (lowF (shrF yy 2) 10000) := hw_21
        have hw_21 := hw_21.symm
        subst hw_21
        refine k_nrm (y := (lowF (shrF yy 2) 10000)) rfl ?_
        obtain ⟨dn, hdnl, hdne⟩ := low_nI (shrF yy 2) (n := 10000) (by decide) (by decide)
        refine k_nrm (y := (nI dn)) (hdne) ?_
        refine lv_iconst (v := 4) hx hb dL_law_339 (by decide) ?_
        refine lv_iconst (v := 1) hx hb dL_law_340 (by decide) ?_
        refine lv_iload hx hb dL_law_341 (lv_at hl 1 rfl) ?_
        refine lv_bipush (v := 7) hx hb dL_law_343 (by decide) ?_
        refine lv_ishr hx hb dL_law_345 ?_
        refine k_nrm (y := (shrF xx 7)) rfl ?_
        refine lv_bipush (v := 50) hx hb dL_law_346 (by decide) ?_
        have ct := k_cut_T (wp := []) (T := (WW a K KS st1v_12 hs1v_13 sc1v_14)) (wc := []) (wr := []) (tc := []) hG hS hA hK hP hD [] [] [] rfl rfl (by decide) (by decide) (by decide) rfl
        refine k_endi (As := [.int (shrF xx 7), .int 50]) ct (k_runS (As := [.int (shrF xx 7), .int 50]) (rest := [.int 1, .int 4, .int (nI dn), .ref (a 0)]) S0 Ls_L_72 ct (c_low l D (shrF xx 7) 50 (by first | assumption | decide) H.size) hl.1 rfl (Nat.le_of_ble_eq_true rfl) rfl dL_law_348 ⟨⟨Nat.le_of_ble_eq_true rfl, Nat.le_of_ble_eq_true rfl⟩, (show C9 + 2 + 2 ≤ 690337 by omega), (show S9 + 12 + 12 ≤ 7030456 by omega)⟩) rfl rfl (fun r_22 _ H locs hw_23 hP hD hK hS => ?_)
        have hP : va_P D vwCl ((WW a K KS st1v_12 hs1v_13 sc1v_14)) H := k_swapP (a := []) (b := (WW a K KS st1v_12 hs1v_13 sc1v_14)) (c := []) hP
        have hD : va_D A ((WW a K KS st1v_12 hs1v_13 sc1v_14)) := va_D.swap (a := []) (b := (WW a K KS st1v_12 hs1v_13 sc1v_14)) (c := []) hD
        have hK : va_K D vwCl [(K, .int), (KS, .object "BarcodeWand$State")] s := hK
        have hP : va_P D vwCl ((WW a K KS st1v_12 hs1v_13 sc1v_14)) H := hP
        have hD : va_D A ((WW a K KS st1v_12 hs1v_13 sc1v_14)) := hD
        have hw_23 : r_22 = (lowF (shrF xx 7) 50) := hw_23
        have hw_23 := hw_23.symm
        subst hw_23
        refine k_nrm (y := (lowF (shrF xx 7) 50)) rfl ?_
        obtain ⟨qn, hqnl, hqne⟩ := low_nI (shrF xx 7) (n := 50) (by decide) (by decide)
        refine k_nrm (y := (nI qn)) (hqne) ?_
        refine lv_iadd hx hb dL_law_351 ?_
        refine k_nrm (y := (nI (1 + qn))) (nI_add 1 qn) ?_
        have ct := k_cut_TT (wp := []) (T := (WW a K KS st1v_12 hs1v_13 sc1v_14)) (wc := []) (wr := []) (tc := [(K, .int), (KS, .object "BarcodeWand$State")]) hG hS hA hK hP hD [] [] [0, 1] rfl rfl (by decide) (by decide) (by decide) rfl
        refine k_endi (As := [.ref (a 0), .int (nI dn), .int 4, .int (nI (1 + qn))]) ct (k_runS (As := [.ref (a 0), .int (nI dn), .int 4, .int (nI (1 + qn))]) (rest := []) S0 Ls_L_184 ct (c_L_clean l hst D a K KS st1v_12 hs1v_13 sc1v_14 (k + 1) dn (1 + qn) v_16d (by omega) v_16b (by omega) (by omega) (by omega) H.size) hl.1 rfl (Nat.le_of_ble_eq_true rfl) rfl dL_law_352 ⟨⟨Nat.le_of_ble_eq_true rfl, Nat.le_of_ble_eq_true rfl⟩, (show C9 + 2 + 2 + 2 ≤ 690337 by omega), (show S9 + 12 + 12 + 12 ≤ 7030456 by omega)⟩) rfl rfl (fun r_24 u H locs hw_28 hP hD hK hS => ?_)
        obtain ⟨st1v_25, hs1v_26, sc1v_27⟩ := u
        have hK : va_K D vwCl [(K, .int), (KS, .object "BarcodeWand$State")] s := hK
        have hP : va_P D vwCl ((WW a K KS st1v_25 hs1v_26 sc1v_27)) H := hP
        have hD : va_D A ((WW a K KS st1v_25 hs1v_26 sc1v_27)) := hD
        have hw_28 : r_24 = 1 ∧ okH hs1v_26 ∧ nrm st1v_25 = nrm st1v_12 := hw_28
        obtain ⟨v_29a, v_29b, v_29c⟩ := hw_28
        refine k_nrm (y := 1) (v_29a) ?_
        have v_29d := invS_view v_29c.symm v_16d
        refine lv_if_eq (tgt := 362) hx hb dL_law_355 (by decide) (fun c9 => absurd c9 (by decide)) (fun _ => ?_)
        refine lv_iconst (v := 1) hx hb dL_law_358 (by decide) ?_
        refine lv_goto (tgt := 363) hx hb dL_law_359 (by decide) ?_
        refine lv_istore_n (lv' := [(2, .int 1), (5, .int yy), (4, .int xx), (3, .int (nI k)), (1, .ref (a 0)), (0, .ref b)]) hx hb dL_law_363 rfl hl (by decide) rfl (fun ls hl => ?_)
        obtain ⟨x_30, ex_30⟩ : ∃ z : Int32, z = (nI k) + 1 := ⟨_, rfl⟩
        refine lv_iinc (v := x_30) (lv' := [(3, .int x_30), (2, .int 1), (5, .int yy), (4, .int xx), (1, .ref (a 0)), (0, .ref b)]) hx hb dL_law_364 hl (k := 3) rfl (by rw [ex_30]; rfl) (by decide) rfl (fun ls hl => ?_)
        refine lv_goto (tgt := 33) hx hb dL_law_367 (by decide) ?_
        have he9 : x_30 = (nI (k + 1)) := by rw [ex_30]; exact nI_1 k
        rw [he9] at hl
        have hl : lv_has ls 10 [(3, .int (nI (k + 1))), (2, .int 1), (5, .int yy), (4, .int xx), (1, .ref (a 0)), (0, .ref b)] := hl
        subst hAe
        refine W.widen (k := Cn) (n := Sn) (by omega) (by omega) ?_
        exact next st1v_25 hs1v_26 sc1v_27 H locs ls v_29d v_29b hP hD hS (lv_sub hl [0, 1, 4, 5] rfl)
    · have hc9 := c_17
      refine lv_aload_n hx hb dL_law_306 rfl (lv_at hl 4 rfl) ?_
      refine lv_iload hx hb dL_law_307 (lv_at hl 1 rfl) ?_
      refine lv_iconst (v := 4) hx hb dL_law_309 (by decide) ?_
      refine lv_ishr hx hb dL_law_310 ?_
      refine k_nrm (y := (shrF xx 4)) rfl ?_
      refine lv_bipush (v := 24) hx hb dL_law_311 (by decide) ?_
      have ct := k_cut_T (wp := []) (T := (WW a K KS st1v_12 hs1v_13 sc1v_14)) (wc := []) (wr := []) (tc := []) hG hS hA hK hP hD [] [] [] rfl rfl (by decide) (by decide) (by decide) rfl
      refine k_endi (As := [.int (shrF xx 4), .int 24]) ct (k_runS (As := [.int (shrF xx 4), .int 24]) (rest := [.ref (a 0)]) S0 Ls_L_72 ct (c_low l D (shrF xx 4) 24 (by first | assumption | decide) H.size) hl.1 rfl (Nat.le_of_ble_eq_true rfl) rfl dL_law_313 ⟨⟨Nat.le_of_ble_eq_true rfl, Nat.le_of_ble_eq_true rfl⟩, (show C9 + 2 + 2 ≤ 690337 by omega), (show S9 + 12 + 12 ≤ 7030456 by omega)⟩) rfl rfl (fun r_31 _ H locs hw_32 hP hD hK hS => ?_)
      have hP : va_P D vwCl ((WW a K KS st1v_12 hs1v_13 sc1v_14)) H := k_swapP (a := []) (b := (WW a K KS st1v_12 hs1v_13 sc1v_14)) (c := []) hP
      have hD : va_D A ((WW a K KS st1v_12 hs1v_13 sc1v_14)) := va_D.swap (a := []) (b := (WW a K KS st1v_12 hs1v_13 sc1v_14)) (c := []) hD
      have hK : va_K D vwCl [(K, .int), (KS, .object "BarcodeWand$State")] s := hK
      have hP : va_P D vwCl ((WW a K KS st1v_12 hs1v_13 sc1v_14)) H := hP
      have hD : va_D A ((WW a K KS st1v_12 hs1v_13 sc1v_14)) := hD
      have hw_32 : r_31 = (lowF (shrF xx 4) 24) := hw_32
      have hw_32 := hw_32.symm
      subst hw_32
      refine k_nrm (y := (lowF (shrF xx 4) 24)) rfl ?_
      obtain ⟨en, henl, hene⟩ := low_nI (shrF xx 4) (n := 24) (by decide) (by decide)
      refine k_nrm (y := (nI en)) (hene) ?_
      have ct := k_cut_TT (wp := []) (T := (WW a K KS st1v_12 hs1v_13 sc1v_14)) (wc := []) (wr := []) (tc := [(K, .int), (KS, .object "BarcodeWand$State")]) hG hS hA hK hP hD [] [] [0, 1] rfl rfl (by decide) (by decide) (by decide) rfl
      refine k_endi (As := [.ref (a 0), .int (nI en)]) ct (k_runS (As := [.ref (a 0), .int (nI en)]) (rest := []) S0 Ls_L_180 ct (c_L_smudges l hst D a K KS st1v_12 hs1v_13 sc1v_14 (k + 1) en v_16d (by omega) v_16b (by omega) H.size) hl.1 rfl (Nat.le_of_ble_eq_true rfl) rfl dL_law_316 ⟨⟨Nat.le_of_ble_eq_true rfl, Nat.le_of_ble_eq_true rfl⟩, (show C9 + 2 + 2 + 1 ≤ 690337 by omega), (show S9 + 12 + 12 + 6 ≤ 7030456 by omega)⟩) rfl rfl (fun r_33 u H locs hw_37 hP hD hK hS => ?_)
      obtain ⟨st1v_34, hs1v_35, sc1v_36⟩ := u
      have hK : va_K D vwCl [(K, .int), (KS, .object "BarcodeWand$State")] s := hK
      have hP : va_P D vwCl ((WW a K KS st1v_34 hs1v_35 sc1v_36)) H := hP
      have hD : va_D A ((WW a K KS st1v_34 hs1v_35 sc1v_36)) := hD
      have hw_37 : r_33 = 1 ∧ okH hs1v_35 ∧ nrm st1v_34 = nrm st1v_12 := hw_37
      obtain ⟨v_38a, v_38b, v_38c⟩ := hw_37
      refine k_nrm (y := 1) (v_38a) ?_
      have v_38d := invS_view v_38c.symm v_16d
      refine lv_if_eq (tgt := 362) hx hb dL_law_319 (by decide) (fun c9 => absurd c9 (by decide)) (fun _ => ?_)
      refine lv_iload_n hx hb dL_law_322 rfl (lv_at hl 2 rfl) ?_
      refine lv_iconst (v := 4) hx hb dL_law_323 (by decide) ?_
      refine lv_irem hx hb dL_law_324 (by decide) ?_
      refine k_nrm (y := (nI (k % 4))) (pk_rem (d := 4) (by omega) (by decide) (by decide)) ?_
      refine lv_if_gt (tgt := 358) hx hb dL_law_325 (by decide) (fun c_39 => ?_) (fun c_39 => ?_)
      · have hc9 := c_39
        refine lv_iconst (v := 1) hx hb dL_law_358 (by decide) ?_
        refine lv_goto (tgt := 363) hx hb dL_law_359 (by decide) ?_
        refine lv_istore_n (lv' := [(2, .int 1), (5, .int yy), (4, .int xx), (3, .int (nI k)), (1, .ref (a 0)), (0, .ref b)]) hx hb dL_law_363 rfl hl (by decide) rfl (fun ls hl => ?_)
        obtain ⟨x_40, ex_40⟩ : ∃ z : Int32, z = (nI k) + 1 := ⟨_, rfl⟩
        refine lv_iinc (v := x_40) (lv' := [(3, .int x_40), (2, .int 1), (5, .int yy), (4, .int xx), (1, .ref (a 0)), (0, .ref b)]) hx hb dL_law_364 hl (k := 3) rfl (by rw [ex_40]; rfl) (by decide) rfl (fun ls hl => ?_)
        refine lv_goto (tgt := 33) hx hb dL_law_367 (by decide) ?_
        have he9 : x_40 = (nI (k + 1)) := by rw [ex_40]; exact nI_1 k
        rw [he9] at hl
        have hl : lv_has ls 10 [(3, .int (nI (k + 1))), (2, .int 1), (5, .int yy), (4, .int xx), (1, .ref (a 0)), (0, .ref b)] := hl
        subst hAe
        refine W.widen (k := Cn) (n := Sn) (by omega) (by omega) ?_
        exact next st1v_34 hs1v_35 sc1v_36 H locs ls v_38d v_38b hP hD hS (lv_sub hl [0, 1, 4, 5] rfl)
      · have hc9 := c_39
        refine lv_aload_n hx hb dL_law_328 rfl (lv_at hl 4 rfl) ?_
        refine lv_iload hx hb dL_law_329 (lv_at hl 0 rfl) ?_
        refine lv_iconst (v := 2) hx hb dL_law_331 (by decide) ?_
        refine lv_ishr hx hb dL_law_332 ?_
        refine k_nrm (y := (shrF yy 2)) rfl ?_
        refine lv_sipush (v := 10000) hx hb dL_law_333 (by decide) ?_
        have ct := k_cut_T (wp := []) (T := (WW a K KS st1v_34 hs1v_35 sc1v_36)) (wc := []) (wr := []) (tc := []) hG hS hA hK hP hD [] [] [] rfl rfl (by decide) (by decide) (by decide) rfl
        refine k_endi (As := [.int (shrF yy 2), .int 10000]) ct (k_runS (As := [.int (shrF yy 2), .int 10000]) (rest := [.ref (a 0)]) S0 Ls_L_72 ct (c_low l D (shrF yy 2) 10000 (by first | assumption | decide) H.size) hl.1 rfl (Nat.le_of_ble_eq_true rfl) rfl dL_law_336 ⟨⟨Nat.le_of_ble_eq_true rfl, Nat.le_of_ble_eq_true rfl⟩, (show C9 + 2 + 2 + 1 ≤ 690337 by omega), (show S9 + 12 + 12 + 6 ≤ 7030456 by omega)⟩) rfl rfl (fun r_41 _ H locs hw_42 hP hD hK hS => ?_)
        have hP : va_P D vwCl ((WW a K KS st1v_34 hs1v_35 sc1v_36)) H := k_swapP (a := []) (b := (WW a K KS st1v_34 hs1v_35 sc1v_36)) (c := []) hP
        have hD : va_D A ((WW a K KS st1v_34 hs1v_35 sc1v_36)) := va_D.swap (a := []) (b := (WW a K KS st1v_34 hs1v_35 sc1v_36)) (c := []) hD
        have hK : va_K D vwCl [(K, .int), (KS, .object "BarcodeWand$State")] s := hK
        have hP : va_P D vwCl ((WW a K KS st1v_34 hs1v_35 sc1v_36)) H := hP
        have hD : va_D A ((WW a K KS st1v_34 hs1v_35 sc1v_36)) := hD
        have hw_42 : r_41 = (lowF (shrF yy 2) 10000) := hw_42
        have hw_42 := hw_42.symm
        subst hw_42
        refine k_nrm (y := (lowF (shrF yy 2) 10000)) rfl ?_
        obtain ⟨dn, hdnl, hdne⟩ := low_nI (shrF yy 2) (n := 10000) (by decide) (by decide)
        refine k_nrm (y := (nI dn)) (hdne) ?_
        refine lv_iconst (v := 4) hx hb dL_law_339 (by decide) ?_
        refine lv_iconst (v := 1) hx hb dL_law_340 (by decide) ?_
        refine lv_iload hx hb dL_law_341 (lv_at hl 1 rfl) ?_
        refine lv_bipush (v := 7) hx hb dL_law_343 (by decide) ?_
        refine lv_ishr hx hb dL_law_345 ?_
        refine k_nrm (y := (shrF xx 7)) rfl ?_
        refine lv_bipush (v := 50) hx hb dL_law_346 (by decide) ?_
        have ct := k_cut_T (wp := []) (T := (WW a K KS st1v_34 hs1v_35 sc1v_36)) (wc := []) (wr := []) (tc := []) hG hS hA hK hP hD [] [] [] rfl rfl (by decide) (by decide) (by decide) rfl
        refine k_endi (As := [.int (shrF xx 7), .int 50]) ct (k_runS (As := [.int (shrF xx 7), .int 50]) (rest := [.int 1, .int 4, .int (nI dn), .ref (a 0)]) S0 Ls_L_72 ct (c_low l D (shrF xx 7) 50 (by first | assumption | decide) H.size) hl.1 rfl (Nat.le_of_ble_eq_true rfl) rfl dL_law_348 ⟨⟨Nat.le_of_ble_eq_true rfl, Nat.le_of_ble_eq_true rfl⟩, (show C9 + 2 + 2 + 1 ≤ 690337 by omega), (show S9 + 12 + 12 + 6 ≤ 7030456 by omega)⟩) rfl rfl (fun r_43 _ H locs hw_44 hP hD hK hS => ?_)
        have hP : va_P D vwCl ((WW a K KS st1v_34 hs1v_35 sc1v_36)) H := k_swapP (a := []) (b := (WW a K KS st1v_34 hs1v_35 sc1v_36)) (c := []) hP
        have hD : va_D A ((WW a K KS st1v_34 hs1v_35 sc1v_36)) := va_D.swap (a := []) (b := (WW a K KS st1v_34 hs1v_35 sc1v_36)) (c := []) hD
        have hK : va_K D vwCl [(K, .int), (KS, .object "BarcodeWand$State")] s := hK
        have hP : va_P D vwCl ((WW a K KS st1v_34 hs1v_35 sc1v_36)) H := hP
        have hD : va_D A ((WW a K KS st1v_34 hs1v_35 sc1v_36)) := hD
        have hw_44 : r_43 = (lowF (shrF xx 7) 50) := hw_44
        have hw_44 := hw_44.symm
        subst hw_44
        refine k_nrm (y := (lowF (shrF xx 7) 50)) rfl ?_
        obtain ⟨qn, hqnl, hqne⟩ := low_nI (shrF xx 7) (n := 50) (by decide) (by decide)
        refine k_nrm (y := (nI qn)) (hqne) ?_
        refine lv_iadd hx hb dL_law_351 ?_
        refine k_nrm (y := (nI (1 + qn))) (nI_add 1 qn) ?_
        have ct := k_cut_TT (wp := []) (T := (WW a K KS st1v_34 hs1v_35 sc1v_36)) (wc := []) (wr := []) (tc := [(K, .int), (KS, .object "BarcodeWand$State")]) hG hS hA hK hP hD [] [] [0, 1] rfl rfl (by decide) (by decide) (by decide) rfl
        refine k_endi (As := [.ref (a 0), .int (nI dn), .int 4, .int (nI (1 + qn))]) ct (k_runS (As := [.ref (a 0), .int (nI dn), .int 4, .int (nI (1 + qn))]) (rest := []) S0 Ls_L_184 ct (c_L_clean l hst D a K KS st1v_34 hs1v_35 sc1v_36 (k + 1) dn (1 + qn) v_38d (by omega) v_38b (by omega) (by omega) (by omega) H.size) hl.1 rfl (Nat.le_of_ble_eq_true rfl) rfl dL_law_352 ⟨⟨Nat.le_of_ble_eq_true rfl, Nat.le_of_ble_eq_true rfl⟩, (show C9 + 2 + 2 + 1 + 2 ≤ 690337 by omega), (show S9 + 12 + 12 + 6 + 12 ≤ 7030456 by omega)⟩) rfl rfl (fun r_45 u H locs hw_49 hP hD hK hS => ?_)
        obtain ⟨st1v_46, hs1v_47, sc1v_48⟩ := u
        have hK : va_K D vwCl [(K, .int), (KS, .object "BarcodeWand$State")] s := hK
        have hP : va_P D vwCl ((WW a K KS st1v_46 hs1v_47 sc1v_48)) H := hP
        have hD : va_D A ((WW a K KS st1v_46 hs1v_47 sc1v_48)) := hD
        have hw_49 : r_45 = 1 ∧ okH hs1v_47 ∧ nrm st1v_46 = nrm st1v_34 := hw_49
        obtain ⟨v_50a, v_50b, v_50c⟩ := hw_49
        refine k_nrm (y := 1) (v_50a) ?_
        have v_50d := invS_view v_50c.symm v_38d
        refine lv_if_eq (tgt := 362) hx hb dL_law_355 (by decide) (fun c9 => absurd c9 (by decide)) (fun _ => ?_)
        refine lv_iconst (v := 1) hx hb dL_law_358 (by decide) ?_
        refine lv_goto (tgt := 363) hx hb dL_law_359 (by decide) ?_
        refine lv_istore_n (lv' := [(2, .int 1), (5, .int yy), (4, .int xx), (3, .int (nI k)), (1, .ref (a 0)), (0, .ref b)]) hx hb dL_law_363 rfl hl (by decide) rfl (fun ls hl => ?_)
        obtain ⟨x_51, ex_51⟩ : ∃ z : Int32, z = (nI k) + 1 := ⟨_, rfl⟩
        refine lv_iinc (v := x_51) (lv' := [(3, .int x_51), (2, .int 1), (5, .int yy), (4, .int xx), (1, .ref (a 0)), (0, .ref b)]) hx hb dL_law_364 hl (k := 3) rfl (by rw [ex_51]; rfl) (by decide) rfl (fun ls hl => ?_)
        refine lv_goto (tgt := 33) hx hb dL_law_367 (by decide) ?_
        have he9 : x_51 = (nI (k + 1)) := by rw [ex_51]; exact nI_1 k
        rw [he9] at hl
        have hl : lv_has ls 10 [(3, .int (nI (k + 1))), (2, .int 1), (5, .int yy), (4, .int xx), (1, .ref (a 0)), (0, .ref b)] := hl
        subst hAe
        refine W.widen (k := Cn) (n := Sn) (by omega) (by omega) ?_
        exact next st1v_46 hs1v_47 sc1v_48 H locs ls v_50d v_50b hP hD hS (lv_sub hl [0, 1, 4, 5] rfl)
  · have hc9 := c_10
    refine lv_iconst (v := 1) hx hb dL_law_289 (by decide) ?_
    refine lv_goto (tgt := 294) hx hb dL_law_290 (by decide) ?_
    have ct := k_cut_TT (wp := []) (T := (WW a K KS st hs sc1v_2)) (wc := []) (wr := []) (tc := [(K, .int), (KS, .object "BarcodeWand$State")]) hG hS hA hK hP hD [] [] [0, 1] rfl rfl (by decide) (by decide) (by decide) rfl
    refine k_endi (As := [.ref (a 0), .int (1 + (lowF (shrF yy 3) 25)), .int (1 + (lowF (shrF xx 6) 25)), .int 1]) ct (k_runS (As := [.ref (a 0), .int (1 + (lowF (shrF yy 3) 25)), .int (1 + (lowF (shrF xx 6) 25)), .int 1]) (rest := []) S0 Ls_L_166 ct (c_L_draws l hst D a K KS st hs sc1v_2 (k + 1) (1 + (lowF (shrF yy 3) 25)) (1 + (lowF (shrF xx 6) 25)) 1 hii (by omega) hh (per_low _ _ (n := 25) (by decide) (by decide)) (Or.inr rfl) H.size) hl.1 rfl (Nat.le_of_ble_eq_true rfl) rfl dL_law_294 ⟨⟨Nat.le_of_ble_eq_true rfl, Nat.le_of_ble_eq_true rfl⟩, (show C9 + 2 + 2 ≤ 690337 by omega), (show S9 + 12 + 12 ≤ 7030456 by omega)⟩) rfl rfl (fun r_52 u H locs hw_56 hP hD hK hS => ?_)
    obtain ⟨st1v_53, hs1v_54, sc1v_55⟩ := u
    have hK : va_K D vwCl [(K, .int), (KS, .object "BarcodeWand$State")] s := hK
    have hP : va_P D vwCl ((WW a K KS st1v_53 hs1v_54 sc1v_55)) H := hP
    have hD : va_D A ((WW a K KS st1v_53 hs1v_54 sc1v_55)) := hD
    have hw_56 : r_52 = 1 ∧ okH hs1v_54 ∧ nrm st1v_53 = nrm st := hw_56
    obtain ⟨v_57a, v_57b, v_57c⟩ := hw_56
    refine k_nrm (y := 1) (v_57a) ?_
    have v_57d := invS_view v_57c.symm hii
    refine lv_if_eq (tgt := 362) hx hb dL_law_297 (by decide) (fun c9 => absurd c9 (by decide)) (fun _ => ?_)
    refine lv_iload_n hx hb dL_law_300 rfl (lv_at hl 2 rfl) ?_
    refine lv_iconst (v := 3) hx hb dL_law_301 (by decide) ?_
    refine lv_irem hx hb dL_law_302 (by decide) ?_
    refine k_nrm (y := (nI (k % 3))) (pk_rem (d := 3) (by omega) (by decide) (by decide)) ?_
    refine lv_if_gt (tgt := 322) hx hb dL_law_303 (by decide) (fun c_58 => ?_) (fun c_58 => ?_)
    · have hc9 := c_58
      refine lv_iload_n hx hb dL_law_322 rfl (lv_at hl 2 rfl) ?_
      refine lv_iconst (v := 4) hx hb dL_law_323 (by decide) ?_
      refine lv_irem hx hb dL_law_324 (by decide) ?_
      refine k_nrm (y := (nI (k % 4))) (pk_rem (d := 4) (by omega) (by decide) (by decide)) ?_
      refine lv_if_gt (tgt := 358) hx hb dL_law_325 (by decide) (fun c_59 => ?_) (fun c_59 => ?_)
      · have hc9 := c_59
        refine lv_iconst (v := 1) hx hb dL_law_358 (by decide) ?_
        refine lv_goto (tgt := 363) hx hb dL_law_359 (by decide) ?_
        refine lv_istore_n (lv' := [(2, .int 1), (5, .int yy), (4, .int xx), (3, .int (nI k)), (1, .ref (a 0)), (0, .ref b)]) hx hb dL_law_363 rfl hl (by decide) rfl (fun ls hl => ?_)
        obtain ⟨x_60, ex_60⟩ : ∃ z : Int32, z = (nI k) + 1 := ⟨_, rfl⟩
        refine lv_iinc (v := x_60) (lv' := [(3, .int x_60), (2, .int 1), (5, .int yy), (4, .int xx), (1, .ref (a 0)), (0, .ref b)]) hx hb dL_law_364 hl (k := 3) rfl (by rw [ex_60]; rfl) (by decide) rfl (fun ls hl => ?_)
        refine lv_goto (tgt := 33) hx hb dL_law_367 (by decide) ?_
        have he9 : x_60 = (nI (k + 1)) := by rw [ex_60]; exact nI_1 k
        rw [he9] at hl
        have hl : lv_has ls 10 [(3, .int (nI (k + 1))), (2, .int 1), (5, .int yy), (4, .int xx), (1, .ref (a 0)), (0, .ref b)] := hl
        subst hAe
        refine W.widen (k := Cn) (n := Sn) (by omega) (by omega) ?_
        exact next st1v_53 hs1v_54 sc1v_55 H locs ls v_57d v_57b hP hD hS (lv_sub hl [0, 1, 4, 5] rfl)
      · have hc9 := c_59
        refine lv_aload_n hx hb dL_law_328 rfl (lv_at hl 4 rfl) ?_
        refine lv_iload hx hb dL_law_329 (lv_at hl 0 rfl) ?_
        refine lv_iconst (v := 2) hx hb dL_law_331 (by decide) ?_
        refine lv_ishr hx hb dL_law_332 ?_
        refine k_nrm (y := (shrF yy 2)) rfl ?_
        refine lv_sipush (v := 10000) hx hb dL_law_333 (by decide) ?_
        have ct := k_cut_T (wp := []) (T := (WW a K KS st1v_53 hs1v_54 sc1v_55)) (wc := []) (wr := []) (tc := []) hG hS hA hK hP hD [] [] [] rfl rfl (by decide) (by decide) (by decide) rfl
        refine k_endi (As := [.int (shrF yy 2), .int 10000]) ct (k_runS (As := [.int (shrF yy 2), .int 10000]) (rest := [.ref (a 0)]) S0 Ls_L_72 ct (c_low l D (shrF yy 2) 10000 (by first | assumption | decide) H.size) hl.1 rfl (Nat.le_of_ble_eq_true rfl) rfl dL_law_336 ⟨⟨Nat.le_of_ble_eq_true rfl, Nat.le_of_ble_eq_true rfl⟩, (show C9 + 2 + 2 ≤ 690337 by omega), (show S9 + 12 + 12 ≤ 7030456 by omega)⟩) rfl rfl (fun r_61 _ H locs hw_62 hP hD hK hS => ?_)
        have hP : va_P D vwCl ((WW a K KS st1v_53 hs1v_54 sc1v_55)) H := k_swapP (a := []) (b := (WW a K KS st1v_53 hs1v_54 sc1v_55)) (c := []) hP
        have hD : va_D A ((WW a K KS st1v_53 hs1v_54 sc1v_55)) := va_D.swap (a := []) (b := (WW a K KS st1v_53 hs1v_54 sc1v_55)) (c := []) hD
        have hK : va_K D vwCl [(K, .int), (KS, .object "BarcodeWand$State")] s := hK
        have hP : va_P D vwCl ((WW a K KS st1v_53 hs1v_54 sc1v_55)) H := hP
        have hD : va_D A ((WW a K KS st1v_53 hs1v_54 sc1v_55)) := hD
        have hw_62 : r_61 = (lowF (shrF yy 2) 10000) := hw_62
        have hw_62 := hw_62.symm
        subst hw_62
        refine k_nrm (y := (lowF (shrF yy 2) 10000)) rfl ?_
        obtain ⟨dn, hdnl, hdne⟩ := low_nI (shrF yy 2) (n := 10000) (by decide) (by decide)
        refine k_nrm (y := (nI dn)) (hdne) ?_
        refine lv_iconst (v := 4) hx hb dL_law_339 (by decide) ?_
        refine lv_iconst (v := 1) hx hb dL_law_340 (by decide) ?_
        refine lv_iload hx hb dL_law_341 (lv_at hl 1 rfl) ?_
        refine lv_bipush (v := 7) hx hb dL_law_343 (by decide) ?_
        refine lv_ishr hx hb dL_law_345 ?_
        refine k_nrm (y := (shrF xx 7)) rfl ?_
        refine lv_bipush (v := 50) hx hb dL_law_346 (by decide) ?_
        have ct := k_cut_T (wp := []) (T := (WW a K KS st1v_53 hs1v_54 sc1v_55)) (wc := []) (wr := []) (tc := []) hG hS hA hK hP hD [] [] [] rfl rfl (by decide) (by decide) (by decide) rfl
        refine k_endi (As := [.int (shrF xx 7), .int 50]) ct (k_runS (As := [.int (shrF xx 7), .int 50]) (rest := [.int 1, .int 4, .int (nI dn), .ref (a 0)]) S0 Ls_L_72 ct (c_low l D (shrF xx 7) 50 (by first | assumption | decide) H.size) hl.1 rfl (Nat.le_of_ble_eq_true rfl) rfl dL_law_348 ⟨⟨Nat.le_of_ble_eq_true rfl, Nat.le_of_ble_eq_true rfl⟩, (show C9 + 2 + 2 ≤ 690337 by omega), (show S9 + 12 + 12 ≤ 7030456 by omega)⟩) rfl rfl (fun r_63 _ H locs hw_64 hP hD hK hS => ?_)
        have hP : va_P D vwCl ((WW a K KS st1v_53 hs1v_54 sc1v_55)) H := k_swapP (a := []) (b := (WW a K KS st1v_53 hs1v_54 sc1v_55)) (c := []) hP
        have hD : va_D A ((WW a K KS st1v_53 hs1v_54 sc1v_55)) := va_D.swap (a := []) (b := (WW a K KS st1v_53 hs1v_54 sc1v_55)) (c := []) hD
        have hK : va_K D vwCl [(K, .int), (KS, .object "BarcodeWand$State")] s := hK
        have hP : va_P D vwCl ((WW a K KS st1v_53 hs1v_54 sc1v_55)) H := hP
        have hD : va_D A ((WW a K KS st1v_53 hs1v_54 sc1v_55)) := hD
        have hw_64 : r_63 = (lowF (shrF xx 7) 50) := hw_64
        have hw_64 := hw_64.symm
        subst hw_64
        refine k_nrm (y := (lowF (shrF xx 7) 50)) rfl ?_
        obtain ⟨qn, hqnl, hqne⟩ := low_nI (shrF xx 7) (n := 50) (by decide) (by decide)
        refine k_nrm (y := (nI qn)) (hqne) ?_
        refine lv_iadd hx hb dL_law_351 ?_
        refine k_nrm (y := (nI (1 + qn))) (nI_add 1 qn) ?_
        have ct := k_cut_TT (wp := []) (T := (WW a K KS st1v_53 hs1v_54 sc1v_55)) (wc := []) (wr := []) (tc := [(K, .int), (KS, .object "BarcodeWand$State")]) hG hS hA hK hP hD [] [] [0, 1] rfl rfl (by decide) (by decide) (by decide) rfl
        refine k_endi (As := [.ref (a 0), .int (nI dn), .int 4, .int (nI (1 + qn))]) ct (k_runS (As := [.ref (a 0), .int (nI dn), .int 4, .int (nI (1 + qn))]) (rest := []) S0 Ls_L_184 ct (c_L_clean l hst D a K KS st1v_53 hs1v_54 sc1v_55 (k + 1) dn (1 + qn) v_57d (by omega) v_57b (by omega) (by omega) (by omega) H.size) hl.1 rfl (Nat.le_of_ble_eq_true rfl) rfl dL_law_352 ⟨⟨Nat.le_of_ble_eq_true rfl, Nat.le_of_ble_eq_true rfl⟩, (show C9 + 2 + 2 + 2 ≤ 690337 by omega), (show S9 + 12 + 12 + 12 ≤ 7030456 by omega)⟩) rfl rfl (fun r_65 u H locs hw_69 hP hD hK hS => ?_)
        obtain ⟨st1v_66, hs1v_67, sc1v_68⟩ := u
        have hK : va_K D vwCl [(K, .int), (KS, .object "BarcodeWand$State")] s := hK
        have hP : va_P D vwCl ((WW a K KS st1v_66 hs1v_67 sc1v_68)) H := hP
        have hD : va_D A ((WW a K KS st1v_66 hs1v_67 sc1v_68)) := hD
        have hw_69 : r_65 = 1 ∧ okH hs1v_67 ∧ nrm st1v_66 = nrm st1v_53 := hw_69
        obtain ⟨v_70a, v_70b, v_70c⟩ := hw_69
        refine k_nrm (y := 1) (v_70a) ?_
        have v_70d := invS_view v_70c.symm v_57d
        refine lv_if_eq (tgt := 362) hx hb dL_law_355 (by decide) (fun c9 => absurd c9 (by decide)) (fun _ => ?_)
        refine lv_iconst (v := 1) hx hb dL_law_358 (by decide) ?_
        refine lv_goto (tgt := 363) hx hb dL_law_359 (by decide) ?_
        refine lv_istore_n (lv' := [(2, .int 1), (5, .int yy), (4, .int xx), (3, .int (nI k)), (1, .ref (a 0)), (0, .ref b)]) hx hb dL_law_363 rfl hl (by decide) rfl (fun ls hl => ?_)
        obtain ⟨x_71, ex_71⟩ : ∃ z : Int32, z = (nI k) + 1 := ⟨_, rfl⟩
        refine lv_iinc (v := x_71) (lv' := [(3, .int x_71), (2, .int 1), (5, .int yy), (4, .int xx), (1, .ref (a 0)), (0, .ref b)]) hx hb dL_law_364 hl (k := 3) rfl (by rw [ex_71]; rfl) (by decide) rfl (fun ls hl => ?_)
        refine lv_goto (tgt := 33) hx hb dL_law_367 (by decide) ?_
        have he9 : x_71 = (nI (k + 1)) := by rw [ex_71]; exact nI_1 k
        rw [he9] at hl
        have hl : lv_has ls 10 [(3, .int (nI (k + 1))), (2, .int 1), (5, .int yy), (4, .int xx), (1, .ref (a 0)), (0, .ref b)] := hl
        subst hAe
        refine W.widen (k := Cn) (n := Sn) (by omega) (by omega) ?_
        exact next st1v_66 hs1v_67 sc1v_68 H locs ls v_70d v_70b hP hD hS (lv_sub hl [0, 1, 4, 5] rfl)
    · have hc9 := c_58
      refine lv_aload_n hx hb dL_law_306 rfl (lv_at hl 4 rfl) ?_
      refine lv_iload hx hb dL_law_307 (lv_at hl 1 rfl) ?_
      refine lv_iconst (v := 4) hx hb dL_law_309 (by decide) ?_
      refine lv_ishr hx hb dL_law_310 ?_
      refine k_nrm (y := (shrF xx 4)) rfl ?_
      refine lv_bipush (v := 24) hx hb dL_law_311 (by decide) ?_
      have ct := k_cut_T (wp := []) (T := (WW a K KS st1v_53 hs1v_54 sc1v_55)) (wc := []) (wr := []) (tc := []) hG hS hA hK hP hD [] [] [] rfl rfl (by decide) (by decide) (by decide) rfl
      refine k_endi (As := [.int (shrF xx 4), .int 24]) ct (k_runS (As := [.int (shrF xx 4), .int 24]) (rest := [.ref (a 0)]) S0 Ls_L_72 ct (c_low l D (shrF xx 4) 24 (by first | assumption | decide) H.size) hl.1 rfl (Nat.le_of_ble_eq_true rfl) rfl dL_law_313 ⟨⟨Nat.le_of_ble_eq_true rfl, Nat.le_of_ble_eq_true rfl⟩, (show C9 + 2 + 2 ≤ 690337 by omega), (show S9 + 12 + 12 ≤ 7030456 by omega)⟩) rfl rfl (fun r_72 _ H locs hw_73 hP hD hK hS => ?_)
      have hP : va_P D vwCl ((WW a K KS st1v_53 hs1v_54 sc1v_55)) H := k_swapP (a := []) (b := (WW a K KS st1v_53 hs1v_54 sc1v_55)) (c := []) hP
      have hD : va_D A ((WW a K KS st1v_53 hs1v_54 sc1v_55)) := va_D.swap (a := []) (b := (WW a K KS st1v_53 hs1v_54 sc1v_55)) (c := []) hD
      have hK : va_K D vwCl [(K, .int), (KS, .object "BarcodeWand$State")] s := hK
      have hP : va_P D vwCl ((WW a K KS st1v_53 hs1v_54 sc1v_55)) H := hP
      have hD : va_D A ((WW a K KS st1v_53 hs1v_54 sc1v_55)) := hD
      have hw_73 : r_72 = (lowF (shrF xx 4) 24) := hw_73
      have hw_73 := hw_73.symm
      subst hw_73
      refine k_nrm (y := (lowF (shrF xx 4) 24)) rfl ?_
      obtain ⟨en, henl, hene⟩ := low_nI (shrF xx 4) (n := 24) (by decide) (by decide)
      refine k_nrm (y := (nI en)) (hene) ?_
      have ct := k_cut_TT (wp := []) (T := (WW a K KS st1v_53 hs1v_54 sc1v_55)) (wc := []) (wr := []) (tc := [(K, .int), (KS, .object "BarcodeWand$State")]) hG hS hA hK hP hD [] [] [0, 1] rfl rfl (by decide) (by decide) (by decide) rfl
      refine k_endi (As := [.ref (a 0), .int (nI en)]) ct (k_runS (As := [.ref (a 0), .int (nI en)]) (rest := []) S0 Ls_L_180 ct (c_L_smudges l hst D a K KS st1v_53 hs1v_54 sc1v_55 (k + 1) en v_57d (by omega) v_57b (by omega) H.size) hl.1 rfl (Nat.le_of_ble_eq_true rfl) rfl dL_law_316 ⟨⟨Nat.le_of_ble_eq_true rfl, Nat.le_of_ble_eq_true rfl⟩, (show C9 + 2 + 2 + 1 ≤ 690337 by omega), (show S9 + 12 + 12 + 6 ≤ 7030456 by omega)⟩) rfl rfl (fun r_74 u H locs hw_78 hP hD hK hS => ?_)
      obtain ⟨st1v_75, hs1v_76, sc1v_77⟩ := u
      have hK : va_K D vwCl [(K, .int), (KS, .object "BarcodeWand$State")] s := hK
      have hP : va_P D vwCl ((WW a K KS st1v_75 hs1v_76 sc1v_77)) H := hP
      have hD : va_D A ((WW a K KS st1v_75 hs1v_76 sc1v_77)) := hD
      have hw_78 : r_74 = 1 ∧ okH hs1v_76 ∧ nrm st1v_75 = nrm st1v_53 := hw_78
      obtain ⟨v_79a, v_79b, v_79c⟩ := hw_78
      refine k_nrm (y := 1) (v_79a) ?_
      have v_79d := invS_view v_79c.symm v_57d
      refine lv_if_eq (tgt := 362) hx hb dL_law_319 (by decide) (fun c9 => absurd c9 (by decide)) (fun _ => ?_)
      refine lv_iload_n hx hb dL_law_322 rfl (lv_at hl 2 rfl) ?_
      refine lv_iconst (v := 4) hx hb dL_law_323 (by decide) ?_
      refine lv_irem hx hb dL_law_324 (by decide) ?_
      refine k_nrm (y := (nI (k % 4))) (pk_rem (d := 4) (by omega) (by decide) (by decide)) ?_
      refine lv_if_gt (tgt := 358) hx hb dL_law_325 (by decide) (fun c_80 => ?_) (fun c_80 => ?_)
      · have hc9 := c_80
        refine lv_iconst (v := 1) hx hb dL_law_358 (by decide) ?_
        refine lv_goto (tgt := 363) hx hb dL_law_359 (by decide) ?_
        refine lv_istore_n (lv' := [(2, .int 1), (5, .int yy), (4, .int xx), (3, .int (nI k)), (1, .ref (a 0)), (0, .ref b)]) hx hb dL_law_363 rfl hl (by decide) rfl (fun ls hl => ?_)
        obtain ⟨x_81, ex_81⟩ : ∃ z : Int32, z = (nI k) + 1 := ⟨_, rfl⟩
        refine lv_iinc (v := x_81) (lv' := [(3, .int x_81), (2, .int 1), (5, .int yy), (4, .int xx), (1, .ref (a 0)), (0, .ref b)]) hx hb dL_law_364 hl (k := 3) rfl (by rw [ex_81]; rfl) (by decide) rfl (fun ls hl => ?_)
        refine lv_goto (tgt := 33) hx hb dL_law_367 (by decide) ?_
        have he9 : x_81 = (nI (k + 1)) := by rw [ex_81]; exact nI_1 k
        rw [he9] at hl
        have hl : lv_has ls 10 [(3, .int (nI (k + 1))), (2, .int 1), (5, .int yy), (4, .int xx), (1, .ref (a 0)), (0, .ref b)] := hl
        subst hAe
        refine W.widen (k := Cn) (n := Sn) (by omega) (by omega) ?_
        exact next st1v_75 hs1v_76 sc1v_77 H locs ls v_79d v_79b hP hD hS (lv_sub hl [0, 1, 4, 5] rfl)
      · have hc9 := c_80
        refine lv_aload_n hx hb dL_law_328 rfl (lv_at hl 4 rfl) ?_
        refine lv_iload hx hb dL_law_329 (lv_at hl 0 rfl) ?_
        refine lv_iconst (v := 2) hx hb dL_law_331 (by decide) ?_
        refine lv_ishr hx hb dL_law_332 ?_
        refine k_nrm (y := (shrF yy 2)) rfl ?_
        refine lv_sipush (v := 10000) hx hb dL_law_333 (by decide) ?_
        have ct := k_cut_T (wp := []) (T := (WW a K KS st1v_75 hs1v_76 sc1v_77)) (wc := []) (wr := []) (tc := []) hG hS hA hK hP hD [] [] [] rfl rfl (by decide) (by decide) (by decide) rfl
        refine k_endi (As := [.int (shrF yy 2), .int 10000]) ct (k_runS (As := [.int (shrF yy 2), .int 10000]) (rest := [.ref (a 0)]) S0 Ls_L_72 ct (c_low l D (shrF yy 2) 10000 (by first | assumption | decide) H.size) hl.1 rfl (Nat.le_of_ble_eq_true rfl) rfl dL_law_336 ⟨⟨Nat.le_of_ble_eq_true rfl, Nat.le_of_ble_eq_true rfl⟩, (show C9 + 2 + 2 + 1 ≤ 690337 by omega), (show S9 + 12 + 12 + 6 ≤ 7030456 by omega)⟩) rfl rfl (fun r_82 _ H locs hw_83 hP hD hK hS => ?_)
        have hP : va_P D vwCl ((WW a K KS st1v_75 hs1v_76 sc1v_77)) H := k_swapP (a := []) (b := (WW a K KS st1v_75 hs1v_76 sc1v_77)) (c := []) hP
        have hD : va_D A ((WW a K KS st1v_75 hs1v_76 sc1v_77)) := va_D.swap (a := []) (b := (WW a K KS st1v_75 hs1v_76 sc1v_77)) (c := []) hD
        have hK : va_K D vwCl [(K, .int), (KS, .object "BarcodeWand$State")] s := hK
        have hP : va_P D vwCl ((WW a K KS st1v_75 hs1v_76 sc1v_77)) H := hP
        have hD : va_D A ((WW a K KS st1v_75 hs1v_76 sc1v_77)) := hD
        have hw_83 : r_82 = (lowF (shrF yy 2) 10000) := hw_83
        have hw_83 := hw_83.symm
        subst hw_83
        refine k_nrm (y := (lowF (shrF yy 2) 10000)) rfl ?_
        obtain ⟨dn, hdnl, hdne⟩ := low_nI (shrF yy 2) (n := 10000) (by decide) (by decide)
        refine k_nrm (y := (nI dn)) (hdne) ?_
        refine lv_iconst (v := 4) hx hb dL_law_339 (by decide) ?_
        refine lv_iconst (v := 1) hx hb dL_law_340 (by decide) ?_
        refine lv_iload hx hb dL_law_341 (lv_at hl 1 rfl) ?_
        refine lv_bipush (v := 7) hx hb dL_law_343 (by decide) ?_
        refine lv_ishr hx hb dL_law_345 ?_
        refine k_nrm (y := (shrF xx 7)) rfl ?_
        refine lv_bipush (v := 50) hx hb dL_law_346 (by decide) ?_
        have ct := k_cut_T (wp := []) (T := (WW a K KS st1v_75 hs1v_76 sc1v_77)) (wc := []) (wr := []) (tc := []) hG hS hA hK hP hD [] [] [] rfl rfl (by decide) (by decide) (by decide) rfl
        refine k_endi (As := [.int (shrF xx 7), .int 50]) ct (k_runS (As := [.int (shrF xx 7), .int 50]) (rest := [.int 1, .int 4, .int (nI dn), .ref (a 0)]) S0 Ls_L_72 ct (c_low l D (shrF xx 7) 50 (by first | assumption | decide) H.size) hl.1 rfl (Nat.le_of_ble_eq_true rfl) rfl dL_law_348 ⟨⟨Nat.le_of_ble_eq_true rfl, Nat.le_of_ble_eq_true rfl⟩, (show C9 + 2 + 2 + 1 ≤ 690337 by omega), (show S9 + 12 + 12 + 6 ≤ 7030456 by omega)⟩) rfl rfl (fun r_84 _ H locs hw_85 hP hD hK hS => ?_)
        have hP : va_P D vwCl ((WW a K KS st1v_75 hs1v_76 sc1v_77)) H := k_swapP (a := []) (b := (WW a K KS st1v_75 hs1v_76 sc1v_77)) (c := []) hP
        have hD : va_D A ((WW a K KS st1v_75 hs1v_76 sc1v_77)) := va_D.swap (a := []) (b := (WW a K KS st1v_75 hs1v_76 sc1v_77)) (c := []) hD
        have hK : va_K D vwCl [(K, .int), (KS, .object "BarcodeWand$State")] s := hK
        have hP : va_P D vwCl ((WW a K KS st1v_75 hs1v_76 sc1v_77)) H := hP
        have hD : va_D A ((WW a K KS st1v_75 hs1v_76 sc1v_77)) := hD
        have hw_85 : r_84 = (lowF (shrF xx 7) 50) := hw_85
        have hw_85 := hw_85.symm
        subst hw_85
        refine k_nrm (y := (lowF (shrF xx 7) 50)) rfl ?_
        obtain ⟨qn, hqnl, hqne⟩ := low_nI (shrF xx 7) (n := 50) (by decide) (by decide)
        refine k_nrm (y := (nI qn)) (hqne) ?_
        refine lv_iadd hx hb dL_law_351 ?_
        refine k_nrm (y := (nI (1 + qn))) (nI_add 1 qn) ?_
        have ct := k_cut_TT (wp := []) (T := (WW a K KS st1v_75 hs1v_76 sc1v_77)) (wc := []) (wr := []) (tc := [(K, .int), (KS, .object "BarcodeWand$State")]) hG hS hA hK hP hD [] [] [0, 1] rfl rfl (by decide) (by decide) (by decide) rfl
        refine k_endi (As := [.ref (a 0), .int (nI dn), .int 4, .int (nI (1 + qn))]) ct (k_runS (As := [.ref (a 0), .int (nI dn), .int 4, .int (nI (1 + qn))]) (rest := []) S0 Ls_L_184 ct (c_L_clean l hst D a K KS st1v_75 hs1v_76 sc1v_77 (k + 1) dn (1 + qn) v_79d (by omega) v_79b (by omega) (by omega) (by omega) H.size) hl.1 rfl (Nat.le_of_ble_eq_true rfl) rfl dL_law_352 ⟨⟨Nat.le_of_ble_eq_true rfl, Nat.le_of_ble_eq_true rfl⟩, (show C9 + 2 + 2 + 1 + 2 ≤ 690337 by omega), (show S9 + 12 + 12 + 6 + 12 ≤ 7030456 by omega)⟩) rfl rfl (fun r_86 u H locs hw_90 hP hD hK hS => ?_)
        obtain ⟨st1v_87, hs1v_88, sc1v_89⟩ := u
        have hK : va_K D vwCl [(K, .int), (KS, .object "BarcodeWand$State")] s := hK
        have hP : va_P D vwCl ((WW a K KS st1v_87 hs1v_88 sc1v_89)) H := hP
        have hD : va_D A ((WW a K KS st1v_87 hs1v_88 sc1v_89)) := hD
        have hw_90 : r_86 = 1 ∧ okH hs1v_88 ∧ nrm st1v_87 = nrm st1v_75 := hw_90
        obtain ⟨v_91a, v_91b, v_91c⟩ := hw_90
        refine k_nrm (y := 1) (v_91a) ?_
        have v_91d := invS_view v_91c.symm v_79d
        refine lv_if_eq (tgt := 362) hx hb dL_law_355 (by decide) (fun c9 => absurd c9 (by decide)) (fun _ => ?_)
        refine lv_iconst (v := 1) hx hb dL_law_358 (by decide) ?_
        refine lv_goto (tgt := 363) hx hb dL_law_359 (by decide) ?_
        refine lv_istore_n (lv' := [(2, .int 1), (5, .int yy), (4, .int xx), (3, .int (nI k)), (1, .ref (a 0)), (0, .ref b)]) hx hb dL_law_363 rfl hl (by decide) rfl (fun ls hl => ?_)
        obtain ⟨x_92, ex_92⟩ : ∃ z : Int32, z = (nI k) + 1 := ⟨_, rfl⟩
        refine lv_iinc (v := x_92) (lv' := [(3, .int x_92), (2, .int 1), (5, .int yy), (4, .int xx), (1, .ref (a 0)), (0, .ref b)]) hx hb dL_law_364 hl (k := 3) rfl (by rw [ex_92]; rfl) (by decide) rfl (fun ls hl => ?_)
        refine lv_goto (tgt := 33) hx hb dL_law_367 (by decide) ?_
        have he9 : x_92 = (nI (k + 1)) := by rw [ex_92]; exact nI_1 k
        rw [he9] at hl
        have hl : lv_has ls 10 [(3, .int (nI (k + 1))), (2, .int 1), (5, .int yy), (4, .int xx), (1, .ref (a 0)), (0, .ref b)] := hl
        subst hAe
        refine W.widen (k := Cn) (n := Sn) (by omega) (by omega) ?_
        exact next st1v_87 hs1v_88 sc1v_89 H locs ls v_91d v_91b hP hD hS (lv_sub hl [0, 1, 4, 5] rfl)
