set_option maxRecDepth 20000 in
theorem lk_X7_reason : Cond.code yX7_reason cX7_reason 2 (some .int) ∈ wsA := mA 604 rfl rfl
theorem ly_X7_reason : k_y yX7_reason 1 := ⟨by decide +kernel, by decide +kernel, by decide +kernel⟩
set_option maxRecDepth 20000 in
theorem lm_X7_reason : Cond.instanceMethod yX7_reason ∈ wsA := mA 602 rfl rfl
set_option maxRecDepth 20000 in
theorem le_X7_reason : Cond.selects (yX7_reason).cls yX7_reason yX7_reason ∈ wsA := mA 603 rfl rfl
set_option maxRecDepth 20000 in
theorem Lv_L_106 : k_LV RL 106 yX7_reason cX7_reason 2 (some .int) 1 := ⟨mA 601 rfl rfl, lm_X7_reason, le_X7_reason, li_BarcodeWand, lk_X7_reason, ly_X7_reason⟩
theorem ly_L_digit : k_y yL_digit 2 := ⟨by decide +kernel, by decide +kernel, by decide +kernel⟩
set_option maxRecDepth 20000 in
theorem ls_L_digit : Cond.static yL_digit ∈ wsA := mA 615 rfl rfl
set_option maxRecDepth 20000 in
theorem Ls_L_116 : k_LW RL 116 yL_digit cL_digit 3 (some .int) [(0, 5, 6, 22)] 2 := ⟨mA 614 rfl rfl, ls_L_digit, li_BarcodeWandLaw, mA 616 rfl rfl, ly_L_digit⟩
theorem ly_L_nearest : k_y yL_nearest 2 := ⟨by decide +kernel, by decide +kernel, by decide +kernel⟩
set_option maxRecDepth 20000 in
theorem ls_L_nearest : Cond.static yL_nearest ∈ wsA := mA 623 rfl rfl
set_option maxRecDepth 20000 in
theorem Ls_L_118 : k_LW RL 118 yL_nearest cL_nearest 3 (some .int) [(0, 5, 6, 22)] 2 := ⟨mA 622 rfl rfl, ls_L_nearest, li_BarcodeWandLaw, mA 624 rfl rfl, ly_L_nearest⟩
theorem dL_reading_0 : decode cL_reading 0 = .ok (.aload_n 0, 1) := by decide +kernel
theorem dL_reading_1 : decode cL_reading 1 = .ok (.invokevirtual 103, 3) := by decide +kernel
theorem dL_reading_4 : decode cL_reading 4 = .ok (.istore_n 1, 1) := by decide +kernel
theorem dL_reading_5 : decode cL_reading 5 = .ok (.aload_n 0, 1) := by decide +kernel
theorem dL_reading_6 : decode cL_reading 6 = .ok (.iconst 0, 1) := by decide +kernel
theorem dL_reading_7 : decode cL_reading 7 = .ok (.invokevirtual 106, 3) := by decide +kernel
theorem dL_reading_10 : decode cL_reading 10 = .ok (.istore_n 2, 1) := by decide +kernel
theorem dL_reading_11 : decode cL_reading 11 = .ok (.aload_n 0, 1) := by decide +kernel
theorem dL_reading_12 : decode cL_reading 12 = .ok (.iconst 1, 1) := by decide +kernel
theorem dL_reading_13 : decode cL_reading 13 = .ok (.invokevirtual 106, 3) := by decide +kernel
theorem dL_reading_16 : decode cL_reading 16 = .ok (.istore_n 3, 1) := by decide +kernel
theorem dL_reading_17 : decode cL_reading 17 = .ok (.aload_n 0, 1) := by decide +kernel
theorem dL_reading_18 : decode cL_reading 18 = .ok (.invokevirtual 110, 3) := by decide +kernel
theorem dL_reading_21 : decode cL_reading 21 = .ok (.istore 4, 2) := by decide +kernel
theorem dL_reading_23 : decode cL_reading 23 = .ok (.aload_n 0, 1) := by decide +kernel
theorem dL_reading_24 : decode cL_reading 24 = .ok (.invokevirtual 113, 3) := by decide +kernel
theorem dL_reading_27 : decode cL_reading 27 = .ok (.iconst 5, 1) := by decide +kernel
theorem dL_reading_28 : decode cL_reading 28 = .ok (.isub, 1) := by decide +kernel
theorem dL_reading_29 : decode cL_reading 29 = .ok (.iconst 4, 1) := by decide +kernel
theorem dL_reading_30 : decode cL_reading 30 = .ok (.idiv, 1) := by decide +kernel
theorem dL_reading_31 : decode cL_reading 31 = .ok (.istore 5, 2) := by decide +kernel
theorem dL_reading_33 : decode cL_reading 33 = .ok (.iload_n 1, 1) := by decide +kernel
theorem dL_reading_34 : decode cL_reading 34 = .ok (.iload_n 2, 1) := by decide +kernel
theorem dL_reading_35 : decode cL_reading 35 = .ok (.ifCond .ne 7, 3) := by decide +kernel
theorem dL_reading_38 : decode cL_reading 38 = .ok (.iconst 0, 1) := by decide +kernel
theorem dL_reading_39 : decode cL_reading 39 = .ok (.goto 21, 3) := by decide +kernel
theorem dL_reading_42 : decode cL_reading 42 = .ok (.iload_n 3, 1) := by decide +kernel
theorem dL_reading_43 : decode cL_reading 43 = .ok (.ifCond .ne 7, 3) := by decide +kernel
theorem dL_reading_46 : decode cL_reading 46 = .ok (.iconst (-1), 1) := by decide +kernel
theorem dL_reading_47 : decode cL_reading 47 = .ok (.goto 13, 3) := by decide +kernel
theorem dL_reading_50 : decode cL_reading 50 = .ok (.iload_n 2, 1) := by decide +kernel
theorem dL_reading_51 : decode cL_reading 51 = .ok (.iload_n 3, 1) := by decide +kernel
theorem dL_reading_52 : decode cL_reading 52 = .ok (.if_icmp .le 7, 3) := by decide +kernel
theorem dL_reading_55 : decode cL_reading 55 = .ok (.iload_n 2, 1) := by decide +kernel
theorem dL_reading_56 : decode cL_reading 56 = .ok (.goto 4, 3) := by decide +kernel
theorem dL_reading_59 : decode cL_reading 59 = .ok (.iload_n 3, 1) := by decide +kernel
theorem dL_reading_60 : decode cL_reading 60 = .ok (.if_icmp .ne 88, 3) := by decide +kernel
theorem dL_reading_63 : decode cL_reading 63 = .ok (.iload_n 2, 1) := by decide +kernel
theorem dL_reading_64 : decode cL_reading 64 = .ok (.iconst 1, 1) := by decide +kernel
theorem dL_reading_65 : decode cL_reading 65 = .ok (.if_icmp .ne 7, 3) := by decide +kernel
theorem dL_reading_68 : decode cL_reading 68 = .ok (.iconst 1, 1) := by decide +kernel
theorem dL_reading_69 : decode cL_reading 69 = .ok (.goto 4, 3) := by decide +kernel
theorem dL_reading_72 : decode cL_reading 72 = .ok (.iconst 0, 1) := by decide +kernel
theorem dL_reading_73 : decode cL_reading 73 = .ok (.iload_n 3, 1) := by decide +kernel
theorem dL_reading_74 : decode cL_reading 74 = .ok (.iconst 1, 1) := by decide +kernel
theorem dL_reading_75 : decode cL_reading 75 = .ok (.if_icmp .ne 7, 3) := by decide +kernel
theorem dL_reading_78 : decode cL_reading 78 = .ok (.iconst 1, 1) := by decide +kernel
theorem dL_reading_79 : decode cL_reading 79 = .ok (.goto 4, 3) := by decide +kernel
theorem dL_reading_82 : decode cL_reading 82 = .ok (.iconst 0, 1) := by decide +kernel
theorem dL_reading_83 : decode cL_reading 83 = .ok (.if_icmp .ne 65, 3) := by decide +kernel
theorem dL_reading_86 : decode cL_reading 86 = .ok (.iload_n 2, 1) := by decide +kernel
theorem dL_reading_87 : decode cL_reading 87 = .ok (.iconst 1, 1) := by decide +kernel
theorem dL_reading_88 : decode cL_reading 88 = .ok (.if_icmp .ne 7, 3) := by decide +kernel
theorem dL_reading_91 : decode cL_reading 91 = .ok (.iconst 1, 1) := by decide +kernel
theorem dL_reading_92 : decode cL_reading 92 = .ok (.goto 4, 3) := by decide +kernel
theorem dL_reading_95 : decode cL_reading 95 = .ok (.iconst 0, 1) := by decide +kernel
theorem dL_reading_96 : decode cL_reading 96 = .ok (.aload_n 0, 1) := by decide +kernel
theorem dL_reading_97 : decode cL_reading 97 = .ok (.invokevirtual 113, 3) := by decide +kernel
theorem dL_reading_100 : decode cL_reading 100 = .ok (.bipush 13, 2) := by decide +kernel
theorem dL_reading_102 : decode cL_reading 102 = .ok (.if_icmp .lt 13, 3) := by decide +kernel
theorem dL_reading_105 : decode cL_reading 105 = .ok (.aload_n 0, 1) := by decide +kernel
theorem dL_reading_106 : decode cL_reading 106 = .ok (.invokevirtual 113, 3) := by decide +kernel
theorem dL_reading_109 : decode cL_reading 109 = .ok (.iconst 4, 1) := by decide +kernel
theorem dL_reading_110 : decode cL_reading 110 = .ok (.irem, 1) := by decide +kernel
theorem dL_reading_111 : decode cL_reading 111 = .ok (.iconst 1, 1) := by decide +kernel
theorem dL_reading_112 : decode cL_reading 112 = .ok (.if_icmp .eq 7, 3) := by decide +kernel
theorem dL_reading_115 : decode cL_reading 115 = .ok (.iconst 1, 1) := by decide +kernel
theorem dL_reading_116 : decode cL_reading 116 = .ok (.goto 4, 3) := by decide +kernel
theorem dL_reading_119 : decode cL_reading 119 = .ok (.iconst 0, 1) := by decide +kernel
theorem dL_reading_120 : decode cL_reading 120 = .ok (.if_icmp .ne 28, 3) := by decide +kernel
theorem dL_reading_123 : decode cL_reading 123 = .ok (.iload_n 1, 1) := by decide +kernel
theorem dL_reading_124 : decode cL_reading 124 = .ok (.ifCond .gt 8, 3) := by decide +kernel
theorem dL_reading_127 : decode cL_reading 127 = .ok (.iload 4, 2) := by decide +kernel
theorem dL_reading_129 : decode cL_reading 129 = .ok (.ifCond .le 19, 3) := by decide +kernel
theorem dL_reading_132 : decode cL_reading 132 = .ok (.iload 4, 2) := by decide +kernel
theorem dL_reading_134 : decode cL_reading 134 = .ok (.ifCond .eq 14, 3) := by decide +kernel
theorem dL_reading_137 : decode cL_reading 137 = .ok (.iload 4, 2) := by decide +kernel
theorem dL_reading_139 : decode cL_reading 139 = .ok (.bipush 9, 2) := by decide +kernel
theorem dL_reading_141 : decode cL_reading 141 = .ok (.if_icmp .ge 7, 3) := by decide +kernel
theorem dL_reading_144 : decode cL_reading 144 = .ok (.iconst 1, 1) := by decide +kernel
theorem dL_reading_145 : decode cL_reading 145 = .ok (.goto 4, 3) := by decide +kernel
theorem dL_reading_148 : decode cL_reading 148 = .ok (.iconst 0, 1) := by decide +kernel
theorem dL_reading_149 : decode cL_reading 149 = .ok (.istore 6, 2) := by decide +kernel
theorem dL_reading_151 : decode cL_reading 151 = .ok (.iconst 0, 1) := by decide +kernel
theorem dL_reading_152 : decode cL_reading 152 = .ok (.istore 7, 2) := by decide +kernel
theorem dL_reading_154 : decode cL_reading 154 = .ok (.iconst 0, 1) := by decide +kernel
theorem dL_reading_155 : decode cL_reading 155 = .ok (.istore 8, 2) := by decide +kernel
theorem dL_reading_157 : decode cL_reading 157 = .ok (.iload 8, 2) := by decide +kernel
theorem dL_reading_159 : decode cL_reading 159 = .ok (.bipush 9, 2) := by decide +kernel
theorem dL_reading_161 : decode cL_reading 161 = .ok (.if_icmp .ge 118, 3) := by decide +kernel
theorem dL_reading_164 : decode cL_reading 164 = .ok (.iload 6, 2) := by decide +kernel
theorem dL_reading_166 : decode cL_reading 166 = .ok (.ifCond .eq 113, 3) := by decide +kernel
theorem dL_reading_169 : decode cL_reading 169 = .ok (.aload_n 0, 1) := by decide +kernel
theorem dL_reading_170 : decode cL_reading 170 = .ok (.iload 8, 2) := by decide +kernel
theorem dL_reading_172 : decode cL_reading 172 = .ok (.invokestatic 116, 3) := by decide +kernel
theorem dL_reading_175 : decode cL_reading 175 = .ok (.istore 9, 2) := by decide +kernel
theorem dL_reading_177 : decode cL_reading 177 = .ok (.iload_n 1, 1) := by decide +kernel
theorem dL_reading_178 : decode cL_reading 178 = .ok (.ifCond .gt 10, 3) := by decide +kernel
theorem dL_reading_181 : decode cL_reading 181 = .ok (.iload 8, 2) := by decide +kernel
theorem dL_reading_183 : decode cL_reading 183 = .ok (.iload 5, 2) := by decide +kernel
theorem dL_reading_185 : decode cL_reading 185 = .ok (.if_icmp .lt 17, 3) := by decide +kernel
theorem dL_reading_188 : decode cL_reading 188 = .ok (.iload 9, 2) := by decide +kernel
theorem dL_reading_190 : decode cL_reading 190 = .ok (.iconst (-1), 1) := by decide +kernel
theorem dL_reading_191 : decode cL_reading 191 = .ok (.if_icmp .ne 7, 3) := by decide +kernel
theorem dL_reading_194 : decode cL_reading 194 = .ok (.iconst 1, 1) := by decide +kernel
theorem dL_reading_195 : decode cL_reading 195 = .ok (.goto 43, 3) := by decide +kernel
theorem dL_reading_198 : decode cL_reading 198 = .ok (.iconst 0, 1) := by decide +kernel
theorem dL_reading_199 : decode cL_reading 199 = .ok (.goto 39, 3) := by decide +kernel
theorem dL_reading_202 : decode cL_reading 202 = .ok (.iload 9, 2) := by decide +kernel
theorem dL_reading_204 : decode cL_reading 204 = .ok (.ifCond .lt 33, 3) := by decide +kernel
theorem dL_reading_207 : decode cL_reading 207 = .ok (.iload 9, 2) := by decide +kernel
theorem dL_reading_209 : decode cL_reading 209 = .ok (.bipush 10, 2) := by decide +kernel
theorem dL_reading_211 : decode cL_reading 211 = .ok (.if_icmp .ge 26, 3) := by decide +kernel
theorem dL_reading_214 : decode cL_reading 214 = .ok (.iload_n 1, 1) := by decide +kernel
theorem dL_reading_215 : decode cL_reading 215 = .ok (.ifCond .lt 18, 3) := by decide +kernel
theorem dL_reading_218 : decode cL_reading 218 = .ok (.iload 9, 2) := by decide +kernel
theorem dL_reading_220 : decode cL_reading 220 = .ok (.aload_n 0, 1) := by decide +kernel
theorem dL_reading_221 : decode cL_reading 221 = .ok (.iconst 3, 1) := by decide +kernel
theorem dL_reading_222 : decode cL_reading 222 = .ok (.iconst 4, 1) := by decide +kernel
theorem dL_reading_223 : decode cL_reading 223 = .ok (.iload 8, 2) := by decide +kernel
theorem dL_reading_225 : decode cL_reading 225 = .ok (.imul, 1) := by decide +kernel
theorem dL_reading_226 : decode cL_reading 226 = .ok (.iadd, 1) := by decide +kernel
theorem dL_reading_227 : decode cL_reading 227 = .ok (.invokestatic 118, 3) := by decide +kernel
theorem dL_reading_230 : decode cL_reading 230 = .ok (.if_icmp .ne 7, 3) := by decide +kernel
theorem dL_reading_233 : decode cL_reading 233 = .ok (.iconst 1, 1) := by decide +kernel
theorem dL_reading_234 : decode cL_reading 234 = .ok (.goto 4, 3) := by decide +kernel
theorem dL_reading_237 : decode cL_reading 237 = .ok (.iconst 0, 1) := by decide +kernel
theorem dL_reading_238 : decode cL_reading 238 = .ok (.istore 6, 2) := by decide +kernel
theorem dL_reading_240 : decode cL_reading 240 = .ok (.iload 7, 2) := by decide +kernel
theorem dL_reading_242 : decode cL_reading 242 = .ok (.iload 9, 2) := by decide +kernel
theorem dL_reading_244 : decode cL_reading 244 = .ok (.ifCond .ge 7, 3) := by decide +kernel
theorem dL_reading_247 : decode cL_reading 247 = .ok (.iconst 0, 1) := by decide +kernel
theorem dL_reading_248 : decode cL_reading 248 = .ok (.goto 22, 3) := by decide +kernel
theorem dL_reading_251 : decode cL_reading 251 = .ok (.iload 5, 2) := by decide +kernel
theorem dL_reading_253 : decode cL_reading 253 = .ok (.iload 8, 2) := by decide +kernel
theorem dL_reading_255 : decode cL_reading 255 = .ok (.isub, 1) := by decide +kernel
theorem dL_reading_256 : decode cL_reading 256 = .ok (.iconst 2, 1) := by decide +kernel
theorem dL_reading_257 : decode cL_reading 257 = .ok (.irem, 1) := by decide +kernel
theorem dL_reading_258 : decode cL_reading 258 = .ok (.ifCond .ne 10, 3) := by decide +kernel
theorem dL_reading_261 : decode cL_reading 261 = .ok (.iconst 3, 1) := by decide +kernel
theorem dL_reading_262 : decode cL_reading 262 = .ok (.iload 9, 2) := by decide +kernel
theorem dL_reading_264 : decode cL_reading 264 = .ok (.imul, 1) := by decide +kernel
theorem dL_reading_265 : decode cL_reading 265 = .ok (.goto 5, 3) := by decide +kernel
theorem dL_reading_268 : decode cL_reading 268 = .ok (.iload 9, 2) := by decide +kernel
theorem dL_reading_270 : decode cL_reading 270 = .ok (.iadd, 1) := by decide +kernel
theorem dL_reading_271 : decode cL_reading 271 = .ok (.istore 7, 2) := by decide +kernel
theorem dL_reading_273 : decode cL_reading 273 = .ok (.iinc 8 1, 3) := by decide +kernel
theorem dL_reading_276 : decode cL_reading 276 = .ok (.goto (-119), 3) := by decide +kernel
theorem dL_reading_279 : decode cL_reading 279 = .ok (.iload 6, 2) := by decide +kernel
theorem dL_reading_281 : decode cL_reading 281 = .ok (.ifCond .eq 19, 3) := by decide +kernel
theorem dL_reading_284 : decode cL_reading 284 = .ok (.iload_n 1, 1) := by decide +kernel
theorem dL_reading_285 : decode cL_reading 285 = .ok (.ifCond .gt 11, 3) := by decide +kernel
theorem dL_reading_288 : decode cL_reading 288 = .ok (.iload 7, 2) := by decide +kernel
theorem dL_reading_290 : decode cL_reading 290 = .ok (.bipush 10, 2) := by decide +kernel
theorem dL_reading_292 : decode cL_reading 292 = .ok (.irem, 1) := by decide +kernel
theorem dL_reading_293 : decode cL_reading 293 = .ok (.ifCond .ne 7, 3) := by decide +kernel
theorem dL_reading_296 : decode cL_reading 296 = .ok (.iconst 1, 1) := by decide +kernel
theorem dL_reading_297 : decode cL_reading 297 = .ok (.goto 4, 3) := by decide +kernel
theorem dL_reading_300 : decode cL_reading 300 = .ok (.iconst 0, 1) := by decide +kernel
theorem dL_reading_301 : decode cL_reading 301 = .ok (.ireturn, 1) := by decide +kernel
set_option maxHeartbeats 4000000 in
set_option maxRecDepth 100000 in
theorem c_L_reading (l : Launch) (D : va_G) (a : Nat → Nat) (K : ClassId) (KS : ClassId) (st : ST) (hs : HT) (sc : SCT) (hbst : bST st) (htl : tolOk st) (sz : Nat) : k_Mi (S := SCT) l D yL_reading cL_reading 10 (some .boolean) 6 0 0 145 [.ref (a 0)] ((WW a K KS st hs sc)) [(K, .int), (KS, .object "BarcodeWand$State")] (fun (r : Int32) (sc1 : SCT) => r = 1) (fun sc1 => ((WW a K KS st hs sc1))) (fun sc1 => []) sz := by
  refine Met.ofW (cc := cL_reading) (maxL := 10) (ret := (some .boolean)) (by decide) rfl ?_
  intro p e s m args below meth c s₁ B hml hv
  obtain ⟨rfl, hsz, hP, hK, hD0, hG⟩ := hv
  have hx := B.exec
  have hb := B.bytes
  have hr := B.returns
  have ht : ∀ v9 ∈ wsA, v9.before ([.ref (a 0)] : List Value).toArray s = true := fun v9 h9 => atoms_spec (ws := k_ws yL_reading cL_reading 10 (some .boolean)) B.pre v9 (List.mem_cons_of_mem _ h9)
  have hown : s.vm.findClass RL = some m.cls := findClass_of_methodNamed B.named
  have S0 : k_C p s m ([.ref (a 0)] : List Value).toArray c cL_reading 10 RL := ⟨hx, hb, hml, hown, ht⟩
  have hlocks := B.notSynchronized
  subst hsz
  have hD := hD0.self (sz := s.heap.size)
  generalize hAe : va_A ((WW a K KS st hs sc)) s.heap.size = A at hD hG ⊢
  have hA : ∀ q : Nat, s.heap.size ≤ q → A q := fun q h => by rw [← hAe]; exact Or.inr h
  have hS : va_S A s.heap s.heap [] := va_S.rf
  have hl := lv_entry ([.ref (a 0)]) (n := 10) (Nat.le_of_ble_eq_true rfl)
  rw [lg_entry_eq]
  generalize (lg_sl ([.ref (a 0)]) ++ List.replicate (10 - (lg_sl ([.ref (a 0)])).length) Slot.unset).toArray = ls at hl ⊢
  have hl : lv_has ls 10 [(0, .ref (a 0))] := hl
  have hP : va_P D vwCl ((WW a K KS st hs sc)) s.heap := hP
  obtain ⟨hb1, hb2, hb3, hb4⟩ := bST_le hbst
  refine lv_aload_n hx hb dL_reading_0 rfl (lv_at hl 0 rfl) ?_
  have ct := k_cut_TT (wp := []) (T := (WW a K KS st hs sc)) (wc := []) (wr := []) (tc := [(K, .int), (KS, .object "BarcodeWand$State")]) hG hS hA hK hP hD [] [] [0, 1] rfl rfl (by decide) (by decide) (by decide) rfl
  refine k_endi (As := [.ref (a 0)]) ct (k_runV (As := []) (rest := []) S0 Lv_L_103 rfl (ci := 7) (q0 := 0) rfl (WW_0 a K KS st hs sc) ct (c_B_result l D a K KS st hs sc (by assumption) s.heap.size) hl.1 rfl (Nat.le_of_ble_eq_true rfl) rfl dL_reading_1 ⟨⟨Nat.le_of_ble_eq_true rfl, Nat.le_of_ble_eq_true rfl⟩, Nat.le_of_ble_eq_true rfl, Nat.le_of_ble_eq_true rfl⟩) rfl rfl (fun r_1 sc1v_2 H locs hw_3 hP hD hK hS => ?_)
  have hK : va_K D vwCl [(K, .int), (KS, .object "BarcodeWand$State")] s := hK
  have hP : va_P D vwCl ((WW a K KS st hs sc1v_2)) H := hP
  have hD : va_D A ((WW a K KS st hs sc1v_2)) := hD
  have hw_3 : r_1 = resF (s_tn st) (s_tf st) (s_tol st) := hw_3
  have hw_3 := hw_3.symm
  subst hw_3
  refine k_nrm (y := resF (s_tn st) (s_tf st) (s_tol st)) rfl ?_
  refine lv_istore_n (lv' := [(1, .int (resF (s_tn st) (s_tf st) (s_tol st))), (0, .ref (a 0))]) hx hb dL_reading_4 rfl hl (by decide) rfl (fun ls hl => ?_)
  refine lv_aload_n hx hb dL_reading_5 rfl (lv_at hl 1 rfl) ?_
  refine lv_iconst (v := 0) hx hb dL_reading_6 (by decide) ?_
  have ct := k_cut_TT (wp := []) (T := (WW a K KS st hs sc1v_2)) (wc := []) (wr := []) (tc := [(K, .int), (KS, .object "BarcodeWand$State")]) hG hS hA hK hP hD [] [] [0, 1] rfl rfl (by decide) (by decide) (by decide) rfl
  refine k_endi (As := [.ref (a 0), .int 0]) ct (k_runV (As := [.int 0]) (rest := []) S0 Lv_L_106 rfl (ci := 7) (q0 := 0) rfl (WW_0 a K KS st hs sc1v_2) ct (c_B_reason l D a K KS st hs sc1v_2 0 (by assumption) H.size) hl.1 rfl (Nat.le_of_ble_eq_true rfl) rfl dL_reading_7 ⟨⟨Nat.le_of_ble_eq_true rfl, Nat.le_of_ble_eq_true rfl⟩, Nat.le_of_ble_eq_true rfl, Nat.le_of_ble_eq_true rfl⟩) rfl rfl (fun r_4 sc1v_5 H locs hw_6 hP hD hK hS => ?_)
  have hK : va_K D vwCl [(K, .int), (KS, .object "BarcodeWand$State")] s := hK
  have hP : va_P D vwCl ((WW a K KS st hs sc1v_5)) H := hP
  have hD : va_D A ((WW a K KS st hs sc1v_5)) := hD
  have hw_6 : r_4 = failF (s_tn st) (lnF (s_tn st) (s_tf st) 0) (s_tol st) := hw_6
  have hw_6 := hw_6.symm
  subst hw_6
  refine k_nrm (y := failF (s_tn st) (lnF (s_tn st) (s_tf st) 0) (s_tol st)) rfl ?_
  refine lv_istore_n (lv' := [(2, .int (failF (s_tn st) (lnF (s_tn st) (s_tf st) 0) (s_tol st))), (1, .int (resF (s_tn st) (s_tf st) (s_tol st))), (0, .ref (a 0))]) hx hb dL_reading_10 rfl hl (by decide) rfl (fun ls hl => ?_)
  refine lv_aload_n hx hb dL_reading_11 rfl (lv_at hl 2 rfl) ?_
  refine lv_iconst (v := 1) hx hb dL_reading_12 (by decide) ?_
  have ct := k_cut_TT (wp := []) (T := (WW a K KS st hs sc1v_5)) (wc := []) (wr := []) (tc := [(K, .int), (KS, .object "BarcodeWand$State")]) hG hS hA hK hP hD [] [] [0, 1] rfl rfl (by decide) (by decide) (by decide) rfl
  refine k_endi (As := [.ref (a 0), .int 1]) ct (k_runV (As := [.int 1]) (rest := []) S0 Lv_L_106 rfl (ci := 7) (q0 := 0) rfl (WW_0 a K KS st hs sc1v_5) ct (c_B_reason l D a K KS st hs sc1v_5 1 (by assumption) H.size) hl.1 rfl (Nat.le_of_ble_eq_true rfl) rfl dL_reading_13 ⟨⟨Nat.le_of_ble_eq_true rfl, Nat.le_of_ble_eq_true rfl⟩, Nat.le_of_ble_eq_true rfl, Nat.le_of_ble_eq_true rfl⟩) rfl rfl (fun r_7 sc1v_8 H locs hw_9 hP hD hK hS => ?_)
  have hK : va_K D vwCl [(K, .int), (KS, .object "BarcodeWand$State")] s := hK
  have hP : va_P D vwCl ((WW a K KS st hs sc1v_8)) H := hP
  have hD : va_D A ((WW a K KS st hs sc1v_8)) := hD
  have hw_9 : r_7 = failF (s_tn st) (lnF (s_tn st) (s_tf st) 1) (s_tol st) := hw_9
  have hw_9 := hw_9.symm
  subst hw_9
  refine k_nrm (y := failF (s_tn st) (lnF (s_tn st) (s_tf st) 1) (s_tol st)) rfl ?_
  refine lv_istore_n (lv' := [(3, .int (failF (s_tn st) (lnF (s_tn st) (s_tf st) 1) (s_tol st))), (2, .int (failF (s_tn st) (lnF (s_tn st) (s_tf st) 0) (s_tol st))), (1, .int (resF (s_tn st) (s_tf st) (s_tol st))), (0, .ref (a 0))]) hx hb dL_reading_16 rfl hl (by decide) rfl (fun ls hl => ?_)
  refine lv_aload_n hx hb dL_reading_17 rfl (lv_at hl 3 rfl) ?_
  have ct := k_cut_TT (wp := []) (T := (WW a K KS st hs sc1v_8)) (wc := []) (wr := []) (tc := [(K, .int), (KS, .object "BarcodeWand$State")]) hG hS hA hK hP hD [] [] [0, 1] rfl rfl (by decide) (by decide) (by decide) rfl
  refine k_endi (As := [.ref (a 0)]) ct (k_runV (As := []) (rest := []) S0 Lv_L_110 rfl (ci := 7) (q0 := 0) rfl (WW_0 a K KS st hs sc1v_8) ct (c_B_least l D a K KS st hs sc1v_8 (by assumption) H.size) hl.1 rfl (Nat.le_of_ble_eq_true rfl) rfl dL_reading_18 ⟨⟨Nat.le_of_ble_eq_true rfl, Nat.le_of_ble_eq_true rfl⟩, Nat.le_of_ble_eq_true rfl, Nat.le_of_ble_eq_true rfl⟩) rfl rfl (fun r_10 sc1v_11 H locs hw_12 hP hD hK hS => ?_)
  have hK : va_K D vwCl [(K, .int), (KS, .object "BarcodeWand$State")] s := hK
  have hP : va_P D vwCl ((WW a K KS st hs sc1v_11)) H := hP
  have hD : va_D A ((WW a K KS st hs sc1v_11)) := hD
  have hw_12 : r_10 = leaF (s_tn st) (s_tf st) := hw_12
  have hw_12 := hw_12.symm
  subst hw_12
  refine k_nrm (y := leaF (s_tn st) (s_tf st)) rfl ?_
  refine lv_istore (lv' := [(4, .int (leaF (s_tn st) (s_tf st))), (3, .int (failF (s_tn st) (lnF (s_tn st) (s_tf st) 1) (s_tol st))), (2, .int (failF (s_tn st) (lnF (s_tn st) (s_tf st) 0) (s_tol st))), (1, .int (resF (s_tn st) (s_tf st) (s_tol st))), (0, .ref (a 0))]) hx hb dL_reading_21 hl (by decide) rfl (fun ls hl => ?_)
  refine lv_aload_n hx hb dL_reading_23 rfl (lv_at hl 4 rfl) ?_
  have ct := k_cut_TT (wp := []) (T := (WW a K KS st hs sc1v_11)) (wc := []) (wr := []) (tc := [(K, .int), (KS, .object "BarcodeWand$State")]) hG hS hA hK hP hD [] [] [0, 1] rfl rfl (by decide) (by decide) (by decide) rfl
  refine k_endi (As := [.ref (a 0)]) ct (k_runV (As := []) (rest := []) S0 Lv_L_113 rfl (ci := 7) (q0 := 0) rfl (WW_0 a K KS st hs sc1v_11) ct (c_B_times l D a K KS st hs sc1v_11 H.size) hl.1 rfl (Nat.le_of_ble_eq_true rfl) rfl dL_reading_24 ⟨⟨Nat.le_of_ble_eq_true rfl, Nat.le_of_ble_eq_true rfl⟩, Nat.le_of_ble_eq_true rfl, Nat.le_of_ble_eq_true rfl⟩) rfl rfl (fun r_13 _ H locs hw_14 hP hD hK hS => ?_)
  have hK : va_K D vwCl [(K, .int), (KS, .object "BarcodeWand$State")] s := hK
  have hP : va_P D vwCl ((WW a K KS st hs sc1v_11)) H := hP
  have hD : va_D A ((WW a K KS st hs sc1v_11)) := hD
  have hw_14 : r_13 = (nI (s_tn st)) := hw_14
  have hw_14 := hw_14.symm
  subst hw_14
  refine k_nrm (y := (nI (s_tn st))) rfl ?_
  refine lv_iconst (v := 5) hx hb dL_reading_27 (by decide) ?_
  refine lv_isub hx hb dL_reading_28 ?_
  refine k_nrm (y := (nI (s_tn st) - 5)) (rfl) ?_
  refine lv_iconst (v := 4) hx hb dL_reading_29 (by decide) ?_
  refine lv_idiv hx hb dL_reading_30 (by decide) ?_
  refine k_nrm (y := ((nI (s_tn st) - 5) / 4)) (rfl) ?_
  refine lv_istore (lv' := [(5, .int ((nI (s_tn st) - 5) / 4)), (4, .int (leaF (s_tn st) (s_tf st))), (3, .int (failF (s_tn st) (lnF (s_tn st) (s_tf st) 1) (s_tol st))), (2, .int (failF (s_tn st) (lnF (s_tn st) (s_tf st) 0) (s_tol st))), (1, .int (resF (s_tn st) (s_tf st) (s_tol st))), (0, .ref (a 0))]) hx hb dL_reading_31 hl (by decide) rfl (fun ls hl => ?_)
  rcases res_all (s_tn st) (s_tf st) (s_tol st) with ⟨hd0, ha, hb9, hq⟩ | ⟨hd0, ha, hb9, hq⟩ | ⟨hd0, ha, ha1, hb9, hq⟩ | ⟨hd0, ha, ha1, hb9, hb1, hq⟩
  · skip
    have hres := res_in (s_tn st) (s_tf st) (s_tol st)
    have hlea := lea_rng (s_tn st) (s_tf st)
    have he9 : resF (s_tn st) (s_tf st) (s_tol st) = 1 := hq
    rw [he9] at hl
    have hl : lv_has ls 10 [(5, .int ((nI (s_tn st) - 5) / 4)), (4, .int (leaF (s_tn st) (s_tf st))), (3, .int (failF (s_tn st) (lnF (s_tn st) (s_tf st) 1) (s_tol st))), (2, .int (failF (s_tn st) (lnF (s_tn st) (s_tf st) 0) (s_tol st))), (1, .int 1), (0, .ref (a 0))] := hl
    have he9 : failF (s_tn st) (lnF (s_tn st) (s_tf st) 0) (s_tol st) = 1 := ha
    rw [he9] at hl
    have hl : lv_has ls 10 [(5, .int ((nI (s_tn st) - 5) / 4)), (4, .int (leaF (s_tn st) (s_tf st))), (3, .int (failF (s_tn st) (lnF (s_tn st) (s_tf st) 1) (s_tol st))), (2, .int 1), (1, .int 1), (0, .ref (a 0))] := hl
    have he9 : failF (s_tn st) (lnF (s_tn st) (s_tf st) 1) (s_tol st) = 1 := hb9
    rw [he9] at hl
    have hl : lv_has ls 10 [(5, .int ((nI (s_tn st) - 5) / 4)), (4, .int (leaF (s_tn st) (s_tf st))), (3, .int 1), (2, .int 1), (1, .int 1), (0, .ref (a 0))] := hl
    obtain ⟨xn, hxn⟩ : ∃ z9 : Int32, z9 = (nI (s_tn st) - 5) / 4 := ⟨_, rfl⟩
    have he9 : ((nI (s_tn st) - 5) / 4) = xn := hxn.symm
    rw [he9] at hl
    have hl : lv_has ls 10 [(5, .int xn), (4, .int (leaF (s_tn st) (s_tf st))), (3, .int 1), (2, .int 1), (1, .int 1), (0, .ref (a 0))] := hl
    refine lv_iload_n hx hb dL_reading_33 rfl (lv_at hl 4 rfl) ?_
    refine lv_iload_n hx hb dL_reading_34 rfl (lv_at hl 3 rfl) ?_
    refine lv_if_ne (tgt := 42) hx hb dL_reading_35 (by decide) (fun _ => ?_) (fun c9 => absurd c9 (by decide))
    refine lv_iload_n hx hb dL_reading_42 rfl (lv_at hl 2 rfl) ?_
    refine lv_if_ne (tgt := 50) hx hb dL_reading_43 (by decide) (fun _ => ?_) (fun c9 => absurd c9 (by decide))
    refine lv_iload_n hx hb dL_reading_50 rfl (lv_at hl 3 rfl) ?_
    refine lv_iload_n hx hb dL_reading_51 rfl (lv_at hl 2 rfl) ?_
    refine lv_icmp_le (tgt := 59) hx hb dL_reading_52 (by decide) (fun _ => ?_) (fun c9 => absurd (by decide) c9)
    refine lv_iload_n hx hb dL_reading_59 rfl (lv_at hl 2 rfl) ?_
    refine lv_icmp_ne (tgt := 148) hx hb dL_reading_60 (by decide) (fun c9 => absurd (by decide) c9) (fun _ => ?_)
    refine lv_iload_n hx hb dL_reading_63 rfl (lv_at hl 3 rfl) ?_
    refine lv_iconst (v := 1) hx hb dL_reading_64 (by decide) ?_
    refine lv_icmp_ne (tgt := 72) hx hb dL_reading_65 (by decide) (fun c9 => absurd (by decide) c9) (fun _ => ?_)
    refine lv_iconst (v := 1) hx hb dL_reading_68 (by decide) ?_
    refine lv_goto (tgt := 73) hx hb dL_reading_69 (by decide) ?_
    refine lv_iload_n hx hb dL_reading_73 rfl (lv_at hl 2 rfl) ?_
    refine lv_iconst (v := 1) hx hb dL_reading_74 (by decide) ?_
    refine lv_icmp_ne (tgt := 82) hx hb dL_reading_75 (by decide) (fun c9 => absurd (by decide) c9) (fun _ => ?_)
    refine lv_iconst (v := 1) hx hb dL_reading_78 (by decide) ?_
    refine lv_goto (tgt := 83) hx hb dL_reading_79 (by decide) ?_
    refine lv_icmp_ne (tgt := 148) hx hb dL_reading_83 (by decide) (fun c9 => absurd (by decide) c9) (fun _ => ?_)
    refine lv_iload_n hx hb dL_reading_86 rfl (lv_at hl 3 rfl) ?_
    refine lv_iconst (v := 1) hx hb dL_reading_87 (by decide) ?_
    refine lv_icmp_ne (tgt := 95) hx hb dL_reading_88 (by decide) (fun c9 => absurd (by decide) c9) (fun _ => ?_)
    refine lv_iconst (v := 1) hx hb dL_reading_91 (by decide) ?_
    refine lv_goto (tgt := 96) hx hb dL_reading_92 (by decide) ?_
    refine lv_aload_n hx hb dL_reading_96 rfl (lv_at hl 5 rfl) ?_
    have ct := k_cut_TT (wp := []) (T := (WW a K KS st hs sc1v_11)) (wc := []) (wr := []) (tc := [(K, .int), (KS, .object "BarcodeWand$State")]) hG hS hA hK hP hD [] [] [0, 1] rfl rfl (by decide) (by decide) (by decide) rfl
    refine k_endi (As := [.ref (a 0)]) ct (k_runV (As := []) (rest := [.int 1]) S0 Lv_L_113 rfl (ci := 7) (q0 := 0) rfl (WW_0 a K KS st hs sc1v_11) ct (c_B_times l D a K KS st hs sc1v_11 H.size) hl.1 rfl (Nat.le_of_ble_eq_true rfl) rfl dL_reading_97 ⟨⟨Nat.le_of_ble_eq_true rfl, Nat.le_of_ble_eq_true rfl⟩, Nat.le_of_ble_eq_true rfl, Nat.le_of_ble_eq_true rfl⟩) rfl rfl (fun r_15 _ H locs hw_16 hP hD hK hS => ?_)
    have hK : va_K D vwCl [(K, .int), (KS, .object "BarcodeWand$State")] s := hK
    have hP : va_P D vwCl ((WW a K KS st hs sc1v_11)) H := hP
    have hD : va_D A ((WW a K KS st hs sc1v_11)) := hD
    have hw_16 : r_15 = (nI (s_tn st)) := hw_16
    have hw_16 := hw_16.symm
    subst hw_16
    refine k_nrm (y := (nI (s_tn st))) rfl ?_
    refine lv_bipush (v := 13) hx hb dL_reading_100 (by decide) ?_
    refine lv_icmp_lt (tgt := 115) hx hb dL_reading_102 (by decide) (fun c_17 => ?_) (fun c_17 => ?_)
    · have hc9 := c_17
      refine lv_iconst (v := 1) hx hb dL_reading_115 (by decide) ?_
      refine lv_goto (tgt := 120) hx hb dL_reading_116 (by decide) ?_
      refine lv_icmp_ne (tgt := 148) hx hb dL_reading_120 (by decide) (fun c9 => absurd (by decide) c9) (fun _ => ?_)
      refine lv_iload_n hx hb dL_reading_123 rfl (lv_at hl 4 rfl) ?_
      refine lv_if_gt (tgt := 132) hx hb dL_reading_124 (by decide) (fun _ => ?_) (fun c9 => absurd (by decide) c9)
      refine lv_iload hx hb dL_reading_132 (lv_at hl 1 rfl) ?_
      refine lv_if_eq (tgt := 148) hx hb dL_reading_134 (by decide) (fun c9 => absurd c9 hlea.1) (fun c_18 => ?_)
      refine lv_iload hx hb dL_reading_137 (lv_at hl 1 rfl) ?_
      refine lv_bipush (v := 9) hx hb dL_reading_139 (by decide) ?_
      refine lv_icmp_ge (tgt := 148) hx hb dL_reading_141 (by decide) (fun c9 => absurd c9 hlea.2) (fun c_19 => ?_)
      refine lv_iconst (v := 1) hx hb dL_reading_144 (by decide) ?_
      refine lv_goto (tgt := 149) hx hb dL_reading_145 (by decide) ?_
      refine lv_istore (lv' := [(6, .int 1), (5, .int xn), (4, .int (leaF (s_tn st) (s_tf st))), (3, .int 1), (2, .int 1), (1, .int 1), (0, .ref (a 0))]) hx hb dL_reading_149 hl (by decide) rfl (fun ls hl => ?_)
      refine lv_iconst (v := 0) hx hb dL_reading_151 (by decide) ?_
      refine lv_istore (lv' := [(7, .int 0), (6, .int 1), (5, .int xn), (4, .int (leaF (s_tn st) (s_tf st))), (3, .int 1), (2, .int 1), (1, .int 1), (0, .ref (a 0))]) hx hb dL_reading_152 hl (by decide) rfl (fun ls hl => ?_)
      refine lv_iconst (v := 0) hx hb dL_reading_154 (by decide) ?_
      refine lv_istore (lv' := [(8, .int 0), (7, .int 0), (6, .int 1), (5, .int xn), (4, .int (leaF (s_tn st) (s_tf st))), (3, .int 1), (2, .int 1), (1, .int 1), (0, .ref (a 0))]) hx hb dL_reading_155 hl (by decide) rfl (fun ls hl => ?_)
      have hl : lv_has ls 10 [(8, .int (nI 0)), (7, .int 0), (6, .int 1), (5, .int xn), (4, .int (leaF (s_tn st) (s_tf st))), (3, .int 1), (2, .int 1), (1, .int 1), (0, .ref (a 0))] := hl
      refine k_loop (ι := Nat × SCT) (fun (x9 : Nat × SCT) H9 locs9 ls9 => match x9 with | (i, z) => (i ≤ 9) ∧ va_P D vwCl ((WW a K KS st hs z)) H9 ∧ va_D A ((WW a K KS st hs z)) ∧ va_S A s.heap H9 locs9 ∧ lv_has ls9 10 [(8, .int (nI i)), (7, .int 0), (6, .int 1), (5, .int xn), (1, .int 1), (0, .ref (a 0))]) (fun (x9 : Nat × SCT) => match x9 with | (i, z) => 9 - i) ?_ ((0, sc1v_11)) ⟨(Nat.zero_le _), k_subP (wp := []) (wp' := []) (T := (WW a K KS st hs sc1v_11)) hP [] rfl, k_subD (wp := []) (wp' := []) (T := (WW a K KS st hs sc1v_11)) hD [] (by decide) rfl, hS, lv_sub hl [0, 1, 2, 3, 7, 8] rfl⟩
      intro x9 H locs ls hF9 ih9
      obtain ⟨i, z⟩ := x9
      obtain ⟨hi, hP, hD, hS, hl⟩ := hF9
      try dsimp only at ih9
      have hP : va_P D vwCl ((WW a K KS st hs z)) H := hP
      have hD : va_D A ((WW a K KS st hs z)) := hD
      have hl : lv_has ls 10 [(8, .int (nI i)), (7, .int 0), (6, .int 1), (5, .int xn), (1, .int 1), (0, .ref (a 0))] := hl
      refine lv_iload hx hb dL_reading_157 (lv_at hl 0 rfl) ?_
      refine lv_bipush (v := 9) hx hb dL_reading_159 (by decide) ?_
      refine lv_icmp_ge (tgt := 279) hx hb dL_reading_161 (by decide) (fun c_20 => ?_) (fun c_20 => ?_)
      · have hc9 := c_20
        obtain rfl : 9 = i := by rcases Nat.lt_or_ge i 9 with q9 | q9; exact absurd c_20 (nI_ge (b := 9) q9 (by decide)); omega
        refine lv_iload hx hb dL_reading_279 (lv_at hl 2 rfl) ?_
        refine lv_if_eq (tgt := 300) hx hb dL_reading_281 (by decide) (fun c9 => absurd c9 (by decide)) (fun _ => ?_)
        refine lv_iload_n hx hb dL_reading_284 rfl (lv_at hl 4 rfl) ?_
        refine lv_if_gt (tgt := 296) hx hb dL_reading_285 (by decide) (fun _ => ?_) (fun c9 => absurd (by decide) c9)
        refine lv_iconst (v := 1) hx hb dL_reading_296 (by decide) ?_
        refine lv_goto (tgt := 301) hx hb dL_reading_297 (by decide) ?_
        have hP9 : va_P D vwCl ((WW a K KS st hs z)) H := k_subP (wp := []) (wp' := []) (T := (WW a K KS st hs z)) hP [] rfl
        have hD9 : va_D A ((WW a K KS st hs z)) := k_subD (wp := []) (wp' := []) (T := (WW a K KS st hs z)) hD [] (by decide) rfl
        have hP9 : va_P D vwCl ((WW a K KS st hs z)) H := hP9
        have hD9 : va_D A ((WW a K KS st hs z)) := hD9
        have hK9 : va_K D vwCl [] s := hK.sub [] rfl
        exact W.zret (v := 1) hx hb hr (rfl) (fun t ht9 hW9 => ⟨⟨1, z, rfl, by first | rfl | trivial | (simp only [c_17, c_18, c_19, hi, c_20, if_true, if_false, reduceIte, and_self]; done) | simp_all, ⟨by rw [ht9]; exact hP9, va_K.moved hW9.alike hK9, hD9⟩⟩, hS.F ht9⟩) hS.2.2 dL_reading_301
      · have hc9 := c_20
        have hik : i + 1 ≤ 9 := by rcases Nat.lt_or_ge i 9 with q9 | q9; exact q9; exact absurd (nI_le (a := 9) q9 (by omega)) c_20
        refine lv_iload hx hb dL_reading_164 (lv_at hl 2 rfl) ?_
        refine lv_if_eq (tgt := 279) hx hb dL_reading_166 (by decide) (fun c9 => absurd c9 (by decide)) (fun _ => ?_)
        refine lv_aload_n hx hb dL_reading_169 rfl (lv_at hl 5 rfl) ?_
        refine lv_iload hx hb dL_reading_170 (lv_at hl 0 rfl) ?_
        have ct := k_cut_TT (wp := []) (T := (WW a K KS st hs z)) (wc := []) (wr := []) (tc := [(K, .int), (KS, .object "BarcodeWand$State")]) hG hS hA hK hP hD [] [] [0, 1] rfl rfl (by decide) (by decide) (by decide) rfl
        refine k_endi (As := [.ref (a 0), .int (nI i)]) ct (k_runSW (As := [.ref (a 0), .int (nI i)]) (rest := []) S0 Ls_L_116 ct (c_L_digit l D a K KS st hs z i (by assumption) (by omega) H.size) hl.1 rfl (Nat.le_of_ble_eq_true rfl) rfl dL_reading_172 ⟨⟨Nat.le_of_ble_eq_true rfl, Nat.le_of_ble_eq_true rfl⟩, Nat.le_of_ble_eq_true rfl, Nat.le_of_ble_eq_true rfl⟩) rfl rfl (fun r_21 sc1v_22 H locs hw_23 hP hD hK hS => ?_)
        have hK : va_K D vwCl [(K, .int), (KS, .object "BarcodeWand$State")] s := hK
        have hP : va_P D vwCl ((WW a K KS st hs sc1v_22)) H := hP
        have hD : va_D A ((WW a K KS st hs sc1v_22)) := hD
        have hw_23 : r_21 = digR (s_tn st) (s_tf st) (s_tol st) i := hw_23
        have hw_23 := hw_23.symm
        subst hw_23
        refine k_nrm (y := digR (s_tn st) (s_tf st) (s_tol st) i) rfl ?_
        refine k_nrm (y := (-1)) (digR_no (by rw [hq]; decide)) ?_
        refine lv_istore (lv' := [(9, .int (-1)), (8, .int (nI i)), (7, .int 0), (6, .int 1), (5, .int xn), (1, .int 1), (0, .ref (a 0))]) hx hb dL_reading_175 hl (by decide) rfl (fun ls hl => ?_)
        refine lv_iload_n hx hb dL_reading_177 rfl (lv_at hl 5 rfl) ?_
        refine lv_if_gt (tgt := 188) hx hb dL_reading_178 (by decide) (fun _ => ?_) (fun c9 => absurd (by decide) c9)
        refine lv_iload hx hb dL_reading_188 (lv_at hl 0 rfl) ?_
        refine lv_iconst (v := (-1)) hx hb dL_reading_190 (by decide) ?_
        refine lv_icmp_ne (tgt := 198) hx hb dL_reading_191 (by decide) (fun c9 => absurd (by decide) c9) (fun _ => ?_)
        refine lv_iconst (v := 1) hx hb dL_reading_194 (by decide) ?_
        refine lv_goto (tgt := 238) hx hb dL_reading_195 (by decide) ?_
        refine lv_istore (lv' := [(6, .int 1), (9, .int (-1)), (8, .int (nI i)), (7, .int 0), (5, .int xn), (1, .int 1), (0, .ref (a 0))]) hx hb dL_reading_238 hl (by decide) rfl (fun ls hl => ?_)
        refine lv_iload hx hb dL_reading_240 (lv_at hl 3 rfl) ?_
        refine lv_iload hx hb dL_reading_242 (lv_at hl 1 rfl) ?_
        refine lv_if_ge (tgt := 251) hx hb dL_reading_244 (by decide) (fun c9 => absurd c9 (by decide)) (fun _ => ?_)
        refine lv_iconst (v := 0) hx hb dL_reading_247 (by decide) ?_
        refine lv_goto (tgt := 270) hx hb dL_reading_248 (by decide) ?_
        refine lv_iadd hx hb dL_reading_270 ?_
        refine k_nrm (y := 0) (by decide) ?_
        refine lv_istore (lv' := [(7, .int 0), (6, .int 1), (9, .int (-1)), (8, .int (nI i)), (5, .int xn), (1, .int 1), (0, .ref (a 0))]) hx hb dL_reading_271 hl (by decide) rfl (fun ls hl => ?_)
        obtain ⟨x_24, ex_24⟩ : ∃ z : Int32, z = (nI i) + 1 := ⟨_, rfl⟩
        refine lv_iinc (v := x_24) (lv' := [(8, .int x_24), (7, .int 0), (6, .int 1), (9, .int (-1)), (5, .int xn), (1, .int 1), (0, .ref (a 0))]) hx hb dL_reading_273 hl (k := 3) rfl (by rw [ex_24]; rfl) (by decide) rfl (fun ls hl => ?_)
        refine lv_goto (tgt := 157) hx hb dL_reading_276 (by decide) ?_
        have he9 : x_24 = (nI (i + 1)) := by rw [ex_24]; exact nI_1 i
        rw [he9] at hl
        have hl : lv_has ls 10 [(8, .int (nI (i + 1))), (7, .int 0), (6, .int 1), (9, .int (-1)), (5, .int xn), (1, .int 1), (0, .ref (a 0))] := hl
        exact ih9 ((i + 1, sc1v_22)) H locs ls (by omega) ⟨hik, k_subP (wp := []) (wp' := []) (T := (WW a K KS st hs sc1v_22)) hP [] rfl, k_subD (wp := []) (wp' := []) (T := (WW a K KS st hs sc1v_22)) hD [] (by decide) rfl, hS, lv_sub hl [0, 1, 2, 4, 5, 6] rfl⟩
    · have hc9 := c_17
      refine lv_aload_n hx hb dL_reading_105 rfl (lv_at hl 5 rfl) ?_
      have ct := k_cut_TT (wp := []) (T := (WW a K KS st hs sc1v_11)) (wc := []) (wr := []) (tc := [(K, .int), (KS, .object "BarcodeWand$State")]) hG hS hA hK hP hD [] [] [0, 1] rfl rfl (by decide) (by decide) (by decide) rfl
      refine k_endi (As := [.ref (a 0)]) ct (k_runV (As := []) (rest := [.int 1]) S0 Lv_L_113 rfl (ci := 7) (q0 := 0) rfl (WW_0 a K KS st hs sc1v_11) ct (c_B_times l D a K KS st hs sc1v_11 H.size) hl.1 rfl (Nat.le_of_ble_eq_true rfl) rfl dL_reading_106 ⟨⟨Nat.le_of_ble_eq_true rfl, Nat.le_of_ble_eq_true rfl⟩, Nat.le_of_ble_eq_true rfl, Nat.le_of_ble_eq_true rfl⟩) rfl rfl (fun r_25 _ H locs hw_26 hP hD hK hS => ?_)
      have hK : va_K D vwCl [(K, .int), (KS, .object "BarcodeWand$State")] s := hK
      have hP : va_P D vwCl ((WW a K KS st hs sc1v_11)) H := hP
      have hD : va_D A ((WW a K KS st hs sc1v_11)) := hD
      have hw_26 : r_25 = (nI (s_tn st)) := hw_26
      have hw_26 := hw_26.symm
      subst hw_26
      refine k_nrm (y := (nI (s_tn st))) rfl ?_
      refine lv_iconst (v := 4) hx hb dL_reading_109 (by decide) ?_
      refine lv_irem hx hb dL_reading_110 (by decide) ?_
      refine k_nrm (y := (nI (s_tn st % 4))) (pk_rem (d := 4) (by omega) (by decide) (by decide)) ?_
      refine lv_iconst (v := 1) hx hb dL_reading_111 (by decide) ?_
      refine lv_icmp_eq (tgt := 119) hx hb dL_reading_112 (by decide) (fun c9 => absurd c9 (rd_no hd0 hb3 (n13 c_17 hb3))) (fun c_27 => ?_)
      refine lv_iconst (v := 1) hx hb dL_reading_115 (by decide) ?_
      refine lv_goto (tgt := 120) hx hb dL_reading_116 (by decide) ?_
      refine lv_icmp_ne (tgt := 148) hx hb dL_reading_120 (by decide) (fun c9 => absurd (by decide) c9) (fun _ => ?_)
      refine lv_iload_n hx hb dL_reading_123 rfl (lv_at hl 4 rfl) ?_
      refine lv_if_gt (tgt := 132) hx hb dL_reading_124 (by decide) (fun _ => ?_) (fun c9 => absurd (by decide) c9)
      refine lv_iload hx hb dL_reading_132 (lv_at hl 1 rfl) ?_
      refine lv_if_eq (tgt := 148) hx hb dL_reading_134 (by decide) (fun c9 => absurd c9 hlea.1) (fun c_28 => ?_)
      refine lv_iload hx hb dL_reading_137 (lv_at hl 1 rfl) ?_
      refine lv_bipush (v := 9) hx hb dL_reading_139 (by decide) ?_
      refine lv_icmp_ge (tgt := 148) hx hb dL_reading_141 (by decide) (fun c9 => absurd c9 hlea.2) (fun c_29 => ?_)
      refine lv_iconst (v := 1) hx hb dL_reading_144 (by decide) ?_
      refine lv_goto (tgt := 149) hx hb dL_reading_145 (by decide) ?_
      refine lv_istore (lv' := [(6, .int 1), (5, .int xn), (4, .int (leaF (s_tn st) (s_tf st))), (3, .int 1), (2, .int 1), (1, .int 1), (0, .ref (a 0))]) hx hb dL_reading_149 hl (by decide) rfl (fun ls hl => ?_)
      refine lv_iconst (v := 0) hx hb dL_reading_151 (by decide) ?_
      refine lv_istore (lv' := [(7, .int 0), (6, .int 1), (5, .int xn), (4, .int (leaF (s_tn st) (s_tf st))), (3, .int 1), (2, .int 1), (1, .int 1), (0, .ref (a 0))]) hx hb dL_reading_152 hl (by decide) rfl (fun ls hl => ?_)
      refine lv_iconst (v := 0) hx hb dL_reading_154 (by decide) ?_
      refine lv_istore (lv' := [(8, .int 0), (7, .int 0), (6, .int 1), (5, .int xn), (4, .int (leaF (s_tn st) (s_tf st))), (3, .int 1), (2, .int 1), (1, .int 1), (0, .ref (a 0))]) hx hb dL_reading_155 hl (by decide) rfl (fun ls hl => ?_)
      have hl : lv_has ls 10 [(8, .int (nI 0)), (7, .int 0), (6, .int 1), (5, .int xn), (4, .int (leaF (s_tn st) (s_tf st))), (3, .int 1), (2, .int 1), (1, .int 1), (0, .ref (a 0))] := hl
      refine k_loop (ι := Nat × SCT) (fun (x9 : Nat × SCT) H9 locs9 ls9 => match x9 with | (i, z) => (i ≤ 9) ∧ va_P D vwCl ((WW a K KS st hs z)) H9 ∧ va_D A ((WW a K KS st hs z)) ∧ va_S A s.heap H9 locs9 ∧ lv_has ls9 10 [(8, .int (nI i)), (7, .int 0), (6, .int 1), (5, .int xn), (1, .int 1), (0, .ref (a 0))]) (fun (x9 : Nat × SCT) => match x9 with | (i, z) => 9 - i) ?_ ((0, sc1v_11)) ⟨(Nat.zero_le _), k_subP (wp := []) (wp' := []) (T := (WW a K KS st hs sc1v_11)) hP [] rfl, k_subD (wp := []) (wp' := []) (T := (WW a K KS st hs sc1v_11)) hD [] (by decide) rfl, hS, lv_sub hl [0, 1, 2, 3, 7, 8] rfl⟩
      intro x9 H locs ls hF9 ih9
      obtain ⟨i, z⟩ := x9
      obtain ⟨hi, hP, hD, hS, hl⟩ := hF9
      try dsimp only at ih9
      have hP : va_P D vwCl ((WW a K KS st hs z)) H := hP
      have hD : va_D A ((WW a K KS st hs z)) := hD
      have hl : lv_has ls 10 [(8, .int (nI i)), (7, .int 0), (6, .int 1), (5, .int xn), (1, .int 1), (0, .ref (a 0))] := hl
      refine lv_iload hx hb dL_reading_157 (lv_at hl 0 rfl) ?_
      refine lv_bipush (v := 9) hx hb dL_reading_159 (by decide) ?_
      refine lv_icmp_ge (tgt := 279) hx hb dL_reading_161 (by decide) (fun c_30 => ?_) (fun c_30 => ?_)
      · have hc9 := c_30
        obtain rfl : 9 = i := by rcases Nat.lt_or_ge i 9 with q9 | q9; exact absurd c_30 (nI_ge (b := 9) q9 (by decide)); omega
        refine lv_iload hx hb dL_reading_279 (lv_at hl 2 rfl) ?_
        refine lv_if_eq (tgt := 300) hx hb dL_reading_281 (by decide) (fun c9 => absurd c9 (by decide)) (fun _ => ?_)
        refine lv_iload_n hx hb dL_reading_284 rfl (lv_at hl 4 rfl) ?_
        refine lv_if_gt (tgt := 296) hx hb dL_reading_285 (by decide) (fun _ => ?_) (fun c9 => absurd (by decide) c9)
        refine lv_iconst (v := 1) hx hb dL_reading_296 (by decide) ?_
        refine lv_goto (tgt := 301) hx hb dL_reading_297 (by decide) ?_
        have hP9 : va_P D vwCl ((WW a K KS st hs z)) H := k_subP (wp := []) (wp' := []) (T := (WW a K KS st hs z)) hP [] rfl
        have hD9 : va_D A ((WW a K KS st hs z)) := k_subD (wp := []) (wp' := []) (T := (WW a K KS st hs z)) hD [] (by decide) rfl
        have hP9 : va_P D vwCl ((WW a K KS st hs z)) H := hP9
        have hD9 : va_D A ((WW a K KS st hs z)) := hD9
        have hK9 : va_K D vwCl [] s := hK.sub [] rfl
        exact W.zret (v := 1) hx hb hr (rfl) (fun t ht9 hW9 => ⟨⟨1, z, rfl, by first | rfl | trivial | (simp only [c_17, c_27, c_28, c_29, hi, c_30, if_true, if_false, reduceIte, and_self]; done) | simp_all, ⟨by rw [ht9]; exact hP9, va_K.moved hW9.alike hK9, hD9⟩⟩, hS.F ht9⟩) hS.2.2 dL_reading_301
      · have hc9 := c_30
        have hik : i + 1 ≤ 9 := by rcases Nat.lt_or_ge i 9 with q9 | q9; exact q9; exact absurd (nI_le (a := 9) q9 (by omega)) c_30
        refine lv_iload hx hb dL_reading_164 (lv_at hl 2 rfl) ?_
        refine lv_if_eq (tgt := 279) hx hb dL_reading_166 (by decide) (fun c9 => absurd c9 (by decide)) (fun _ => ?_)
        refine lv_aload_n hx hb dL_reading_169 rfl (lv_at hl 5 rfl) ?_
        refine lv_iload hx hb dL_reading_170 (lv_at hl 0 rfl) ?_
        have ct := k_cut_TT (wp := []) (T := (WW a K KS st hs z)) (wc := []) (wr := []) (tc := [(K, .int), (KS, .object "BarcodeWand$State")]) hG hS hA hK hP hD [] [] [0, 1] rfl rfl (by decide) (by decide) (by decide) rfl
        refine k_endi (As := [.ref (a 0), .int (nI i)]) ct (k_runSW (As := [.ref (a 0), .int (nI i)]) (rest := []) S0 Ls_L_116 ct (c_L_digit l D a K KS st hs z i (by assumption) (by omega) H.size) hl.1 rfl (Nat.le_of_ble_eq_true rfl) rfl dL_reading_172 ⟨⟨Nat.le_of_ble_eq_true rfl, Nat.le_of_ble_eq_true rfl⟩, Nat.le_of_ble_eq_true rfl, Nat.le_of_ble_eq_true rfl⟩) rfl rfl (fun r_31 sc1v_32 H locs hw_33 hP hD hK hS => ?_)
        have hK : va_K D vwCl [(K, .int), (KS, .object "BarcodeWand$State")] s := hK
        have hP : va_P D vwCl ((WW a K KS st hs sc1v_32)) H := hP
        have hD : va_D A ((WW a K KS st hs sc1v_32)) := hD
        have hw_33 : r_31 = digR (s_tn st) (s_tf st) (s_tol st) i := hw_33
        have hw_33 := hw_33.symm
        subst hw_33
        refine k_nrm (y := digR (s_tn st) (s_tf st) (s_tol st) i) rfl ?_
        refine k_nrm (y := (-1)) (digR_no (by rw [hq]; decide)) ?_
        refine lv_istore (lv' := [(9, .int (-1)), (8, .int (nI i)), (7, .int 0), (6, .int 1), (5, .int xn), (1, .int 1), (0, .ref (a 0))]) hx hb dL_reading_175 hl (by decide) rfl (fun ls hl => ?_)
        refine lv_iload_n hx hb dL_reading_177 rfl (lv_at hl 5 rfl) ?_
        refine lv_if_gt (tgt := 188) hx hb dL_reading_178 (by decide) (fun _ => ?_) (fun c9 => absurd (by decide) c9)
        refine lv_iload hx hb dL_reading_188 (lv_at hl 0 rfl) ?_
        refine lv_iconst (v := (-1)) hx hb dL_reading_190 (by decide) ?_
        refine lv_icmp_ne (tgt := 198) hx hb dL_reading_191 (by decide) (fun c9 => absurd (by decide) c9) (fun _ => ?_)
        refine lv_iconst (v := 1) hx hb dL_reading_194 (by decide) ?_
        refine lv_goto (tgt := 238) hx hb dL_reading_195 (by decide) ?_
        refine lv_istore (lv' := [(6, .int 1), (9, .int (-1)), (8, .int (nI i)), (7, .int 0), (5, .int xn), (1, .int 1), (0, .ref (a 0))]) hx hb dL_reading_238 hl (by decide) rfl (fun ls hl => ?_)
        refine lv_iload hx hb dL_reading_240 (lv_at hl 3 rfl) ?_
        refine lv_iload hx hb dL_reading_242 (lv_at hl 1 rfl) ?_
        refine lv_if_ge (tgt := 251) hx hb dL_reading_244 (by decide) (fun c9 => absurd c9 (by decide)) (fun _ => ?_)
        refine lv_iconst (v := 0) hx hb dL_reading_247 (by decide) ?_
        refine lv_goto (tgt := 270) hx hb dL_reading_248 (by decide) ?_
        refine lv_iadd hx hb dL_reading_270 ?_
        refine k_nrm (y := 0) (by decide) ?_
        refine lv_istore (lv' := [(7, .int 0), (6, .int 1), (9, .int (-1)), (8, .int (nI i)), (5, .int xn), (1, .int 1), (0, .ref (a 0))]) hx hb dL_reading_271 hl (by decide) rfl (fun ls hl => ?_)
        obtain ⟨x_34, ex_34⟩ : ∃ z : Int32, z = (nI i) + 1 := ⟨_, rfl⟩
        refine lv_iinc (v := x_34) (lv' := [(8, .int x_34), (7, .int 0), (6, .int 1), (9, .int (-1)), (5, .int xn), (1, .int 1), (0, .ref (a 0))]) hx hb dL_reading_273 hl (k := 3) rfl (by rw [ex_34]; rfl) (by decide) rfl (fun ls hl => ?_)
        refine lv_goto (tgt := 157) hx hb dL_reading_276 (by decide) ?_
        have he9 : x_34 = (nI (i + 1)) := by rw [ex_34]; exact nI_1 i
        rw [he9] at hl
        have hl : lv_has ls 10 [(8, .int (nI (i + 1))), (7, .int 0), (6, .int 1), (9, .int (-1)), (5, .int xn), (1, .int 1), (0, .ref (a 0))] := hl
        exact ih9 ((i + 1, sc1v_32)) H locs ls (by omega) ⟨hik, k_subP (wp := []) (wp' := []) (T := (WW a K KS st hs sc1v_32)) hP [] rfl, k_subD (wp := []) (wp' := []) (T := (WW a K KS st hs sc1v_32)) hD [] (by decide) rfl, hS, lv_sub hl [0, 1, 2, 4, 5, 6] rfl⟩
  · skip
    have hres := res_in (s_tn st) (s_tf st) (s_tol st)
    have hlea := lea_rng (s_tn st) (s_tf st)
    have hy := rd_yes hd0
    obtain ⟨hd2, hd9, hdn⟩ := dgc_pos hd0
    have he9 : resF (s_tn st) (s_tf st) (s_tol st) = 0 := hq
    rw [he9] at hl
    have hl : lv_has ls 10 [(5, .int ((nI (s_tn st) - 5) / 4)), (4, .int (leaF (s_tn st) (s_tf st))), (3, .int (failF (s_tn st) (lnF (s_tn st) (s_tf st) 1) (s_tol st))), (2, .int (failF (s_tn st) (lnF (s_tn st) (s_tf st) 0) (s_tol st))), (1, .int 0), (0, .ref (a 0))] := hl
    have he9 : failF (s_tn st) (lnF (s_tn st) (s_tf st) 0) (s_tol st) = 0 := ha
    rw [he9] at hl
    have hl : lv_has ls 10 [(5, .int ((nI (s_tn st) - 5) / 4)), (4, .int (leaF (s_tn st) (s_tf st))), (3, .int (failF (s_tn st) (lnF (s_tn st) (s_tf st) 1) (s_tol st))), (2, .int 0), (1, .int 0), (0, .ref (a 0))] := hl
    have hls : 0 < leaF (s_tn st) (s_tf st) := by obtain ⟨t, t1, t8, te⟩ := htl; exact lea_hit t1 t8 (by rw [← te, hq]; decide)
    have he9 : ((nI (s_tn st) - 5) / 4) = (nI (dgc (s_tn st))) := rd_n hd0
    rw [he9] at hl
    have hl : lv_has ls 10 [(5, .int (nI (dgc (s_tn st)))), (4, .int (leaF (s_tn st) (s_tf st))), (3, .int (failF (s_tn st) (lnF (s_tn st) (s_tf st) 1) (s_tol st))), (2, .int 0), (1, .int 0), (0, .ref (a 0))] := hl
    refine lv_iload_n hx hb dL_reading_33 rfl (lv_at hl 4 rfl) ?_
    refine lv_iload_n hx hb dL_reading_34 rfl (lv_at hl 3 rfl) ?_
    refine lv_if_ne (tgt := 42) hx hb dL_reading_35 (by decide) (fun c9 => absurd (by decide) c9) (fun _ => ?_)
    refine lv_iconst (v := 0) hx hb dL_reading_38 (by decide) ?_
    refine lv_goto (tgt := 60) hx hb dL_reading_39 (by decide) ?_
    refine lv_icmp_ne (tgt := 148) hx hb dL_reading_60 (by decide) (fun c9 => absurd (by decide) c9) (fun _ => ?_)
    refine lv_iload_n hx hb dL_reading_63 rfl (lv_at hl 3 rfl) ?_
    refine lv_iconst (v := 1) hx hb dL_reading_64 (by decide) ?_
    refine lv_icmp_ne (tgt := 72) hx hb dL_reading_65 (by decide) (fun _ => ?_) (fun c9 => absurd c9 (by decide))
    refine lv_iconst (v := 0) hx hb dL_reading_72 (by decide) ?_
    refine lv_iload_n hx hb dL_reading_73 rfl (lv_at hl 2 rfl) ?_
    refine lv_iconst (v := 1) hx hb dL_reading_74 (by decide) ?_
    refine lv_icmp_ne (tgt := 82) hx hb dL_reading_75 (by decide) (fun c_35 => ?_) (fun c9 => absurd c9 hb9)
    refine lv_iconst (v := 0) hx hb dL_reading_82 (by decide) ?_
    refine lv_icmp_ne (tgt := 148) hx hb dL_reading_83 (by decide) (fun c9 => absurd (by decide) c9) (fun _ => ?_)
    refine lv_iload_n hx hb dL_reading_86 rfl (lv_at hl 3 rfl) ?_
    refine lv_iconst (v := 1) hx hb dL_reading_87 (by decide) ?_
    refine lv_icmp_ne (tgt := 95) hx hb dL_reading_88 (by decide) (fun _ => ?_) (fun c9 => absurd c9 (by decide))
    refine lv_iconst (v := 0) hx hb dL_reading_95 (by decide) ?_
    refine lv_aload_n hx hb dL_reading_96 rfl (lv_at hl 5 rfl) ?_
    have ct := k_cut_TT (wp := []) (T := (WW a K KS st hs sc1v_11)) (wc := []) (wr := []) (tc := [(K, .int), (KS, .object "BarcodeWand$State")]) hG hS hA hK hP hD [] [] [0, 1] rfl rfl (by decide) (by decide) (by decide) rfl
    refine k_endi (As := [.ref (a 0)]) ct (k_runV (As := []) (rest := [.int 0]) S0 Lv_L_113 rfl (ci := 7) (q0 := 0) rfl (WW_0 a K KS st hs sc1v_11) ct (c_B_times l D a K KS st hs sc1v_11 H.size) hl.1 rfl (Nat.le_of_ble_eq_true rfl) rfl dL_reading_97 ⟨⟨Nat.le_of_ble_eq_true rfl, Nat.le_of_ble_eq_true rfl⟩, Nat.le_of_ble_eq_true rfl, Nat.le_of_ble_eq_true rfl⟩) rfl rfl (fun r_36 _ H locs hw_37 hP hD hK hS => ?_)
    have hK : va_K D vwCl [(K, .int), (KS, .object "BarcodeWand$State")] s := hK
    have hP : va_P D vwCl ((WW a K KS st hs sc1v_11)) H := hP
    have hD : va_D A ((WW a K KS st hs sc1v_11)) := hD
    have hw_37 : r_36 = (nI (s_tn st)) := hw_37
    have hw_37 := hw_37.symm
    subst hw_37
    refine k_nrm (y := (nI (s_tn st))) rfl ?_
    refine lv_bipush (v := 13) hx hb dL_reading_100 (by decide) ?_
    refine lv_icmp_lt (tgt := 115) hx hb dL_reading_102 (by decide) (fun c9 => absurd c9 (nI_nlt (b := 13) hy.1 (by omega))) (fun c_38 => ?_)
    refine lv_aload_n hx hb dL_reading_105 rfl (lv_at hl 5 rfl) ?_
    have ct := k_cut_TT (wp := []) (T := (WW a K KS st hs sc1v_11)) (wc := []) (wr := []) (tc := [(K, .int), (KS, .object "BarcodeWand$State")]) hG hS hA hK hP hD [] [] [0, 1] rfl rfl (by decide) (by decide) (by decide) rfl
    refine k_endi (As := [.ref (a 0)]) ct (k_runV (As := []) (rest := [.int 0]) S0 Lv_L_113 rfl (ci := 7) (q0 := 0) rfl (WW_0 a K KS st hs sc1v_11) ct (c_B_times l D a K KS st hs sc1v_11 H.size) hl.1 rfl (Nat.le_of_ble_eq_true rfl) rfl dL_reading_106 ⟨⟨Nat.le_of_ble_eq_true rfl, Nat.le_of_ble_eq_true rfl⟩, Nat.le_of_ble_eq_true rfl, Nat.le_of_ble_eq_true rfl⟩) rfl rfl (fun r_39 _ H locs hw_40 hP hD hK hS => ?_)
    have hK : va_K D vwCl [(K, .int), (KS, .object "BarcodeWand$State")] s := hK
    have hP : va_P D vwCl ((WW a K KS st hs sc1v_11)) H := hP
    have hD : va_D A ((WW a K KS st hs sc1v_11)) := hD
    have hw_40 : r_39 = (nI (s_tn st)) := hw_40
    have hw_40 := hw_40.symm
    subst hw_40
    refine k_nrm (y := (nI (s_tn st))) rfl ?_
    refine lv_iconst (v := 4) hx hb dL_reading_109 (by decide) ?_
    refine lv_irem hx hb dL_reading_110 (by decide) ?_
    refine k_nrm (y := (nI (s_tn st % 4))) (pk_rem (d := 4) (by omega) (by decide) (by decide)) ?_
    refine lv_iconst (v := 1) hx hb dL_reading_111 (by decide) ?_
    refine lv_icmp_eq (tgt := 119) hx hb dL_reading_112 (by decide) (fun c_41 => ?_) (fun c9 => absurd (by rw [hy.2]; rfl) c9)
    refine lv_iconst (v := 0) hx hb dL_reading_119 (by decide) ?_
    refine lv_icmp_ne (tgt := 148) hx hb dL_reading_120 (by decide) (fun c9 => absurd (by decide) c9) (fun _ => ?_)
    refine lv_iload_n hx hb dL_reading_123 rfl (lv_at hl 4 rfl) ?_
    refine lv_if_gt (tgt := 132) hx hb dL_reading_124 (by decide) (fun c9 => absurd c9 (by decide)) (fun _ => ?_)
    refine lv_iload hx hb dL_reading_127 (lv_at hl 1 rfl) ?_
    refine lv_if_le (tgt := 148) hx hb dL_reading_129 (by decide) (fun c9 => absurd c9 (fun q9 => absurd hls (Int32.not_lt.mpr q9))) (fun c_42 => ?_)
    refine lv_iload hx hb dL_reading_132 (lv_at hl 1 rfl) ?_
    refine lv_if_eq (tgt := 148) hx hb dL_reading_134 (by decide) (fun c9 => absurd c9 hlea.1) (fun c_43 => ?_)
    refine lv_iload hx hb dL_reading_137 (lv_at hl 1 rfl) ?_
    refine lv_bipush (v := 9) hx hb dL_reading_139 (by decide) ?_
    refine lv_icmp_ge (tgt := 148) hx hb dL_reading_141 (by decide) (fun c9 => absurd c9 hlea.2) (fun c_44 => ?_)
    refine lv_iconst (v := 1) hx hb dL_reading_144 (by decide) ?_
    refine lv_goto (tgt := 149) hx hb dL_reading_145 (by decide) ?_
    refine lv_istore (lv' := [(6, .int 1), (5, .int (nI (dgc (s_tn st)))), (4, .int (leaF (s_tn st) (s_tf st))), (3, .int (failF (s_tn st) (lnF (s_tn st) (s_tf st) 1) (s_tol st))), (2, .int 0), (1, .int 0), (0, .ref (a 0))]) hx hb dL_reading_149 hl (by decide) rfl (fun ls hl => ?_)
    refine lv_iconst (v := 0) hx hb dL_reading_151 (by decide) ?_
    refine lv_istore (lv' := [(7, .int 0), (6, .int 1), (5, .int (nI (dgc (s_tn st)))), (4, .int (leaF (s_tn st) (s_tf st))), (3, .int (failF (s_tn st) (lnF (s_tn st) (s_tf st) 1) (s_tol st))), (2, .int 0), (1, .int 0), (0, .ref (a 0))]) hx hb dL_reading_152 hl (by decide) rfl (fun ls hl => ?_)
    refine lv_iconst (v := 0) hx hb dL_reading_154 (by decide) ?_
    refine lv_istore (lv' := [(8, .int 0), (7, .int 0), (6, .int 1), (5, .int (nI (dgc (s_tn st)))), (4, .int (leaF (s_tn st) (s_tf st))), (3, .int (failF (s_tn st) (lnF (s_tn st) (s_tf st) 1) (s_tol st))), (2, .int 0), (1, .int 0), (0, .ref (a 0))]) hx hb dL_reading_155 hl (by decide) rfl (fun ls hl => ?_)
    have hl : lv_has ls 10 [(8, .int (nI 0)), (7, .int 0), (6, .int 1), (5, .int (nI (dgc (s_tn st)))), (4, .int (leaF (s_tn st) (s_tf st))), (3, .int (failF (s_tn st) (lnF (s_tn st) (s_tf st) 1) (s_tol st))), (2, .int 0), (1, .int 0), (0, .ref (a 0))] := hl
    have he9 : 0 = (rS (nrD (s_tn st) (lnF (s_tn st) (s_tf st) 0)) (dgc (s_tn st)) 0) := (rS_0 _ _).symm
    rw [he9] at hl
    have hl : lv_has ls 10 [(8, .int (nI 0)), (7, .int (rS (nrD (s_tn st) (lnF (s_tn st) (s_tf st) 0)) (dgc (s_tn st)) 0)), (6, .int 1), (5, .int (nI (dgc (s_tn st)))), (4, .int (leaF (s_tn st) (s_tf st))), (3, .int (failF (s_tn st) (lnF (s_tn st) (s_tf st) 1) (s_tol st))), (2, .int (rS (nrD (s_tn st) (lnF (s_tn st) (s_tf st) 0)) (dgc (s_tn st)) 0)), (1, .int (rS (nrD (s_tn st) (lnF (s_tn st) (s_tf st) 0)) (dgc (s_tn st)) 0)), (0, .ref (a 0))] := hl
    refine k_loop (ι := Nat × SCT) (fun (x9 : Nat × SCT) H9 locs9 ls9 => match x9 with | (i, z) => (i ≤ 9) ∧ va_P D vwCl ((WW a K KS st hs z)) H9 ∧ va_D A ((WW a K KS st hs z)) ∧ va_S A s.heap H9 locs9 ∧ lv_has ls9 10 [(8, .int (nI i)), (7, .int (rS (nrD (s_tn st) (lnF (s_tn st) (s_tf st) 0)) (dgc (s_tn st)) i)), (6, .int 1), (5, .int (nI (dgc (s_tn st)))), (1, .int 0), (0, .ref (a 0))]) (fun (x9 : Nat × SCT) => match x9 with | (i, z) => 9 - i) ?_ ((0, sc1v_11)) ⟨(Nat.zero_le _), k_subP (wp := []) (wp' := []) (T := (WW a K KS st hs sc1v_11)) hP [] rfl, k_subD (wp := []) (wp' := []) (T := (WW a K KS st hs sc1v_11)) hD [] (by decide) rfl, hS, lv_sub hl [0, 1, 2, 3, 7, 8] rfl⟩
    intro x9 H locs ls hF9 ih9
    obtain ⟨i, z⟩ := x9
    obtain ⟨hi, hP, hD, hS, hl⟩ := hF9
    try dsimp only at ih9
    have hP : va_P D vwCl ((WW a K KS st hs z)) H := hP
    have hD : va_D A ((WW a K KS st hs z)) := hD
    have hl : lv_has ls 10 [(8, .int (nI i)), (7, .int (rS (nrD (s_tn st) (lnF (s_tn st) (s_tf st) 0)) (dgc (s_tn st)) i)), (6, .int 1), (5, .int (nI (dgc (s_tn st)))), (1, .int 0), (0, .ref (a 0))] := hl
    refine lv_iload hx hb dL_reading_157 (lv_at hl 0 rfl) ?_
    refine lv_bipush (v := 9) hx hb dL_reading_159 (by decide) ?_
    refine lv_icmp_ge (tgt := 279) hx hb dL_reading_161 (by decide) (fun c_45 => ?_) (fun c_45 => ?_)
    · have hc9 := c_45
      obtain rfl : 9 = i := by rcases Nat.lt_or_ge i 9 with q9 | q9; exact absurd c_45 (nI_ge (b := 9) q9 (by decide)); omega
      refine lv_iload hx hb dL_reading_279 (lv_at hl 2 rfl) ?_
      refine lv_if_eq (tgt := 300) hx hb dL_reading_281 (by decide) (fun c9 => absurd c9 (by decide)) (fun _ => ?_)
      refine lv_iload_n hx hb dL_reading_284 rfl (lv_at hl 4 rfl) ?_
      refine lv_if_gt (tgt := 296) hx hb dL_reading_285 (by decide) (fun c9 => absurd c9 (by decide)) (fun _ => ?_)
      refine lv_iload hx hb dL_reading_288 (lv_at hl 1 rfl) ?_
      refine lv_bipush (v := 10) hx hb dL_reading_290 (by decide) ?_
      refine lv_irem hx hb dL_reading_292 (by decide) ?_
      refine k_nrm (y := (rem10 (rS (nrD (s_tn st) (lnF (s_tn st) (s_tf st) 0)) (dgc (s_tn st)) 9))) (rfl) ?_
      refine lv_if_ne (tgt := 300) hx hb dL_reading_293 (by decide) (fun c9 => absurd (rS_9 hd2 hd9 (fun m9 => nrD_rng _ _ m9) (nrD_ck ha)) c9) (fun c_46 => ?_)
      refine lv_iconst (v := 1) hx hb dL_reading_296 (by decide) ?_
      refine lv_goto (tgt := 301) hx hb dL_reading_297 (by decide) ?_
      have hP9 : va_P D vwCl ((WW a K KS st hs z)) H := k_subP (wp := []) (wp' := []) (T := (WW a K KS st hs z)) hP [] rfl
      have hD9 : va_D A ((WW a K KS st hs z)) := k_subD (wp := []) (wp' := []) (T := (WW a K KS st hs z)) hD [] (by decide) rfl
      have hP9 : va_P D vwCl ((WW a K KS st hs z)) H := hP9
      have hD9 : va_D A ((WW a K KS st hs z)) := hD9
      have hK9 : va_K D vwCl [] s := hK.sub [] rfl
      exact W.zret (v := 1) hx hb hr (rfl) (fun t ht9 hW9 => ⟨⟨1, z, rfl, by first | rfl | trivial | (simp only [c_35, c_38, c_41, c_42, c_43, c_44, hi, c_45, c_46, if_true, if_false, reduceIte, and_self]; done) | simp_all, ⟨by rw [ht9]; exact hP9, va_K.moved hW9.alike hK9, hD9⟩⟩, hS.F ht9⟩) hS.2.2 dL_reading_301
    · have hc9 := c_45
      have hik : i + 1 ≤ 9 := by rcases Nat.lt_or_ge i 9 with q9 | q9; exact q9; exact absurd (nI_le (a := 9) q9 (by omega)) c_45
      refine lv_iload hx hb dL_reading_164 (lv_at hl 2 rfl) ?_
      refine lv_if_eq (tgt := 279) hx hb dL_reading_166 (by decide) (fun c9 => absurd c9 (by decide)) (fun _ => ?_)
      refine lv_aload_n hx hb dL_reading_169 rfl (lv_at hl 5 rfl) ?_
      refine lv_iload hx hb dL_reading_170 (lv_at hl 0 rfl) ?_
      have ct := k_cut_TT (wp := []) (T := (WW a K KS st hs z)) (wc := []) (wr := []) (tc := [(K, .int), (KS, .object "BarcodeWand$State")]) hG hS hA hK hP hD [] [] [0, 1] rfl rfl (by decide) (by decide) (by decide) rfl
      refine k_endi (As := [.ref (a 0), .int (nI i)]) ct (k_runSW (As := [.ref (a 0), .int (nI i)]) (rest := []) S0 Ls_L_116 ct (c_L_digit l D a K KS st hs z i (by assumption) (by omega) H.size) hl.1 rfl (Nat.le_of_ble_eq_true rfl) rfl dL_reading_172 ⟨⟨Nat.le_of_ble_eq_true rfl, Nat.le_of_ble_eq_true rfl⟩, Nat.le_of_ble_eq_true rfl, Nat.le_of_ble_eq_true rfl⟩) rfl rfl (fun r_47 sc1v_48 H locs hw_49 hP hD hK hS => ?_)
      have hK : va_K D vwCl [(K, .int), (KS, .object "BarcodeWand$State")] s := hK
      have hP : va_P D vwCl ((WW a K KS st hs sc1v_48)) H := hP
      have hD : va_D A ((WW a K KS st hs sc1v_48)) := hD
      have hw_49 : r_47 = digR (s_tn st) (s_tf st) (s_tol st) i := hw_49
      have hw_49 := hw_49.symm
      subst hw_49
      refine k_nrm (y := digR (s_tn st) (s_tf st) (s_tol st) i) rfl ?_
      rcases Nat.lt_or_ge i (dgc (s_tn st)) with hnk | hnk
      · skip
        obtain ⟨d, hd, he⟩ := nrD_rng (s_tn st) (lnF (s_tn st) (s_tf st) 0) i
        refine k_nrm (y := (nrD (s_tn st) (lnF (s_tn st) (s_tf st) 0) i)) (digR_f hq hnk) ?_
        have hlt : ¬ nI (dgc (s_tn st)) ≤ nI i := nI_ge hnk (by omega)
        refine lv_istore (lv' := [(9, .int (nrD (s_tn st) (lnF (s_tn st) (s_tf st) 0) i)), (8, .int (nI i)), (7, .int (rS (nrD (s_tn st) (lnF (s_tn st) (s_tf st) 0)) (dgc (s_tn st)) i)), (6, .int 1), (5, .int (nI (dgc (s_tn st)))), (1, .int 0), (0, .ref (a 0))]) hx hb dL_reading_175 hl (by decide) rfl (fun ls hl => ?_)
        refine lv_iload_n hx hb dL_reading_177 rfl (lv_at hl 5 rfl) ?_
        refine lv_if_gt (tgt := 188) hx hb dL_reading_178 (by decide) (fun c9 => absurd c9 (by decide)) (fun _ => ?_)
        refine lv_iload hx hb dL_reading_181 (lv_at hl 1 rfl) ?_
        refine lv_iload hx hb dL_reading_183 (lv_at hl 4 rfl) ?_
        refine lv_icmp_lt (tgt := 202) hx hb dL_reading_185 (by decide) (fun c_50 => ?_) (fun c9 => absurd (nI_lt hnk (by omega)) c9)
        refine lv_iload hx hb dL_reading_202 (lv_at hl 0 rfl) ?_
        refine lv_if_lt (tgt := 237) hx hb dL_reading_204 (by decide) (fun c9 => absurd c9 (by rw [he]; exact nI_pos (by omega))) (fun c_51 => ?_)
        refine lv_iload hx hb dL_reading_207 (lv_at hl 0 rfl) ?_
        refine lv_bipush (v := 10) hx hb dL_reading_209 (by decide) ?_
        refine lv_icmp_ge (tgt := 237) hx hb dL_reading_211 (by decide) (fun c9 => absurd c9 (by rw [he]; exact nI_ge (a := d) (b := 10) (by omega) (by decide))) (fun c_52 => ?_)
        refine lv_iload_n hx hb dL_reading_214 rfl (lv_at hl 5 rfl) ?_
        refine lv_if_lt (tgt := 233) hx hb dL_reading_215 (by decide) (fun c9 => absurd c9 (by decide)) (fun _ => ?_)
        refine lv_iload hx hb dL_reading_218 (lv_at hl 0 rfl) ?_
        refine lv_aload_n hx hb dL_reading_220 rfl (lv_at hl 6 rfl) ?_
        refine lv_iconst (v := 3) hx hb dL_reading_221 (by decide) ?_
        refine lv_iconst (v := 4) hx hb dL_reading_222 (by decide) ?_
        refine lv_iload hx hb dL_reading_223 (lv_at hl 1 rfl) ?_
        refine lv_imul hx hb dL_reading_225 ?_
        refine k_nrm (y := (nI (4 * i))) (pk_mul 4 i) ?_
        refine lv_iadd hx hb dL_reading_226 ?_
        refine k_nrm (y := (nI (3 + 4 * i))) (nI_add 3 (4 * i)) ?_
        have ct := k_cut_TT (wp := []) (T := (WW a K KS st hs sc1v_48)) (wc := []) (wr := []) (tc := [(K, .int), (KS, .object "BarcodeWand$State")]) hG hS hA hK hP hD [] [] [0, 1] rfl rfl (by decide) (by decide) (by decide) rfl
        refine k_endi (As := [.ref (a 0), .int (nI (3 + 4 * i))]) ct (k_runSW (As := [.ref (a 0), .int (nI (3 + 4 * i))]) (rest := [.int (nrD (s_tn st) (lnF (s_tn st) (s_tf st) 0) i)]) S0 Ls_L_118 ct (c_L_nearest l D a K KS st hs sc1v_48 (3 + 4 * i) (by assumption) (by omega) H.size) hl.1 rfl (Nat.le_of_ble_eq_true rfl) rfl dL_reading_227 ⟨⟨Nat.le_of_ble_eq_true rfl, Nat.le_of_ble_eq_true rfl⟩, Nat.le_of_ble_eq_true rfl, Nat.le_of_ble_eq_true rfl⟩) rfl rfl (fun r_53 sc1v_54 H locs hw_55 hP hD hK hS => ?_)
        have hK : va_K D vwCl [(K, .int), (KS, .object "BarcodeWand$State")] s := hK
        have hP : va_P D vwCl ((WW a K KS st hs sc1v_54)) H := hP
        have hD : va_D A ((WW a K KS st hs sc1v_54)) := hD
        have hw_55 : r_53 = (nrF (dsF (rowAt 41 (nI (s_tn st)) (s_tf st) (nI (3 + 4 * i))) (rowAt 41 (nI (s_tn st)) (s_tf st) (nI (3 + 4 * i) + 1)) (rowAt 41 (nI (s_tn st)) (s_tf st) (nI (3 + 4 * i) + 2)) (rowAt 41 (nI (s_tn st)) (s_tf st) (nI (3 + 4 * i) + 3)) (rowAt 41 (nI (s_tn st)) (s_tf st) (nI (3 + 4 * i)) + rowAt 41 (nI (s_tn st)) (s_tf st) (nI (3 + 4 * i) + 1) + rowAt 41 (nI (s_tn st)) (s_tf st) (nI (3 + 4 * i) + 2) + rowAt 41 (nI (s_tn st)) (s_tf st) (nI (3 + 4 * i) + 3))) 0 0 10).1 := hw_55
        have hw_55 := hw_55.symm
        subst hw_55
        refine k_nrm (y := (nrF (dsF (rowAt 41 (nI (s_tn st)) (s_tf st) (nI (3 + 4 * i))) (rowAt 41 (nI (s_tn st)) (s_tf st) (nI (3 + 4 * i) + 1)) (rowAt 41 (nI (s_tn st)) (s_tf st) (nI (3 + 4 * i) + 2)) (rowAt 41 (nI (s_tn st)) (s_tf st) (nI (3 + 4 * i) + 3)) (rowAt 41 (nI (s_tn st)) (s_tf st) (nI (3 + 4 * i)) + rowAt 41 (nI (s_tn st)) (s_tf st) (nI (3 + 4 * i) + 1) + rowAt 41 (nI (s_tn st)) (s_tf st) (nI (3 + 4 * i) + 2) + rowAt 41 (nI (s_tn st)) (s_tf st) (nI (3 + 4 * i) + 3))) 0 0 10).1) rfl ?_
        refine lv_icmp_ne (tgt := 237) hx hb dL_reading_230 (by decide) (fun c9 => absurd (nr_same (by omega) hb3) c9) (fun c_56 => ?_)
        refine lv_iconst (v := 1) hx hb dL_reading_233 (by decide) ?_
        refine lv_goto (tgt := 238) hx hb dL_reading_234 (by decide) ?_
        refine lv_istore (lv' := [(6, .int 1), (9, .int (nrD (s_tn st) (lnF (s_tn st) (s_tf st) 0) i)), (8, .int (nI i)), (7, .int (rS (nrD (s_tn st) (lnF (s_tn st) (s_tf st) 0)) (dgc (s_tn st)) i)), (5, .int (nI (dgc (s_tn st)))), (1, .int 0), (0, .ref (a 0))]) hx hb dL_reading_238 hl (by decide) rfl (fun ls hl => ?_)
        refine lv_iload hx hb dL_reading_240 (lv_at hl 3 rfl) ?_
        refine lv_iload hx hb dL_reading_242 (lv_at hl 1 rfl) ?_
        refine lv_if_ge (tgt := 251) hx hb dL_reading_244 (by decide) (fun c_57 => ?_) (fun c9 => absurd (by rw [he]; exact nI_pos' (by omega)) c9)
        refine lv_iload hx hb dL_reading_251 (lv_at hl 4 rfl) ?_
        refine lv_iload hx hb dL_reading_253 (lv_at hl 2 rfl) ?_
        refine lv_isub hx hb dL_reading_255 ?_
        refine k_nrm (y := (nI (dgc (s_tn st) - i))) (pk_sub (by omega)) ?_
        refine lv_iconst (v := 2) hx hb dL_reading_256 (by decide) ?_
        refine lv_irem hx hb dL_reading_257 (by decide) ?_
        refine k_nrm (y := (nI ((dgc (s_tn st) - i) % 2))) (pk_rem (d := 2) (by omega) (by decide) (by decide)) ?_
        refine lv_if_ne (tgt := 268) hx hb dL_reading_258 (by decide) (fun c_58 => ?_) (fun c_58 => ?_)
        · have hc9 := c_58
          refine lv_iload hx hb dL_reading_268 (lv_at hl 1 rfl) ?_
          refine lv_iadd hx hb dL_reading_270 ?_
          refine k_nrm (y := (rS (nrD (s_tn st) (lnF (s_tn st) (s_tf st) 0)) (dgc (s_tn st)) (i + 1))) (rS_b hnk c_58) ?_
          refine lv_istore (lv' := [(7, .int (rS (nrD (s_tn st) (lnF (s_tn st) (s_tf st) 0)) (dgc (s_tn st)) (i + 1))), (6, .int 1), (9, .int (nrD (s_tn st) (lnF (s_tn st) (s_tf st) 0) i)), (8, .int (nI i)), (5, .int (nI (dgc (s_tn st)))), (1, .int 0), (0, .ref (a 0))]) hx hb dL_reading_271 hl (by decide) rfl (fun ls hl => ?_)
          obtain ⟨x_59, ex_59⟩ : ∃ z : Int32, z = (nI i) + 1 := ⟨_, rfl⟩
          refine lv_iinc (v := x_59) (lv' := [(8, .int x_59), (7, .int (rS (nrD (s_tn st) (lnF (s_tn st) (s_tf st) 0)) (dgc (s_tn st)) (i + 1))), (6, .int 1), (9, .int (nrD (s_tn st) (lnF (s_tn st) (s_tf st) 0) i)), (5, .int (nI (dgc (s_tn st)))), (1, .int 0), (0, .ref (a 0))]) hx hb dL_reading_273 hl (k := 3) rfl (by rw [ex_59]; rfl) (by decide) rfl (fun ls hl => ?_)
          refine lv_goto (tgt := 157) hx hb dL_reading_276 (by decide) ?_
          have he9 : x_59 = (nI (i + 1)) := by rw [ex_59]; exact nI_1 i
          rw [he9] at hl
          have hl : lv_has ls 10 [(8, .int (nI (i + 1))), (7, .int (rS (nrD (s_tn st) (lnF (s_tn st) (s_tf st) 0)) (dgc (s_tn st)) (i + 1))), (6, .int 1), (9, .int (nrD (s_tn st) (lnF (s_tn st) (s_tf st) 0) i)), (5, .int (nI (dgc (s_tn st)))), (1, .int 0), (0, .ref (a 0))] := hl
          exact ih9 ((i + 1, sc1v_54)) H locs ls (by omega) ⟨hik, k_subP (wp := []) (wp' := []) (T := (WW a K KS st hs sc1v_54)) hP [] rfl, k_subD (wp := []) (wp' := []) (T := (WW a K KS st hs sc1v_54)) hD [] (by decide) rfl, hS, lv_sub hl [0, 1, 2, 4, 5, 6] rfl⟩
        · have hc9 := c_58
          refine lv_iconst (v := 3) hx hb dL_reading_261 (by decide) ?_
          refine lv_iload hx hb dL_reading_262 (lv_at hl 1 rfl) ?_
          refine lv_imul hx hb dL_reading_264 ?_
          refine k_nrm (y := (3 * (nrD (s_tn st) (lnF (s_tn st) (s_tf st) 0) i))) (rfl) ?_
          refine lv_goto (tgt := 270) hx hb dL_reading_265 (by decide) ?_
          refine lv_iadd hx hb dL_reading_270 ?_
          refine k_nrm (y := (rS (nrD (s_tn st) (lnF (s_tn st) (s_tf st) 0)) (dgc (s_tn st)) (i + 1))) (rS_a hnk c_58) ?_
          refine lv_istore (lv' := [(7, .int (rS (nrD (s_tn st) (lnF (s_tn st) (s_tf st) 0)) (dgc (s_tn st)) (i + 1))), (6, .int 1), (9, .int (nrD (s_tn st) (lnF (s_tn st) (s_tf st) 0) i)), (8, .int (nI i)), (5, .int (nI (dgc (s_tn st)))), (1, .int 0), (0, .ref (a 0))]) hx hb dL_reading_271 hl (by decide) rfl (fun ls hl => ?_)
          obtain ⟨x_60, ex_60⟩ : ∃ z : Int32, z = (nI i) + 1 := ⟨_, rfl⟩
          refine lv_iinc (v := x_60) (lv' := [(8, .int x_60), (7, .int (rS (nrD (s_tn st) (lnF (s_tn st) (s_tf st) 0)) (dgc (s_tn st)) (i + 1))), (6, .int 1), (9, .int (nrD (s_tn st) (lnF (s_tn st) (s_tf st) 0) i)), (5, .int (nI (dgc (s_tn st)))), (1, .int 0), (0, .ref (a 0))]) hx hb dL_reading_273 hl (k := 3) rfl (by rw [ex_60]; rfl) (by decide) rfl (fun ls hl => ?_)
          refine lv_goto (tgt := 157) hx hb dL_reading_276 (by decide) ?_
          have he9 : x_60 = (nI (i + 1)) := by rw [ex_60]; exact nI_1 i
          rw [he9] at hl
          have hl : lv_has ls 10 [(8, .int (nI (i + 1))), (7, .int (rS (nrD (s_tn st) (lnF (s_tn st) (s_tf st) 0)) (dgc (s_tn st)) (i + 1))), (6, .int 1), (9, .int (nrD (s_tn st) (lnF (s_tn st) (s_tf st) 0) i)), (5, .int (nI (dgc (s_tn st)))), (1, .int 0), (0, .ref (a 0))] := hl
          exact ih9 ((i + 1, sc1v_54)) H locs ls (by omega) ⟨hik, k_subP (wp := []) (wp' := []) (T := (WW a K KS st hs sc1v_54)) hP [] rfl, k_subD (wp := []) (wp' := []) (T := (WW a K KS st hs sc1v_54)) hD [] (by decide) rfl, hS, lv_sub hl [0, 1, 2, 4, 5, 6] rfl⟩
      · skip
        refine k_nrm (y := (-1)) (digR_out (by rw [hq]; decide) hnk) ?_
        have hge : nI (dgc (s_tn st)) ≤ nI i := nI_le hnk (by omega)
        refine lv_istore (lv' := [(9, .int (-1)), (8, .int (nI i)), (7, .int (rS (nrD (s_tn st) (lnF (s_tn st) (s_tf st) 0)) (dgc (s_tn st)) i)), (6, .int 1), (5, .int (nI (dgc (s_tn st)))), (1, .int 0), (0, .ref (a 0))]) hx hb dL_reading_175 hl (by decide) rfl (fun ls hl => ?_)
        refine lv_iload_n hx hb dL_reading_177 rfl (lv_at hl 5 rfl) ?_
        refine lv_if_gt (tgt := 188) hx hb dL_reading_178 (by decide) (fun c9 => absurd c9 (by decide)) (fun _ => ?_)
        refine lv_iload hx hb dL_reading_181 (lv_at hl 1 rfl) ?_
        refine lv_iload hx hb dL_reading_183 (lv_at hl 4 rfl) ?_
        refine lv_icmp_lt (tgt := 202) hx hb dL_reading_185 (by decide) (fun c9 => absurd c9 (nI_nlt hnk (by omega))) (fun c_61 => ?_)
        refine lv_iload hx hb dL_reading_188 (lv_at hl 0 rfl) ?_
        refine lv_iconst (v := (-1)) hx hb dL_reading_190 (by decide) ?_
        refine lv_icmp_ne (tgt := 198) hx hb dL_reading_191 (by decide) (fun c9 => absurd (by decide) c9) (fun _ => ?_)
        refine lv_iconst (v := 1) hx hb dL_reading_194 (by decide) ?_
        refine lv_goto (tgt := 238) hx hb dL_reading_195 (by decide) ?_
        refine lv_istore (lv' := [(6, .int 1), (9, .int (-1)), (8, .int (nI i)), (7, .int (rS (nrD (s_tn st) (lnF (s_tn st) (s_tf st) 0)) (dgc (s_tn st)) i)), (5, .int (nI (dgc (s_tn st)))), (1, .int 0), (0, .ref (a 0))]) hx hb dL_reading_238 hl (by decide) rfl (fun ls hl => ?_)
        refine lv_iload hx hb dL_reading_240 (lv_at hl 3 rfl) ?_
        refine lv_iload hx hb dL_reading_242 (lv_at hl 1 rfl) ?_
        refine lv_if_ge (tgt := 251) hx hb dL_reading_244 (by decide) (fun c9 => absurd c9 (by decide)) (fun _ => ?_)
        refine lv_iconst (v := 0) hx hb dL_reading_247 (by decide) ?_
        refine lv_goto (tgt := 270) hx hb dL_reading_248 (by decide) ?_
        refine lv_iadd hx hb dL_reading_270 ?_
        refine k_nrm (y := (rS (nrD (s_tn st) (lnF (s_tn st) (s_tf st) 0)) (dgc (s_tn st)) (i + 1))) ((Int32.add_zero _).trans (rS_out hnk).2.symm) ?_
        refine lv_istore (lv' := [(7, .int (rS (nrD (s_tn st) (lnF (s_tn st) (s_tf st) 0)) (dgc (s_tn st)) (i + 1))), (6, .int 1), (9, .int (-1)), (8, .int (nI i)), (5, .int (nI (dgc (s_tn st)))), (1, .int 0), (0, .ref (a 0))]) hx hb dL_reading_271 hl (by decide) rfl (fun ls hl => ?_)
        obtain ⟨x_62, ex_62⟩ : ∃ z : Int32, z = (nI i) + 1 := ⟨_, rfl⟩
        refine lv_iinc (v := x_62) (lv' := [(8, .int x_62), (7, .int (rS (nrD (s_tn st) (lnF (s_tn st) (s_tf st) 0)) (dgc (s_tn st)) (i + 1))), (6, .int 1), (9, .int (-1)), (5, .int (nI (dgc (s_tn st)))), (1, .int 0), (0, .ref (a 0))]) hx hb dL_reading_273 hl (k := 3) rfl (by rw [ex_62]; rfl) (by decide) rfl (fun ls hl => ?_)
        refine lv_goto (tgt := 157) hx hb dL_reading_276 (by decide) ?_
        have he9 : x_62 = (nI (i + 1)) := by rw [ex_62]; exact nI_1 i
        rw [he9] at hl
        have hl : lv_has ls 10 [(8, .int (nI (i + 1))), (7, .int (rS (nrD (s_tn st) (lnF (s_tn st) (s_tf st) 0)) (dgc (s_tn st)) (i + 1))), (6, .int 1), (9, .int (-1)), (5, .int (nI (dgc (s_tn st)))), (1, .int 0), (0, .ref (a 0))] := hl
        exact ih9 ((i + 1, sc1v_48)) H locs ls (by omega) ⟨hik, k_subP (wp := []) (wp' := []) (T := (WW a K KS st hs sc1v_48)) hP [] rfl, k_subD (wp := []) (wp' := []) (T := (WW a K KS st hs sc1v_48)) hD [] (by decide) rfl, hS, lv_sub hl [0, 1, 2, 4, 5, 6] rfl⟩
  · skip
    have hres := res_in (s_tn st) (s_tf st) (s_tol st)
    have hlea := lea_rng (s_tn st) (s_tf st)
    have hy := rd_yes hd0
    obtain ⟨hd2, hd9, hdn⟩ := dgc_pos hd0
    have he9 : resF (s_tn st) (s_tf st) (s_tol st) = (-1) := hq
    rw [he9] at hl
    have hl : lv_has ls 10 [(5, .int ((nI (s_tn st) - 5) / 4)), (4, .int (leaF (s_tn st) (s_tf st))), (3, .int (failF (s_tn st) (lnF (s_tn st) (s_tf st) 1) (s_tol st))), (2, .int (failF (s_tn st) (lnF (s_tn st) (s_tf st) 0) (s_tol st))), (1, .int (-1)), (0, .ref (a 0))] := hl
    have he9 : failF (s_tn st) (lnF (s_tn st) (s_tf st) 1) (s_tol st) = 0 := hb9
    rw [he9] at hl
    have hl : lv_has ls 10 [(5, .int ((nI (s_tn st) - 5) / 4)), (4, .int (leaF (s_tn st) (s_tf st))), (3, .int 0), (2, .int (failF (s_tn st) (lnF (s_tn st) (s_tf st) 0) (s_tol st))), (1, .int (-1)), (0, .ref (a 0))] := hl
    have hls : 0 < leaF (s_tn st) (s_tf st) := by obtain ⟨t, t1, t8, te⟩ := htl; exact lea_hit t1 t8 (by rw [← te, hq]; decide)
    have he9 : ((nI (s_tn st) - 5) / 4) = (nI (dgc (s_tn st))) := rd_n hd0
    rw [he9] at hl
    have hl : lv_has ls 10 [(5, .int (nI (dgc (s_tn st)))), (4, .int (leaF (s_tn st) (s_tf st))), (3, .int 0), (2, .int (failF (s_tn st) (lnF (s_tn st) (s_tf st) 0) (s_tol st))), (1, .int (-1)), (0, .ref (a 0))] := hl
    refine lv_iload_n hx hb dL_reading_33 rfl (lv_at hl 4 rfl) ?_
    refine lv_iload_n hx hb dL_reading_34 rfl (lv_at hl 3 rfl) ?_
    refine lv_if_ne (tgt := 42) hx hb dL_reading_35 (by decide) (fun c_63 => ?_) (fun c9 => absurd c9 ha)
    refine lv_iload_n hx hb dL_reading_42 rfl (lv_at hl 2 rfl) ?_
    refine lv_if_ne (tgt := 50) hx hb dL_reading_43 (by decide) (fun c9 => absurd (by decide) c9) (fun _ => ?_)
    refine lv_iconst (v := (-1)) hx hb dL_reading_46 (by decide) ?_
    refine lv_goto (tgt := 60) hx hb dL_reading_47 (by decide) ?_
    refine lv_icmp_ne (tgt := 148) hx hb dL_reading_60 (by decide) (fun c9 => absurd (by decide) c9) (fun _ => ?_)
    refine lv_iload_n hx hb dL_reading_63 rfl (lv_at hl 3 rfl) ?_
    refine lv_iconst (v := 1) hx hb dL_reading_64 (by decide) ?_
    refine lv_icmp_ne (tgt := 72) hx hb dL_reading_65 (by decide) (fun c_64 => ?_) (fun c9 => absurd c9 ha1)
    refine lv_iconst (v := 0) hx hb dL_reading_72 (by decide) ?_
    refine lv_iload_n hx hb dL_reading_73 rfl (lv_at hl 2 rfl) ?_
    refine lv_iconst (v := 1) hx hb dL_reading_74 (by decide) ?_
    refine lv_icmp_ne (tgt := 82) hx hb dL_reading_75 (by decide) (fun _ => ?_) (fun c9 => absurd c9 (by decide))
    refine lv_iconst (v := 0) hx hb dL_reading_82 (by decide) ?_
    refine lv_icmp_ne (tgt := 148) hx hb dL_reading_83 (by decide) (fun c9 => absurd (by decide) c9) (fun _ => ?_)
    refine lv_iload_n hx hb dL_reading_86 rfl (lv_at hl 3 rfl) ?_
    refine lv_iconst (v := 1) hx hb dL_reading_87 (by decide) ?_
    refine lv_icmp_ne (tgt := 95) hx hb dL_reading_88 (by decide) (fun c_65 => ?_) (fun c9 => absurd c9 ha1)
    refine lv_iconst (v := 0) hx hb dL_reading_95 (by decide) ?_
    refine lv_aload_n hx hb dL_reading_96 rfl (lv_at hl 5 rfl) ?_
    have ct := k_cut_TT (wp := []) (T := (WW a K KS st hs sc1v_11)) (wc := []) (wr := []) (tc := [(K, .int), (KS, .object "BarcodeWand$State")]) hG hS hA hK hP hD [] [] [0, 1] rfl rfl (by decide) (by decide) (by decide) rfl
    refine k_endi (As := [.ref (a 0)]) ct (k_runV (As := []) (rest := [.int 0]) S0 Lv_L_113 rfl (ci := 7) (q0 := 0) rfl (WW_0 a K KS st hs sc1v_11) ct (c_B_times l D a K KS st hs sc1v_11 H.size) hl.1 rfl (Nat.le_of_ble_eq_true rfl) rfl dL_reading_97 ⟨⟨Nat.le_of_ble_eq_true rfl, Nat.le_of_ble_eq_true rfl⟩, Nat.le_of_ble_eq_true rfl, Nat.le_of_ble_eq_true rfl⟩) rfl rfl (fun r_66 _ H locs hw_67 hP hD hK hS => ?_)
    have hK : va_K D vwCl [(K, .int), (KS, .object "BarcodeWand$State")] s := hK
    have hP : va_P D vwCl ((WW a K KS st hs sc1v_11)) H := hP
    have hD : va_D A ((WW a K KS st hs sc1v_11)) := hD
    have hw_67 : r_66 = (nI (s_tn st)) := hw_67
    have hw_67 := hw_67.symm
    subst hw_67
    refine k_nrm (y := (nI (s_tn st))) rfl ?_
    refine lv_bipush (v := 13) hx hb dL_reading_100 (by decide) ?_
    refine lv_icmp_lt (tgt := 115) hx hb dL_reading_102 (by decide) (fun c9 => absurd c9 (nI_nlt (b := 13) hy.1 (by omega))) (fun c_68 => ?_)
    refine lv_aload_n hx hb dL_reading_105 rfl (lv_at hl 5 rfl) ?_
    have ct := k_cut_TT (wp := []) (T := (WW a K KS st hs sc1v_11)) (wc := []) (wr := []) (tc := [(K, .int), (KS, .object "BarcodeWand$State")]) hG hS hA hK hP hD [] [] [0, 1] rfl rfl (by decide) (by decide) (by decide) rfl
    refine k_endi (As := [.ref (a 0)]) ct (k_runV (As := []) (rest := [.int 0]) S0 Lv_L_113 rfl (ci := 7) (q0 := 0) rfl (WW_0 a K KS st hs sc1v_11) ct (c_B_times l D a K KS st hs sc1v_11 H.size) hl.1 rfl (Nat.le_of_ble_eq_true rfl) rfl dL_reading_106 ⟨⟨Nat.le_of_ble_eq_true rfl, Nat.le_of_ble_eq_true rfl⟩, Nat.le_of_ble_eq_true rfl, Nat.le_of_ble_eq_true rfl⟩) rfl rfl (fun r_69 _ H locs hw_70 hP hD hK hS => ?_)
    have hK : va_K D vwCl [(K, .int), (KS, .object "BarcodeWand$State")] s := hK
    have hP : va_P D vwCl ((WW a K KS st hs sc1v_11)) H := hP
    have hD : va_D A ((WW a K KS st hs sc1v_11)) := hD
    have hw_70 : r_69 = (nI (s_tn st)) := hw_70
    have hw_70 := hw_70.symm
    subst hw_70
    refine k_nrm (y := (nI (s_tn st))) rfl ?_
    refine lv_iconst (v := 4) hx hb dL_reading_109 (by decide) ?_
    refine lv_irem hx hb dL_reading_110 (by decide) ?_
    refine k_nrm (y := (nI (s_tn st % 4))) (pk_rem (d := 4) (by omega) (by decide) (by decide)) ?_
    refine lv_iconst (v := 1) hx hb dL_reading_111 (by decide) ?_
    refine lv_icmp_eq (tgt := 119) hx hb dL_reading_112 (by decide) (fun c_71 => ?_) (fun c9 => absurd (by rw [hy.2]; rfl) c9)
    refine lv_iconst (v := 0) hx hb dL_reading_119 (by decide) ?_
    refine lv_icmp_ne (tgt := 148) hx hb dL_reading_120 (by decide) (fun c9 => absurd (by decide) c9) (fun _ => ?_)
    refine lv_iload_n hx hb dL_reading_123 rfl (lv_at hl 4 rfl) ?_
    refine lv_if_gt (tgt := 132) hx hb dL_reading_124 (by decide) (fun c9 => absurd c9 (by decide)) (fun _ => ?_)
    refine lv_iload hx hb dL_reading_127 (lv_at hl 1 rfl) ?_
    refine lv_if_le (tgt := 148) hx hb dL_reading_129 (by decide) (fun c9 => absurd c9 (fun q9 => absurd hls (Int32.not_lt.mpr q9))) (fun c_72 => ?_)
    refine lv_iload hx hb dL_reading_132 (lv_at hl 1 rfl) ?_
    refine lv_if_eq (tgt := 148) hx hb dL_reading_134 (by decide) (fun c9 => absurd c9 hlea.1) (fun c_73 => ?_)
    refine lv_iload hx hb dL_reading_137 (lv_at hl 1 rfl) ?_
    refine lv_bipush (v := 9) hx hb dL_reading_139 (by decide) ?_
    refine lv_icmp_ge (tgt := 148) hx hb dL_reading_141 (by decide) (fun c9 => absurd c9 hlea.2) (fun c_74 => ?_)
    refine lv_iconst (v := 1) hx hb dL_reading_144 (by decide) ?_
    refine lv_goto (tgt := 149) hx hb dL_reading_145 (by decide) ?_
    refine lv_istore (lv' := [(6, .int 1), (5, .int (nI (dgc (s_tn st)))), (4, .int (leaF (s_tn st) (s_tf st))), (3, .int 0), (2, .int (failF (s_tn st) (lnF (s_tn st) (s_tf st) 0) (s_tol st))), (1, .int (-1)), (0, .ref (a 0))]) hx hb dL_reading_149 hl (by decide) rfl (fun ls hl => ?_)
    refine lv_iconst (v := 0) hx hb dL_reading_151 (by decide) ?_
    refine lv_istore (lv' := [(7, .int 0), (6, .int 1), (5, .int (nI (dgc (s_tn st)))), (4, .int (leaF (s_tn st) (s_tf st))), (3, .int 0), (2, .int (failF (s_tn st) (lnF (s_tn st) (s_tf st) 0) (s_tol st))), (1, .int (-1)), (0, .ref (a 0))]) hx hb dL_reading_152 hl (by decide) rfl (fun ls hl => ?_)
    refine lv_iconst (v := 0) hx hb dL_reading_154 (by decide) ?_
    refine lv_istore (lv' := [(8, .int 0), (7, .int 0), (6, .int 1), (5, .int (nI (dgc (s_tn st)))), (4, .int (leaF (s_tn st) (s_tf st))), (3, .int 0), (2, .int (failF (s_tn st) (lnF (s_tn st) (s_tf st) 0) (s_tol st))), (1, .int (-1)), (0, .ref (a 0))]) hx hb dL_reading_155 hl (by decide) rfl (fun ls hl => ?_)
    have hl : lv_has ls 10 [(8, .int (nI 0)), (7, .int 0), (6, .int 1), (5, .int (nI (dgc (s_tn st)))), (4, .int (leaF (s_tn st) (s_tf st))), (3, .int 0), (2, .int (failF (s_tn st) (lnF (s_tn st) (s_tf st) 0) (s_tol st))), (1, .int (-1)), (0, .ref (a 0))] := hl
    have he9 : 0 = (rS (nrD (s_tn st) (lnF (s_tn st) (s_tf st) 1)) (dgc (s_tn st)) 0) := (rS_0 _ _).symm
    rw [he9] at hl
    have hl : lv_has ls 10 [(8, .int (nI 0)), (7, .int (rS (nrD (s_tn st) (lnF (s_tn st) (s_tf st) 1)) (dgc (s_tn st)) 0)), (6, .int 1), (5, .int (nI (dgc (s_tn st)))), (4, .int (leaF (s_tn st) (s_tf st))), (3, .int (rS (nrD (s_tn st) (lnF (s_tn st) (s_tf st) 1)) (dgc (s_tn st)) 0)), (2, .int (failF (s_tn st) (lnF (s_tn st) (s_tf st) 0) (s_tol st))), (1, .int (-1)), (0, .ref (a 0))] := hl
    refine k_loop (ι := Nat × SCT) (fun (x9 : Nat × SCT) H9 locs9 ls9 => match x9 with | (i, z) => (i ≤ 9) ∧ va_P D vwCl ((WW a K KS st hs z)) H9 ∧ va_D A ((WW a K KS st hs z)) ∧ va_S A s.heap H9 locs9 ∧ lv_has ls9 10 [(8, .int (nI i)), (7, .int (rS (nrD (s_tn st) (lnF (s_tn st) (s_tf st) 1)) (dgc (s_tn st)) i)), (6, .int 1), (5, .int (nI (dgc (s_tn st)))), (1, .int (-1)), (0, .ref (a 0))]) (fun (x9 : Nat × SCT) => match x9 with | (i, z) => 9 - i) ?_ ((0, sc1v_11)) ⟨(Nat.zero_le _), k_subP (wp := []) (wp' := []) (T := (WW a K KS st hs sc1v_11)) hP [] rfl, k_subD (wp := []) (wp' := []) (T := (WW a K KS st hs sc1v_11)) hD [] (by decide) rfl, hS, lv_sub hl [0, 1, 2, 3, 7, 8] rfl⟩
    intro x9 H locs ls hF9 ih9
    obtain ⟨i, z⟩ := x9
    obtain ⟨hi, hP, hD, hS, hl⟩ := hF9
    try dsimp only at ih9
    have hP : va_P D vwCl ((WW a K KS st hs z)) H := hP
    have hD : va_D A ((WW a K KS st hs z)) := hD
    have hl : lv_has ls 10 [(8, .int (nI i)), (7, .int (rS (nrD (s_tn st) (lnF (s_tn st) (s_tf st) 1)) (dgc (s_tn st)) i)), (6, .int 1), (5, .int (nI (dgc (s_tn st)))), (1, .int (-1)), (0, .ref (a 0))] := hl
    refine lv_iload hx hb dL_reading_157 (lv_at hl 0 rfl) ?_
    refine lv_bipush (v := 9) hx hb dL_reading_159 (by decide) ?_
    refine lv_icmp_ge (tgt := 279) hx hb dL_reading_161 (by decide) (fun c_75 => ?_) (fun c_75 => ?_)
    · have hc9 := c_75
      obtain rfl : 9 = i := by rcases Nat.lt_or_ge i 9 with q9 | q9; exact absurd c_75 (nI_ge (b := 9) q9 (by decide)); omega
      refine lv_iload hx hb dL_reading_279 (lv_at hl 2 rfl) ?_
      refine lv_if_eq (tgt := 300) hx hb dL_reading_281 (by decide) (fun c9 => absurd c9 (by decide)) (fun _ => ?_)
      refine lv_iload_n hx hb dL_reading_284 rfl (lv_at hl 4 rfl) ?_
      refine lv_if_gt (tgt := 296) hx hb dL_reading_285 (by decide) (fun c9 => absurd c9 (by decide)) (fun _ => ?_)
      refine lv_iload hx hb dL_reading_288 (lv_at hl 1 rfl) ?_
      refine lv_bipush (v := 10) hx hb dL_reading_290 (by decide) ?_
      refine lv_irem hx hb dL_reading_292 (by decide) ?_
      refine k_nrm (y := (rem10 (rS (nrD (s_tn st) (lnF (s_tn st) (s_tf st) 1)) (dgc (s_tn st)) 9))) (rfl) ?_
      refine lv_if_ne (tgt := 300) hx hb dL_reading_293 (by decide) (fun c9 => absurd (rS_9 hd2 hd9 (fun m9 => nrD_rng _ _ m9) (nrD_ck hb9)) c9) (fun c_76 => ?_)
      refine lv_iconst (v := 1) hx hb dL_reading_296 (by decide) ?_
      refine lv_goto (tgt := 301) hx hb dL_reading_297 (by decide) ?_
      have hP9 : va_P D vwCl ((WW a K KS st hs z)) H := k_subP (wp := []) (wp' := []) (T := (WW a K KS st hs z)) hP [] rfl
      have hD9 : va_D A ((WW a K KS st hs z)) := k_subD (wp := []) (wp' := []) (T := (WW a K KS st hs z)) hD [] (by decide) rfl
      have hP9 : va_P D vwCl ((WW a K KS st hs z)) H := hP9
      have hD9 : va_D A ((WW a K KS st hs z)) := hD9
      have hK9 : va_K D vwCl [] s := hK.sub [] rfl
      exact W.zret (v := 1) hx hb hr (rfl) (fun t ht9 hW9 => ⟨⟨1, z, rfl, by first | rfl | trivial | (simp only [c_63, c_64, c_65, c_68, c_71, c_72, c_73, c_74, hi, c_75, c_76, if_true, if_false, reduceIte, and_self]; done) | simp_all, ⟨by rw [ht9]; exact hP9, va_K.moved hW9.alike hK9, hD9⟩⟩, hS.F ht9⟩) hS.2.2 dL_reading_301
    · have hc9 := c_75
      have hik : i + 1 ≤ 9 := by rcases Nat.lt_or_ge i 9 with q9 | q9; exact q9; exact absurd (nI_le (a := 9) q9 (by omega)) c_75
      refine lv_iload hx hb dL_reading_164 (lv_at hl 2 rfl) ?_
      refine lv_if_eq (tgt := 279) hx hb dL_reading_166 (by decide) (fun c9 => absurd c9 (by decide)) (fun _ => ?_)
      refine lv_aload_n hx hb dL_reading_169 rfl (lv_at hl 5 rfl) ?_
      refine lv_iload hx hb dL_reading_170 (lv_at hl 0 rfl) ?_
      have ct := k_cut_TT (wp := []) (T := (WW a K KS st hs z)) (wc := []) (wr := []) (tc := [(K, .int), (KS, .object "BarcodeWand$State")]) hG hS hA hK hP hD [] [] [0, 1] rfl rfl (by decide) (by decide) (by decide) rfl
      refine k_endi (As := [.ref (a 0), .int (nI i)]) ct (k_runSW (As := [.ref (a 0), .int (nI i)]) (rest := []) S0 Ls_L_116 ct (c_L_digit l D a K KS st hs z i (by assumption) (by omega) H.size) hl.1 rfl (Nat.le_of_ble_eq_true rfl) rfl dL_reading_172 ⟨⟨Nat.le_of_ble_eq_true rfl, Nat.le_of_ble_eq_true rfl⟩, Nat.le_of_ble_eq_true rfl, Nat.le_of_ble_eq_true rfl⟩) rfl rfl (fun r_77 sc1v_78 H locs hw_79 hP hD hK hS => ?_)
      have hK : va_K D vwCl [(K, .int), (KS, .object "BarcodeWand$State")] s := hK
      have hP : va_P D vwCl ((WW a K KS st hs sc1v_78)) H := hP
      have hD : va_D A ((WW a K KS st hs sc1v_78)) := hD
      have hw_79 : r_77 = digR (s_tn st) (s_tf st) (s_tol st) i := hw_79
      have hw_79 := hw_79.symm
      subst hw_79
      refine k_nrm (y := digR (s_tn st) (s_tf st) (s_tol st) i) rfl ?_
      rcases Nat.lt_or_ge i (dgc (s_tn st)) with hnk | hnk
      · skip
        obtain ⟨d, hd, he⟩ := nrD_rng (s_tn st) (lnF (s_tn st) (s_tf st) 1) i
        refine k_nrm (y := (nrD (s_tn st) (lnF (s_tn st) (s_tf st) 1) i)) (digR_b hq hnk) ?_
        have hlt : ¬ nI (dgc (s_tn st)) ≤ nI i := nI_ge hnk (by omega)
        refine lv_istore (lv' := [(9, .int (nrD (s_tn st) (lnF (s_tn st) (s_tf st) 1) i)), (8, .int (nI i)), (7, .int (rS (nrD (s_tn st) (lnF (s_tn st) (s_tf st) 1)) (dgc (s_tn st)) i)), (6, .int 1), (5, .int (nI (dgc (s_tn st)))), (1, .int (-1)), (0, .ref (a 0))]) hx hb dL_reading_175 hl (by decide) rfl (fun ls hl => ?_)
        refine lv_iload_n hx hb dL_reading_177 rfl (lv_at hl 5 rfl) ?_
        refine lv_if_gt (tgt := 188) hx hb dL_reading_178 (by decide) (fun c9 => absurd c9 (by decide)) (fun _ => ?_)
        refine lv_iload hx hb dL_reading_181 (lv_at hl 1 rfl) ?_
        refine lv_iload hx hb dL_reading_183 (lv_at hl 4 rfl) ?_
        refine lv_icmp_lt (tgt := 202) hx hb dL_reading_185 (by decide) (fun c_80 => ?_) (fun c9 => absurd (nI_lt hnk (by omega)) c9)
        refine lv_iload hx hb dL_reading_202 (lv_at hl 0 rfl) ?_
        refine lv_if_lt (tgt := 237) hx hb dL_reading_204 (by decide) (fun c9 => absurd c9 (by rw [he]; exact nI_pos (by omega))) (fun c_81 => ?_)
        refine lv_iload hx hb dL_reading_207 (lv_at hl 0 rfl) ?_
        refine lv_bipush (v := 10) hx hb dL_reading_209 (by decide) ?_
        refine lv_icmp_ge (tgt := 237) hx hb dL_reading_211 (by decide) (fun c9 => absurd c9 (by rw [he]; exact nI_ge (a := d) (b := 10) (by omega) (by decide))) (fun c_82 => ?_)
        refine lv_iload_n hx hb dL_reading_214 rfl (lv_at hl 5 rfl) ?_
        refine lv_if_lt (tgt := 233) hx hb dL_reading_215 (by decide) (fun _ => ?_) (fun c9 => absurd (by decide) c9)
        refine lv_iconst (v := 1) hx hb dL_reading_233 (by decide) ?_
        refine lv_goto (tgt := 238) hx hb dL_reading_234 (by decide) ?_
        refine lv_istore (lv' := [(6, .int 1), (9, .int (nrD (s_tn st) (lnF (s_tn st) (s_tf st) 1) i)), (8, .int (nI i)), (7, .int (rS (nrD (s_tn st) (lnF (s_tn st) (s_tf st) 1)) (dgc (s_tn st)) i)), (5, .int (nI (dgc (s_tn st)))), (1, .int (-1)), (0, .ref (a 0))]) hx hb dL_reading_238 hl (by decide) rfl (fun ls hl => ?_)
        refine lv_iload hx hb dL_reading_240 (lv_at hl 3 rfl) ?_
        refine lv_iload hx hb dL_reading_242 (lv_at hl 1 rfl) ?_
        refine lv_if_ge (tgt := 251) hx hb dL_reading_244 (by decide) (fun c_83 => ?_) (fun c9 => absurd (by rw [he]; exact nI_pos' (by omega)) c9)
        refine lv_iload hx hb dL_reading_251 (lv_at hl 4 rfl) ?_
        refine lv_iload hx hb dL_reading_253 (lv_at hl 2 rfl) ?_
        refine lv_isub hx hb dL_reading_255 ?_
        refine k_nrm (y := (nI (dgc (s_tn st) - i))) (pk_sub (by omega)) ?_
        refine lv_iconst (v := 2) hx hb dL_reading_256 (by decide) ?_
        refine lv_irem hx hb dL_reading_257 (by decide) ?_
        refine k_nrm (y := (nI ((dgc (s_tn st) - i) % 2))) (pk_rem (d := 2) (by omega) (by decide) (by decide)) ?_
        refine lv_if_ne (tgt := 268) hx hb dL_reading_258 (by decide) (fun c_84 => ?_) (fun c_84 => ?_)
        · have hc9 := c_84
          refine lv_iload hx hb dL_reading_268 (lv_at hl 1 rfl) ?_
          refine lv_iadd hx hb dL_reading_270 ?_
          refine k_nrm (y := (rS (nrD (s_tn st) (lnF (s_tn st) (s_tf st) 1)) (dgc (s_tn st)) (i + 1))) (rS_b hnk c_84) ?_
          refine lv_istore (lv' := [(7, .int (rS (nrD (s_tn st) (lnF (s_tn st) (s_tf st) 1)) (dgc (s_tn st)) (i + 1))), (6, .int 1), (9, .int (nrD (s_tn st) (lnF (s_tn st) (s_tf st) 1) i)), (8, .int (nI i)), (5, .int (nI (dgc (s_tn st)))), (1, .int (-1)), (0, .ref (a 0))]) hx hb dL_reading_271 hl (by decide) rfl (fun ls hl => ?_)
          obtain ⟨x_85, ex_85⟩ : ∃ z : Int32, z = (nI i) + 1 := ⟨_, rfl⟩
          refine lv_iinc (v := x_85) (lv' := [(8, .int x_85), (7, .int (rS (nrD (s_tn st) (lnF (s_tn st) (s_tf st) 1)) (dgc (s_tn st)) (i + 1))), (6, .int 1), (9, .int (nrD (s_tn st) (lnF (s_tn st) (s_tf st) 1) i)), (5, .int (nI (dgc (s_tn st)))), (1, .int (-1)), (0, .ref (a 0))]) hx hb dL_reading_273 hl (k := 3) rfl (by rw [ex_85]; rfl) (by decide) rfl (fun ls hl => ?_)
          refine lv_goto (tgt := 157) hx hb dL_reading_276 (by decide) ?_
          have he9 : x_85 = (nI (i + 1)) := by rw [ex_85]; exact nI_1 i
          rw [he9] at hl
          have hl : lv_has ls 10 [(8, .int (nI (i + 1))), (7, .int (rS (nrD (s_tn st) (lnF (s_tn st) (s_tf st) 1)) (dgc (s_tn st)) (i + 1))), (6, .int 1), (9, .int (nrD (s_tn st) (lnF (s_tn st) (s_tf st) 1) i)), (5, .int (nI (dgc (s_tn st)))), (1, .int (-1)), (0, .ref (a 0))] := hl
          exact ih9 ((i + 1, sc1v_78)) H locs ls (by omega) ⟨hik, k_subP (wp := []) (wp' := []) (T := (WW a K KS st hs sc1v_78)) hP [] rfl, k_subD (wp := []) (wp' := []) (T := (WW a K KS st hs sc1v_78)) hD [] (by decide) rfl, hS, lv_sub hl [0, 1, 2, 4, 5, 6] rfl⟩
        · have hc9 := c_84
          refine lv_iconst (v := 3) hx hb dL_reading_261 (by decide) ?_
          refine lv_iload hx hb dL_reading_262 (lv_at hl 1 rfl) ?_
          refine lv_imul hx hb dL_reading_264 ?_
          refine k_nrm (y := (3 * (nrD (s_tn st) (lnF (s_tn st) (s_tf st) 1) i))) (rfl) ?_
          refine lv_goto (tgt := 270) hx hb dL_reading_265 (by decide) ?_
          refine lv_iadd hx hb dL_reading_270 ?_
          refine k_nrm (y := (rS (nrD (s_tn st) (lnF (s_tn st) (s_tf st) 1)) (dgc (s_tn st)) (i + 1))) (rS_a hnk c_84) ?_
          refine lv_istore (lv' := [(7, .int (rS (nrD (s_tn st) (lnF (s_tn st) (s_tf st) 1)) (dgc (s_tn st)) (i + 1))), (6, .int 1), (9, .int (nrD (s_tn st) (lnF (s_tn st) (s_tf st) 1) i)), (8, .int (nI i)), (5, .int (nI (dgc (s_tn st)))), (1, .int (-1)), (0, .ref (a 0))]) hx hb dL_reading_271 hl (by decide) rfl (fun ls hl => ?_)
          obtain ⟨x_86, ex_86⟩ : ∃ z : Int32, z = (nI i) + 1 := ⟨_, rfl⟩
          refine lv_iinc (v := x_86) (lv' := [(8, .int x_86), (7, .int (rS (nrD (s_tn st) (lnF (s_tn st) (s_tf st) 1)) (dgc (s_tn st)) (i + 1))), (6, .int 1), (9, .int (nrD (s_tn st) (lnF (s_tn st) (s_tf st) 1) i)), (5, .int (nI (dgc (s_tn st)))), (1, .int (-1)), (0, .ref (a 0))]) hx hb dL_reading_273 hl (k := 3) rfl (by rw [ex_86]; rfl) (by decide) rfl (fun ls hl => ?_)
          refine lv_goto (tgt := 157) hx hb dL_reading_276 (by decide) ?_
          have he9 : x_86 = (nI (i + 1)) := by rw [ex_86]; exact nI_1 i
          rw [he9] at hl
          have hl : lv_has ls 10 [(8, .int (nI (i + 1))), (7, .int (rS (nrD (s_tn st) (lnF (s_tn st) (s_tf st) 1)) (dgc (s_tn st)) (i + 1))), (6, .int 1), (9, .int (nrD (s_tn st) (lnF (s_tn st) (s_tf st) 1) i)), (5, .int (nI (dgc (s_tn st)))), (1, .int (-1)), (0, .ref (a 0))] := hl
          exact ih9 ((i + 1, sc1v_78)) H locs ls (by omega) ⟨hik, k_subP (wp := []) (wp' := []) (T := (WW a K KS st hs sc1v_78)) hP [] rfl, k_subD (wp := []) (wp' := []) (T := (WW a K KS st hs sc1v_78)) hD [] (by decide) rfl, hS, lv_sub hl [0, 1, 2, 4, 5, 6] rfl⟩
      · skip
        refine k_nrm (y := (-1)) (digR_out (by rw [hq]; decide) hnk) ?_
        have hge : nI (dgc (s_tn st)) ≤ nI i := nI_le hnk (by omega)
        refine lv_istore (lv' := [(9, .int (-1)), (8, .int (nI i)), (7, .int (rS (nrD (s_tn st) (lnF (s_tn st) (s_tf st) 1)) (dgc (s_tn st)) i)), (6, .int 1), (5, .int (nI (dgc (s_tn st)))), (1, .int (-1)), (0, .ref (a 0))]) hx hb dL_reading_175 hl (by decide) rfl (fun ls hl => ?_)
        refine lv_iload_n hx hb dL_reading_177 rfl (lv_at hl 5 rfl) ?_
        refine lv_if_gt (tgt := 188) hx hb dL_reading_178 (by decide) (fun c9 => absurd c9 (by decide)) (fun _ => ?_)
        refine lv_iload hx hb dL_reading_181 (lv_at hl 1 rfl) ?_
        refine lv_iload hx hb dL_reading_183 (lv_at hl 4 rfl) ?_
        refine lv_icmp_lt (tgt := 202) hx hb dL_reading_185 (by decide) (fun c9 => absurd c9 (nI_nlt hnk (by omega))) (fun c_87 => ?_)
        refine lv_iload hx hb dL_reading_188 (lv_at hl 0 rfl) ?_
        refine lv_iconst (v := (-1)) hx hb dL_reading_190 (by decide) ?_
        refine lv_icmp_ne (tgt := 198) hx hb dL_reading_191 (by decide) (fun c9 => absurd (by decide) c9) (fun _ => ?_)
        refine lv_iconst (v := 1) hx hb dL_reading_194 (by decide) ?_
        refine lv_goto (tgt := 238) hx hb dL_reading_195 (by decide) ?_
        refine lv_istore (lv' := [(6, .int 1), (9, .int (-1)), (8, .int (nI i)), (7, .int (rS (nrD (s_tn st) (lnF (s_tn st) (s_tf st) 1)) (dgc (s_tn st)) i)), (5, .int (nI (dgc (s_tn st)))), (1, .int (-1)), (0, .ref (a 0))]) hx hb dL_reading_238 hl (by decide) rfl (fun ls hl => ?_)
        refine lv_iload hx hb dL_reading_240 (lv_at hl 3 rfl) ?_
        refine lv_iload hx hb dL_reading_242 (lv_at hl 1 rfl) ?_
        refine lv_if_ge (tgt := 251) hx hb dL_reading_244 (by decide) (fun c9 => absurd c9 (by decide)) (fun _ => ?_)
        refine lv_iconst (v := 0) hx hb dL_reading_247 (by decide) ?_
        refine lv_goto (tgt := 270) hx hb dL_reading_248 (by decide) ?_
        refine lv_iadd hx hb dL_reading_270 ?_
        refine k_nrm (y := (rS (nrD (s_tn st) (lnF (s_tn st) (s_tf st) 1)) (dgc (s_tn st)) (i + 1))) ((Int32.add_zero _).trans (rS_out hnk).2.symm) ?_
        refine lv_istore (lv' := [(7, .int (rS (nrD (s_tn st) (lnF (s_tn st) (s_tf st) 1)) (dgc (s_tn st)) (i + 1))), (6, .int 1), (9, .int (-1)), (8, .int (nI i)), (5, .int (nI (dgc (s_tn st)))), (1, .int (-1)), (0, .ref (a 0))]) hx hb dL_reading_271 hl (by decide) rfl (fun ls hl => ?_)
        obtain ⟨x_88, ex_88⟩ : ∃ z : Int32, z = (nI i) + 1 := ⟨_, rfl⟩
        refine lv_iinc (v := x_88) (lv' := [(8, .int x_88), (7, .int (rS (nrD (s_tn st) (lnF (s_tn st) (s_tf st) 1)) (dgc (s_tn st)) (i + 1))), (6, .int 1), (9, .int (-1)), (5, .int (nI (dgc (s_tn st)))), (1, .int (-1)), (0, .ref (a 0))]) hx hb dL_reading_273 hl (k := 3) rfl (by rw [ex_88]; rfl) (by decide) rfl (fun ls hl => ?_)
        refine lv_goto (tgt := 157) hx hb dL_reading_276 (by decide) ?_
        have he9 : x_88 = (nI (i + 1)) := by rw [ex_88]; exact nI_1 i
        rw [he9] at hl
        have hl : lv_has ls 10 [(8, .int (nI (i + 1))), (7, .int (rS (nrD (s_tn st) (lnF (s_tn st) (s_tf st) 1)) (dgc (s_tn st)) (i + 1))), (6, .int 1), (9, .int (-1)), (5, .int (nI (dgc (s_tn st)))), (1, .int (-1)), (0, .ref (a 0))] := hl
        exact ih9 ((i + 1, sc1v_78)) H locs ls (by omega) ⟨hik, k_subP (wp := []) (wp' := []) (T := (WW a K KS st hs sc1v_78)) hP [] rfl, k_subD (wp := []) (wp' := []) (T := (WW a K KS st hs sc1v_78)) hD [] (by decide) rfl, hS, lv_sub hl [0, 1, 2, 4, 5, 6] rfl⟩
  · skip
    have hres := res_in (s_tn st) (s_tf st) (s_tol st)
    have hlea := lea_rng (s_tn st) (s_tf st)
    have hy := rd_yes hd0
    obtain ⟨hd2, hd9, hdn⟩ := dgc_pos hd0
    obtain ⟨rr, hrr⟩ : ∃ z9 : Int32, z9 = (resF (s_tn st) (s_tf st) (s_tol st)) := ⟨_, rfl⟩
    have he9 : resF (s_tn st) (s_tf st) (s_tol st) = rr := hrr.symm
    rw [he9] at hl
    have hl : lv_has ls 10 [(5, .int ((nI (s_tn st) - 5) / 4)), (4, .int (leaF (s_tn st) (s_tf st))), (3, .int (failF (s_tn st) (lnF (s_tn st) (s_tf st) 1) (s_tol st))), (2, .int (failF (s_tn st) (lnF (s_tn st) (s_tf st) 0) (s_tol st))), (1, .int rr), (0, .ref (a 0))] := hl
    have hgt : 0 < rr := by rw [hrr]; rcases hres.2 with q9 | q9; exact absurd (by rw [hq]; exact (mx_gt (failF_in _ _ _) (failF_in _ _ _) ha).1) q9.2; exact q9.2
    obtain ⟨xn, hxn⟩ : ∃ z9 : Int32, z9 = (nI (s_tn st) - 5) / 4 := ⟨_, rfl⟩
    have he9 : ((nI (s_tn st) - 5) / 4) = xn := hxn.symm
    rw [he9] at hl
    have hl : lv_has ls 10 [(5, .int xn), (4, .int (leaF (s_tn st) (s_tf st))), (3, .int (failF (s_tn st) (lnF (s_tn st) (s_tf st) 1) (s_tol st))), (2, .int (failF (s_tn st) (lnF (s_tn st) (s_tf st) 0) (s_tol st))), (1, .int rr), (0, .ref (a 0))] := hl
    refine lv_iload_n hx hb dL_reading_33 rfl (lv_at hl 4 rfl) ?_
    refine lv_iload_n hx hb dL_reading_34 rfl (lv_at hl 3 rfl) ?_
    refine lv_if_ne (tgt := 42) hx hb dL_reading_35 (by decide) (fun c_89 => ?_) (fun c9 => absurd c9 ha)
    refine lv_iload_n hx hb dL_reading_42 rfl (lv_at hl 2 rfl) ?_
    refine lv_if_ne (tgt := 50) hx hb dL_reading_43 (by decide) (fun c_90 => ?_) (fun c9 => absurd c9 hb9)
    refine lv_iload_n hx hb dL_reading_50 rfl (lv_at hl 3 rfl) ?_
    refine lv_iload_n hx hb dL_reading_51 rfl (lv_at hl 2 rfl) ?_
    refine lv_icmp_le (tgt := 59) hx hb dL_reading_52 (by decide) (fun c_91 => ?_) (fun c_91 => ?_)
    · have hc9 := c_91
      refine lv_iload_n hx hb dL_reading_59 rfl (lv_at hl 2 rfl) ?_
      refine lv_icmp_ne (tgt := 148) hx hb dL_reading_60 (by decide) (fun c9 => absurd (by rw [hrr, hq]; exact mx_le c_91) c9) (fun c_92 => ?_)
      refine lv_iload_n hx hb dL_reading_63 rfl (lv_at hl 3 rfl) ?_
      refine lv_iconst (v := 1) hx hb dL_reading_64 (by decide) ?_
      refine lv_icmp_ne (tgt := 72) hx hb dL_reading_65 (by decide) (fun c_93 => ?_) (fun c9 => absurd c9 ha1)
      refine lv_iconst (v := 0) hx hb dL_reading_72 (by decide) ?_
      refine lv_iload_n hx hb dL_reading_73 rfl (lv_at hl 2 rfl) ?_
      refine lv_iconst (v := 1) hx hb dL_reading_74 (by decide) ?_
      refine lv_icmp_ne (tgt := 82) hx hb dL_reading_75 (by decide) (fun c_94 => ?_) (fun c9 => absurd c9 hb1)
      refine lv_iconst (v := 0) hx hb dL_reading_82 (by decide) ?_
      refine lv_icmp_ne (tgt := 148) hx hb dL_reading_83 (by decide) (fun c9 => absurd (by decide) c9) (fun _ => ?_)
      refine lv_iload_n hx hb dL_reading_86 rfl (lv_at hl 3 rfl) ?_
      refine lv_iconst (v := 1) hx hb dL_reading_87 (by decide) ?_
      refine lv_icmp_ne (tgt := 95) hx hb dL_reading_88 (by decide) (fun c_95 => ?_) (fun c9 => absurd c9 ha1)
      refine lv_iconst (v := 0) hx hb dL_reading_95 (by decide) ?_
      refine lv_aload_n hx hb dL_reading_96 rfl (lv_at hl 5 rfl) ?_
      have ct := k_cut_TT (wp := []) (T := (WW a K KS st hs sc1v_11)) (wc := []) (wr := []) (tc := [(K, .int), (KS, .object "BarcodeWand$State")]) hG hS hA hK hP hD [] [] [0, 1] rfl rfl (by decide) (by decide) (by decide) rfl
      refine k_endi (As := [.ref (a 0)]) ct (k_runV (As := []) (rest := [.int 0]) S0 Lv_L_113 rfl (ci := 7) (q0 := 0) rfl (WW_0 a K KS st hs sc1v_11) ct (c_B_times l D a K KS st hs sc1v_11 H.size) hl.1 rfl (Nat.le_of_ble_eq_true rfl) rfl dL_reading_97 ⟨⟨Nat.le_of_ble_eq_true rfl, Nat.le_of_ble_eq_true rfl⟩, Nat.le_of_ble_eq_true rfl, Nat.le_of_ble_eq_true rfl⟩) rfl rfl (fun r_96 _ H locs hw_97 hP hD hK hS => ?_)
      have hK : va_K D vwCl [(K, .int), (KS, .object "BarcodeWand$State")] s := hK
      have hP : va_P D vwCl ((WW a K KS st hs sc1v_11)) H := hP
      have hD : va_D A ((WW a K KS st hs sc1v_11)) := hD
      have hw_97 : r_96 = (nI (s_tn st)) := hw_97
      have hw_97 := hw_97.symm
      subst hw_97
      refine k_nrm (y := (nI (s_tn st))) rfl ?_
      refine lv_bipush (v := 13) hx hb dL_reading_100 (by decide) ?_
      refine lv_icmp_lt (tgt := 115) hx hb dL_reading_102 (by decide) (fun c9 => absurd c9 (nI_nlt (b := 13) hy.1 (by omega))) (fun c_98 => ?_)
      refine lv_aload_n hx hb dL_reading_105 rfl (lv_at hl 5 rfl) ?_
      have ct := k_cut_TT (wp := []) (T := (WW a K KS st hs sc1v_11)) (wc := []) (wr := []) (tc := [(K, .int), (KS, .object "BarcodeWand$State")]) hG hS hA hK hP hD [] [] [0, 1] rfl rfl (by decide) (by decide) (by decide) rfl
      refine k_endi (As := [.ref (a 0)]) ct (k_runV (As := []) (rest := [.int 0]) S0 Lv_L_113 rfl (ci := 7) (q0 := 0) rfl (WW_0 a K KS st hs sc1v_11) ct (c_B_times l D a K KS st hs sc1v_11 H.size) hl.1 rfl (Nat.le_of_ble_eq_true rfl) rfl dL_reading_106 ⟨⟨Nat.le_of_ble_eq_true rfl, Nat.le_of_ble_eq_true rfl⟩, Nat.le_of_ble_eq_true rfl, Nat.le_of_ble_eq_true rfl⟩) rfl rfl (fun r_99 _ H locs hw_100 hP hD hK hS => ?_)
      have hK : va_K D vwCl [(K, .int), (KS, .object "BarcodeWand$State")] s := hK
      have hP : va_P D vwCl ((WW a K KS st hs sc1v_11)) H := hP
      have hD : va_D A ((WW a K KS st hs sc1v_11)) := hD
      have hw_100 : r_99 = (nI (s_tn st)) := hw_100
      have hw_100 := hw_100.symm
      subst hw_100
      refine k_nrm (y := (nI (s_tn st))) rfl ?_
      refine lv_iconst (v := 4) hx hb dL_reading_109 (by decide) ?_
      refine lv_irem hx hb dL_reading_110 (by decide) ?_
      refine k_nrm (y := (nI (s_tn st % 4))) (pk_rem (d := 4) (by omega) (by decide) (by decide)) ?_
      refine lv_iconst (v := 1) hx hb dL_reading_111 (by decide) ?_
      refine lv_icmp_eq (tgt := 119) hx hb dL_reading_112 (by decide) (fun c_101 => ?_) (fun c9 => absurd (by rw [hy.2]; rfl) c9)
      refine lv_iconst (v := 0) hx hb dL_reading_119 (by decide) ?_
      refine lv_icmp_ne (tgt := 148) hx hb dL_reading_120 (by decide) (fun c9 => absurd (by decide) c9) (fun _ => ?_)
      refine lv_iload_n hx hb dL_reading_123 rfl (lv_at hl 4 rfl) ?_
      refine lv_if_gt (tgt := 132) hx hb dL_reading_124 (by decide) (fun c_102 => ?_) (fun c9 => absurd hgt c9)
      refine lv_iload hx hb dL_reading_132 (lv_at hl 1 rfl) ?_
      refine lv_if_eq (tgt := 148) hx hb dL_reading_134 (by decide) (fun c9 => absurd c9 hlea.1) (fun c_103 => ?_)
      refine lv_iload hx hb dL_reading_137 (lv_at hl 1 rfl) ?_
      refine lv_bipush (v := 9) hx hb dL_reading_139 (by decide) ?_
      refine lv_icmp_ge (tgt := 148) hx hb dL_reading_141 (by decide) (fun c9 => absurd c9 hlea.2) (fun c_104 => ?_)
      refine lv_iconst (v := 1) hx hb dL_reading_144 (by decide) ?_
      refine lv_goto (tgt := 149) hx hb dL_reading_145 (by decide) ?_
      refine lv_istore (lv' := [(6, .int 1), (5, .int xn), (4, .int (leaF (s_tn st) (s_tf st))), (3, .int (failF (s_tn st) (lnF (s_tn st) (s_tf st) 1) (s_tol st))), (2, .int (failF (s_tn st) (lnF (s_tn st) (s_tf st) 0) (s_tol st))), (1, .int rr), (0, .ref (a 0))]) hx hb dL_reading_149 hl (by decide) rfl (fun ls hl => ?_)
      refine lv_iconst (v := 0) hx hb dL_reading_151 (by decide) ?_
      refine lv_istore (lv' := [(7, .int 0), (6, .int 1), (5, .int xn), (4, .int (leaF (s_tn st) (s_tf st))), (3, .int (failF (s_tn st) (lnF (s_tn st) (s_tf st) 1) (s_tol st))), (2, .int (failF (s_tn st) (lnF (s_tn st) (s_tf st) 0) (s_tol st))), (1, .int rr), (0, .ref (a 0))]) hx hb dL_reading_152 hl (by decide) rfl (fun ls hl => ?_)
      refine lv_iconst (v := 0) hx hb dL_reading_154 (by decide) ?_
      refine lv_istore (lv' := [(8, .int 0), (7, .int 0), (6, .int 1), (5, .int xn), (4, .int (leaF (s_tn st) (s_tf st))), (3, .int (failF (s_tn st) (lnF (s_tn st) (s_tf st) 1) (s_tol st))), (2, .int (failF (s_tn st) (lnF (s_tn st) (s_tf st) 0) (s_tol st))), (1, .int rr), (0, .ref (a 0))]) hx hb dL_reading_155 hl (by decide) rfl (fun ls hl => ?_)
      have hl : lv_has ls 10 [(8, .int (nI 0)), (7, .int 0), (6, .int 1), (5, .int xn), (4, .int (leaF (s_tn st) (s_tf st))), (3, .int (failF (s_tn st) (lnF (s_tn st) (s_tf st) 1) (s_tol st))), (2, .int (failF (s_tn st) (lnF (s_tn st) (s_tf st) 0) (s_tol st))), (1, .int rr), (0, .ref (a 0))] := hl
      refine k_loop (ι := Nat × SCT) (fun (x9 : Nat × SCT) H9 locs9 ls9 => match x9 with | (i, z) => (i ≤ 9) ∧ va_P D vwCl ((WW a K KS st hs z)) H9 ∧ va_D A ((WW a K KS st hs z)) ∧ va_S A s.heap H9 locs9 ∧ lv_has ls9 10 [(8, .int (nI i)), (7, .int 0), (6, .int 1), (5, .int xn), (1, .int rr), (0, .ref (a 0))]) (fun (x9 : Nat × SCT) => match x9 with | (i, z) => 9 - i) ?_ ((0, sc1v_11)) ⟨(Nat.zero_le _), k_subP (wp := []) (wp' := []) (T := (WW a K KS st hs sc1v_11)) hP [] rfl, k_subD (wp := []) (wp' := []) (T := (WW a K KS st hs sc1v_11)) hD [] (by decide) rfl, hS, lv_sub hl [0, 1, 2, 3, 7, 8] rfl⟩
      intro x9 H locs ls hF9 ih9
      obtain ⟨i, z⟩ := x9
      obtain ⟨hi, hP, hD, hS, hl⟩ := hF9
      try dsimp only at ih9
      have hP : va_P D vwCl ((WW a K KS st hs z)) H := hP
      have hD : va_D A ((WW a K KS st hs z)) := hD
      have hl : lv_has ls 10 [(8, .int (nI i)), (7, .int 0), (6, .int 1), (5, .int xn), (1, .int rr), (0, .ref (a 0))] := hl
      refine lv_iload hx hb dL_reading_157 (lv_at hl 0 rfl) ?_
      refine lv_bipush (v := 9) hx hb dL_reading_159 (by decide) ?_
      refine lv_icmp_ge (tgt := 279) hx hb dL_reading_161 (by decide) (fun c_105 => ?_) (fun c_105 => ?_)
      · have hc9 := c_105
        obtain rfl : 9 = i := by rcases Nat.lt_or_ge i 9 with q9 | q9; exact absurd c_105 (nI_ge (b := 9) q9 (by decide)); omega
        refine lv_iload hx hb dL_reading_279 (lv_at hl 2 rfl) ?_
        refine lv_if_eq (tgt := 300) hx hb dL_reading_281 (by decide) (fun c9 => absurd c9 (by decide)) (fun _ => ?_)
        refine lv_iload_n hx hb dL_reading_284 rfl (lv_at hl 4 rfl) ?_
        refine lv_if_gt (tgt := 296) hx hb dL_reading_285 (by decide) (fun c_106 => ?_) (fun c9 => absurd hgt c9)
        refine lv_iconst (v := 1) hx hb dL_reading_296 (by decide) ?_
        refine lv_goto (tgt := 301) hx hb dL_reading_297 (by decide) ?_
        have hP9 : va_P D vwCl ((WW a K KS st hs z)) H := k_subP (wp := []) (wp' := []) (T := (WW a K KS st hs z)) hP [] rfl
        have hD9 : va_D A ((WW a K KS st hs z)) := k_subD (wp := []) (wp' := []) (T := (WW a K KS st hs z)) hD [] (by decide) rfl
        have hP9 : va_P D vwCl ((WW a K KS st hs z)) H := hP9
        have hD9 : va_D A ((WW a K KS st hs z)) := hD9
        have hK9 : va_K D vwCl [] s := hK.sub [] rfl
        exact W.zret (v := 1) hx hb hr (rfl) (fun t ht9 hW9 => ⟨⟨1, z, rfl, by first | rfl | trivial | (simp only [c_89, c_90, c_91, c_92, c_93, c_94, c_95, c_98, c_101, c_102, c_103, c_104, hi, c_105, c_106, if_true, if_false, reduceIte, and_self]; done) | simp_all, ⟨by rw [ht9]; exact hP9, va_K.moved hW9.alike hK9, hD9⟩⟩, hS.F ht9⟩) hS.2.2 dL_reading_301
      · have hc9 := c_105
        have hik : i + 1 ≤ 9 := by rcases Nat.lt_or_ge i 9 with q9 | q9; exact q9; exact absurd (nI_le (a := 9) q9 (by omega)) c_105
        refine lv_iload hx hb dL_reading_164 (lv_at hl 2 rfl) ?_
        refine lv_if_eq (tgt := 279) hx hb dL_reading_166 (by decide) (fun c9 => absurd c9 (by decide)) (fun _ => ?_)
        refine lv_aload_n hx hb dL_reading_169 rfl (lv_at hl 5 rfl) ?_
        refine lv_iload hx hb dL_reading_170 (lv_at hl 0 rfl) ?_
        have ct := k_cut_TT (wp := []) (T := (WW a K KS st hs z)) (wc := []) (wr := []) (tc := [(K, .int), (KS, .object "BarcodeWand$State")]) hG hS hA hK hP hD [] [] [0, 1] rfl rfl (by decide) (by decide) (by decide) rfl
        refine k_endi (As := [.ref (a 0), .int (nI i)]) ct (k_runSW (As := [.ref (a 0), .int (nI i)]) (rest := []) S0 Ls_L_116 ct (c_L_digit l D a K KS st hs z i (by assumption) (by omega) H.size) hl.1 rfl (Nat.le_of_ble_eq_true rfl) rfl dL_reading_172 ⟨⟨Nat.le_of_ble_eq_true rfl, Nat.le_of_ble_eq_true rfl⟩, Nat.le_of_ble_eq_true rfl, Nat.le_of_ble_eq_true rfl⟩) rfl rfl (fun r_107 sc1v_108 H locs hw_109 hP hD hK hS => ?_)
        have hK : va_K D vwCl [(K, .int), (KS, .object "BarcodeWand$State")] s := hK
        have hP : va_P D vwCl ((WW a K KS st hs sc1v_108)) H := hP
        have hD : va_D A ((WW a K KS st hs sc1v_108)) := hD
        have hw_109 : r_107 = digR (s_tn st) (s_tf st) (s_tol st) i := hw_109
        have hw_109 := hw_109.symm
        subst hw_109
        refine k_nrm (y := digR (s_tn st) (s_tf st) (s_tol st) i) rfl ?_
        refine k_nrm (y := (-1)) (digR_no (by rw [hq]; exact (mx_gt (failF_in _ _ _) (failF_in _ _ _) ha).2.2)) ?_
        refine lv_istore (lv' := [(9, .int (-1)), (8, .int (nI i)), (7, .int 0), (6, .int 1), (5, .int xn), (1, .int rr), (0, .ref (a 0))]) hx hb dL_reading_175 hl (by decide) rfl (fun ls hl => ?_)
        refine lv_iload_n hx hb dL_reading_177 rfl (lv_at hl 5 rfl) ?_
        refine lv_if_gt (tgt := 188) hx hb dL_reading_178 (by decide) (fun c_110 => ?_) (fun c9 => absurd hgt c9)
        refine lv_iload hx hb dL_reading_188 (lv_at hl 0 rfl) ?_
        refine lv_iconst (v := (-1)) hx hb dL_reading_190 (by decide) ?_
        refine lv_icmp_ne (tgt := 198) hx hb dL_reading_191 (by decide) (fun c9 => absurd (by decide) c9) (fun _ => ?_)
        refine lv_iconst (v := 1) hx hb dL_reading_194 (by decide) ?_
        refine lv_goto (tgt := 238) hx hb dL_reading_195 (by decide) ?_
        refine lv_istore (lv' := [(6, .int 1), (9, .int (-1)), (8, .int (nI i)), (7, .int 0), (5, .int xn), (1, .int rr), (0, .ref (a 0))]) hx hb dL_reading_238 hl (by decide) rfl (fun ls hl => ?_)
        refine lv_iload hx hb dL_reading_240 (lv_at hl 3 rfl) ?_
        refine lv_iload hx hb dL_reading_242 (lv_at hl 1 rfl) ?_
        refine lv_if_ge (tgt := 251) hx hb dL_reading_244 (by decide) (fun c9 => absurd c9 (by decide)) (fun _ => ?_)
        refine lv_iconst (v := 0) hx hb dL_reading_247 (by decide) ?_
        refine lv_goto (tgt := 270) hx hb dL_reading_248 (by decide) ?_
        refine lv_iadd hx hb dL_reading_270 ?_
        refine k_nrm (y := 0) (by decide) ?_
        refine lv_istore (lv' := [(7, .int 0), (6, .int 1), (9, .int (-1)), (8, .int (nI i)), (5, .int xn), (1, .int rr), (0, .ref (a 0))]) hx hb dL_reading_271 hl (by decide) rfl (fun ls hl => ?_)
        obtain ⟨x_111, ex_111⟩ : ∃ z : Int32, z = (nI i) + 1 := ⟨_, rfl⟩
        refine lv_iinc (v := x_111) (lv' := [(8, .int x_111), (7, .int 0), (6, .int 1), (9, .int (-1)), (5, .int xn), (1, .int rr), (0, .ref (a 0))]) hx hb dL_reading_273 hl (k := 3) rfl (by rw [ex_111]; rfl) (by decide) rfl (fun ls hl => ?_)
        refine lv_goto (tgt := 157) hx hb dL_reading_276 (by decide) ?_
        have he9 : x_111 = (nI (i + 1)) := by rw [ex_111]; exact nI_1 i
        rw [he9] at hl
        have hl : lv_has ls 10 [(8, .int (nI (i + 1))), (7, .int 0), (6, .int 1), (9, .int (-1)), (5, .int xn), (1, .int rr), (0, .ref (a 0))] := hl
        exact ih9 ((i + 1, sc1v_108)) H locs ls (by omega) ⟨hik, k_subP (wp := []) (wp' := []) (T := (WW a K KS st hs sc1v_108)) hP [] rfl, k_subD (wp := []) (wp' := []) (T := (WW a K KS st hs sc1v_108)) hD [] (by decide) rfl, hS, lv_sub hl [0, 1, 2, 4, 5, 6] rfl⟩
    · have hc9 := c_91
      refine lv_iload_n hx hb dL_reading_55 rfl (lv_at hl 3 rfl) ?_
      refine lv_goto (tgt := 60) hx hb dL_reading_56 (by decide) ?_
      refine lv_icmp_ne (tgt := 148) hx hb dL_reading_60 (by decide) (fun c9 => absurd (by rw [hrr, hq]; exact mx_nle c_91) c9) (fun c_112 => ?_)
      refine lv_iload_n hx hb dL_reading_63 rfl (lv_at hl 3 rfl) ?_
      refine lv_iconst (v := 1) hx hb dL_reading_64 (by decide) ?_
      refine lv_icmp_ne (tgt := 72) hx hb dL_reading_65 (by decide) (fun c_113 => ?_) (fun c9 => absurd c9 ha1)
      refine lv_iconst (v := 0) hx hb dL_reading_72 (by decide) ?_
      refine lv_iload_n hx hb dL_reading_73 rfl (lv_at hl 2 rfl) ?_
      refine lv_iconst (v := 1) hx hb dL_reading_74 (by decide) ?_
      refine lv_icmp_ne (tgt := 82) hx hb dL_reading_75 (by decide) (fun c_114 => ?_) (fun c9 => absurd c9 hb1)
      refine lv_iconst (v := 0) hx hb dL_reading_82 (by decide) ?_
      refine lv_icmp_ne (tgt := 148) hx hb dL_reading_83 (by decide) (fun c9 => absurd (by decide) c9) (fun _ => ?_)
      refine lv_iload_n hx hb dL_reading_86 rfl (lv_at hl 3 rfl) ?_
      refine lv_iconst (v := 1) hx hb dL_reading_87 (by decide) ?_
      refine lv_icmp_ne (tgt := 95) hx hb dL_reading_88 (by decide) (fun c_115 => ?_) (fun c9 => absurd c9 ha1)
      refine lv_iconst (v := 0) hx hb dL_reading_95 (by decide) ?_
      refine lv_aload_n hx hb dL_reading_96 rfl (lv_at hl 5 rfl) ?_
      have ct := k_cut_TT (wp := []) (T := (WW a K KS st hs sc1v_11)) (wc := []) (wr := []) (tc := [(K, .int), (KS, .object "BarcodeWand$State")]) hG hS hA hK hP hD [] [] [0, 1] rfl rfl (by decide) (by decide) (by decide) rfl
      refine k_endi (As := [.ref (a 0)]) ct (k_runV (As := []) (rest := [.int 0]) S0 Lv_L_113 rfl (ci := 7) (q0 := 0) rfl (WW_0 a K KS st hs sc1v_11) ct (c_B_times l D a K KS st hs sc1v_11 H.size) hl.1 rfl (Nat.le_of_ble_eq_true rfl) rfl dL_reading_97 ⟨⟨Nat.le_of_ble_eq_true rfl, Nat.le_of_ble_eq_true rfl⟩, Nat.le_of_ble_eq_true rfl, Nat.le_of_ble_eq_true rfl⟩) rfl rfl (fun r_116 _ H locs hw_117 hP hD hK hS => ?_)
      have hK : va_K D vwCl [(K, .int), (KS, .object "BarcodeWand$State")] s := hK
      have hP : va_P D vwCl ((WW a K KS st hs sc1v_11)) H := hP
      have hD : va_D A ((WW a K KS st hs sc1v_11)) := hD
      have hw_117 : r_116 = (nI (s_tn st)) := hw_117
      have hw_117 := hw_117.symm
      subst hw_117
      refine k_nrm (y := (nI (s_tn st))) rfl ?_
      refine lv_bipush (v := 13) hx hb dL_reading_100 (by decide) ?_
      refine lv_icmp_lt (tgt := 115) hx hb dL_reading_102 (by decide) (fun c9 => absurd c9 (nI_nlt (b := 13) hy.1 (by omega))) (fun c_118 => ?_)
      refine lv_aload_n hx hb dL_reading_105 rfl (lv_at hl 5 rfl) ?_
      have ct := k_cut_TT (wp := []) (T := (WW a K KS st hs sc1v_11)) (wc := []) (wr := []) (tc := [(K, .int), (KS, .object "BarcodeWand$State")]) hG hS hA hK hP hD [] [] [0, 1] rfl rfl (by decide) (by decide) (by decide) rfl
      refine k_endi (As := [.ref (a 0)]) ct (k_runV (As := []) (rest := [.int 0]) S0 Lv_L_113 rfl (ci := 7) (q0 := 0) rfl (WW_0 a K KS st hs sc1v_11) ct (c_B_times l D a K KS st hs sc1v_11 H.size) hl.1 rfl (Nat.le_of_ble_eq_true rfl) rfl dL_reading_106 ⟨⟨Nat.le_of_ble_eq_true rfl, Nat.le_of_ble_eq_true rfl⟩, Nat.le_of_ble_eq_true rfl, Nat.le_of_ble_eq_true rfl⟩) rfl rfl (fun r_119 _ H locs hw_120 hP hD hK hS => ?_)
      have hK : va_K D vwCl [(K, .int), (KS, .object "BarcodeWand$State")] s := hK
      have hP : va_P D vwCl ((WW a K KS st hs sc1v_11)) H := hP
      have hD : va_D A ((WW a K KS st hs sc1v_11)) := hD
      have hw_120 : r_119 = (nI (s_tn st)) := hw_120
      have hw_120 := hw_120.symm
      subst hw_120
      refine k_nrm (y := (nI (s_tn st))) rfl ?_
      refine lv_iconst (v := 4) hx hb dL_reading_109 (by decide) ?_
      refine lv_irem hx hb dL_reading_110 (by decide) ?_
      refine k_nrm (y := (nI (s_tn st % 4))) (pk_rem (d := 4) (by omega) (by decide) (by decide)) ?_
      refine lv_iconst (v := 1) hx hb dL_reading_111 (by decide) ?_
      refine lv_icmp_eq (tgt := 119) hx hb dL_reading_112 (by decide) (fun c_121 => ?_) (fun c9 => absurd (by rw [hy.2]; rfl) c9)
      refine lv_iconst (v := 0) hx hb dL_reading_119 (by decide) ?_
      refine lv_icmp_ne (tgt := 148) hx hb dL_reading_120 (by decide) (fun c9 => absurd (by decide) c9) (fun _ => ?_)
      refine lv_iload_n hx hb dL_reading_123 rfl (lv_at hl 4 rfl) ?_
      refine lv_if_gt (tgt := 132) hx hb dL_reading_124 (by decide) (fun c_122 => ?_) (fun c9 => absurd hgt c9)
      refine lv_iload hx hb dL_reading_132 (lv_at hl 1 rfl) ?_
      refine lv_if_eq (tgt := 148) hx hb dL_reading_134 (by decide) (fun c9 => absurd c9 hlea.1) (fun c_123 => ?_)
      refine lv_iload hx hb dL_reading_137 (lv_at hl 1 rfl) ?_
      refine lv_bipush (v := 9) hx hb dL_reading_139 (by decide) ?_
      refine lv_icmp_ge (tgt := 148) hx hb dL_reading_141 (by decide) (fun c9 => absurd c9 hlea.2) (fun c_124 => ?_)
      refine lv_iconst (v := 1) hx hb dL_reading_144 (by decide) ?_
      refine lv_goto (tgt := 149) hx hb dL_reading_145 (by decide) ?_
      refine lv_istore (lv' := [(6, .int 1), (5, .int xn), (4, .int (leaF (s_tn st) (s_tf st))), (3, .int (failF (s_tn st) (lnF (s_tn st) (s_tf st) 1) (s_tol st))), (2, .int (failF (s_tn st) (lnF (s_tn st) (s_tf st) 0) (s_tol st))), (1, .int rr), (0, .ref (a 0))]) hx hb dL_reading_149 hl (by decide) rfl (fun ls hl => ?_)
      refine lv_iconst (v := 0) hx hb dL_reading_151 (by decide) ?_
      refine lv_istore (lv' := [(7, .int 0), (6, .int 1), (5, .int xn), (4, .int (leaF (s_tn st) (s_tf st))), (3, .int (failF (s_tn st) (lnF (s_tn st) (s_tf st) 1) (s_tol st))), (2, .int (failF (s_tn st) (lnF (s_tn st) (s_tf st) 0) (s_tol st))), (1, .int rr), (0, .ref (a 0))]) hx hb dL_reading_152 hl (by decide) rfl (fun ls hl => ?_)
      refine lv_iconst (v := 0) hx hb dL_reading_154 (by decide) ?_
      refine lv_istore (lv' := [(8, .int 0), (7, .int 0), (6, .int 1), (5, .int xn), (4, .int (leaF (s_tn st) (s_tf st))), (3, .int (failF (s_tn st) (lnF (s_tn st) (s_tf st) 1) (s_tol st))), (2, .int (failF (s_tn st) (lnF (s_tn st) (s_tf st) 0) (s_tol st))), (1, .int rr), (0, .ref (a 0))]) hx hb dL_reading_155 hl (by decide) rfl (fun ls hl => ?_)
      have hl : lv_has ls 10 [(8, .int (nI 0)), (7, .int 0), (6, .int 1), (5, .int xn), (4, .int (leaF (s_tn st) (s_tf st))), (3, .int (failF (s_tn st) (lnF (s_tn st) (s_tf st) 1) (s_tol st))), (2, .int (failF (s_tn st) (lnF (s_tn st) (s_tf st) 0) (s_tol st))), (1, .int rr), (0, .ref (a 0))] := hl
      refine k_loop (ι := Nat × SCT) (fun (x9 : Nat × SCT) H9 locs9 ls9 => match x9 with | (i, z) => (i ≤ 9) ∧ va_P D vwCl ((WW a K KS st hs z)) H9 ∧ va_D A ((WW a K KS st hs z)) ∧ va_S A s.heap H9 locs9 ∧ lv_has ls9 10 [(8, .int (nI i)), (7, .int 0), (6, .int 1), (5, .int xn), (1, .int rr), (0, .ref (a 0))]) (fun (x9 : Nat × SCT) => match x9 with | (i, z) => 9 - i) ?_ ((0, sc1v_11)) ⟨(Nat.zero_le _), k_subP (wp := []) (wp' := []) (T := (WW a K KS st hs sc1v_11)) hP [] rfl, k_subD (wp := []) (wp' := []) (T := (WW a K KS st hs sc1v_11)) hD [] (by decide) rfl, hS, lv_sub hl [0, 1, 2, 3, 7, 8] rfl⟩
      intro x9 H locs ls hF9 ih9
      obtain ⟨i, z⟩ := x9
      obtain ⟨hi, hP, hD, hS, hl⟩ := hF9
      try dsimp only at ih9
      have hP : va_P D vwCl ((WW a K KS st hs z)) H := hP
      have hD : va_D A ((WW a K KS st hs z)) := hD
      have hl : lv_has ls 10 [(8, .int (nI i)), (7, .int 0), (6, .int 1), (5, .int xn), (1, .int rr), (0, .ref (a 0))] := hl
      refine lv_iload hx hb dL_reading_157 (lv_at hl 0 rfl) ?_
      refine lv_bipush (v := 9) hx hb dL_reading_159 (by decide) ?_
      refine lv_icmp_ge (tgt := 279) hx hb dL_reading_161 (by decide) (fun c_125 => ?_) (fun c_125 => ?_)
      · have hc9 := c_125
        obtain rfl : 9 = i := by rcases Nat.lt_or_ge i 9 with q9 | q9; exact absurd c_125 (nI_ge (b := 9) q9 (by decide)); omega
        refine lv_iload hx hb dL_reading_279 (lv_at hl 2 rfl) ?_
        refine lv_if_eq (tgt := 300) hx hb dL_reading_281 (by decide) (fun c9 => absurd c9 (by decide)) (fun _ => ?_)
        refine lv_iload_n hx hb dL_reading_284 rfl (lv_at hl 4 rfl) ?_
        refine lv_if_gt (tgt := 296) hx hb dL_reading_285 (by decide) (fun c_126 => ?_) (fun c9 => absurd hgt c9)
        refine lv_iconst (v := 1) hx hb dL_reading_296 (by decide) ?_
        refine lv_goto (tgt := 301) hx hb dL_reading_297 (by decide) ?_
        have hP9 : va_P D vwCl ((WW a K KS st hs z)) H := k_subP (wp := []) (wp' := []) (T := (WW a K KS st hs z)) hP [] rfl
        have hD9 : va_D A ((WW a K KS st hs z)) := k_subD (wp := []) (wp' := []) (T := (WW a K KS st hs z)) hD [] (by decide) rfl
        have hP9 : va_P D vwCl ((WW a K KS st hs z)) H := hP9
        have hD9 : va_D A ((WW a K KS st hs z)) := hD9
        have hK9 : va_K D vwCl [] s := hK.sub [] rfl
        exact W.zret (v := 1) hx hb hr (rfl) (fun t ht9 hW9 => ⟨⟨1, z, rfl, by first | rfl | trivial | (simp only [c_89, c_90, c_91, c_112, c_113, c_114, c_115, c_118, c_121, c_122, c_123, c_124, hi, c_125, c_126, if_true, if_false, reduceIte, and_self]; done) | simp_all, ⟨by rw [ht9]; exact hP9, va_K.moved hW9.alike hK9, hD9⟩⟩, hS.F ht9⟩) hS.2.2 dL_reading_301
      · have hc9 := c_125
        have hik : i + 1 ≤ 9 := by rcases Nat.lt_or_ge i 9 with q9 | q9; exact q9; exact absurd (nI_le (a := 9) q9 (by omega)) c_125
        refine lv_iload hx hb dL_reading_164 (lv_at hl 2 rfl) ?_
        refine lv_if_eq (tgt := 279) hx hb dL_reading_166 (by decide) (fun c9 => absurd c9 (by decide)) (fun _ => ?_)
        refine lv_aload_n hx hb dL_reading_169 rfl (lv_at hl 5 rfl) ?_
        refine lv_iload hx hb dL_reading_170 (lv_at hl 0 rfl) ?_
        have ct := k_cut_TT (wp := []) (T := (WW a K KS st hs z)) (wc := []) (wr := []) (tc := [(K, .int), (KS, .object "BarcodeWand$State")]) hG hS hA hK hP hD [] [] [0, 1] rfl rfl (by decide) (by decide) (by decide) rfl
        refine k_endi (As := [.ref (a 0), .int (nI i)]) ct (k_runSW (As := [.ref (a 0), .int (nI i)]) (rest := []) S0 Ls_L_116 ct (c_L_digit l D a K KS st hs z i (by assumption) (by omega) H.size) hl.1 rfl (Nat.le_of_ble_eq_true rfl) rfl dL_reading_172 ⟨⟨Nat.le_of_ble_eq_true rfl, Nat.le_of_ble_eq_true rfl⟩, Nat.le_of_ble_eq_true rfl, Nat.le_of_ble_eq_true rfl⟩) rfl rfl (fun r_127 sc1v_128 H locs hw_129 hP hD hK hS => ?_)
        have hK : va_K D vwCl [(K, .int), (KS, .object "BarcodeWand$State")] s := hK
        have hP : va_P D vwCl ((WW a K KS st hs sc1v_128)) H := hP
        have hD : va_D A ((WW a K KS st hs sc1v_128)) := hD
        have hw_129 : r_127 = digR (s_tn st) (s_tf st) (s_tol st) i := hw_129
        have hw_129 := hw_129.symm
        subst hw_129
        refine k_nrm (y := digR (s_tn st) (s_tf st) (s_tol st) i) rfl ?_
        refine k_nrm (y := (-1)) (digR_no (by rw [hq]; exact (mx_gt (failF_in _ _ _) (failF_in _ _ _) ha).2.2)) ?_
        refine lv_istore (lv' := [(9, .int (-1)), (8, .int (nI i)), (7, .int 0), (6, .int 1), (5, .int xn), (1, .int rr), (0, .ref (a 0))]) hx hb dL_reading_175 hl (by decide) rfl (fun ls hl => ?_)
        refine lv_iload_n hx hb dL_reading_177 rfl (lv_at hl 5 rfl) ?_
        refine lv_if_gt (tgt := 188) hx hb dL_reading_178 (by decide) (fun c_130 => ?_) (fun c9 => absurd hgt c9)
        refine lv_iload hx hb dL_reading_188 (lv_at hl 0 rfl) ?_
        refine lv_iconst (v := (-1)) hx hb dL_reading_190 (by decide) ?_
        refine lv_icmp_ne (tgt := 198) hx hb dL_reading_191 (by decide) (fun c9 => absurd (by decide) c9) (fun _ => ?_)
        refine lv_iconst (v := 1) hx hb dL_reading_194 (by decide) ?_
        refine lv_goto (tgt := 238) hx hb dL_reading_195 (by decide) ?_
        refine lv_istore (lv' := [(6, .int 1), (9, .int (-1)), (8, .int (nI i)), (7, .int 0), (5, .int xn), (1, .int rr), (0, .ref (a 0))]) hx hb dL_reading_238 hl (by decide) rfl (fun ls hl => ?_)
        refine lv_iload hx hb dL_reading_240 (lv_at hl 3 rfl) ?_
        refine lv_iload hx hb dL_reading_242 (lv_at hl 1 rfl) ?_
        refine lv_if_ge (tgt := 251) hx hb dL_reading_244 (by decide) (fun c9 => absurd c9 (by decide)) (fun _ => ?_)
        refine lv_iconst (v := 0) hx hb dL_reading_247 (by decide) ?_
        refine lv_goto (tgt := 270) hx hb dL_reading_248 (by decide) ?_
        refine lv_iadd hx hb dL_reading_270 ?_
        refine k_nrm (y := 0) (by decide) ?_
        refine lv_istore (lv' := [(7, .int 0), (6, .int 1), (9, .int (-1)), (8, .int (nI i)), (5, .int xn), (1, .int rr), (0, .ref (a 0))]) hx hb dL_reading_271 hl (by decide) rfl (fun ls hl => ?_)
        obtain ⟨x_131, ex_131⟩ : ∃ z : Int32, z = (nI i) + 1 := ⟨_, rfl⟩
        refine lv_iinc (v := x_131) (lv' := [(8, .int x_131), (7, .int 0), (6, .int 1), (9, .int (-1)), (5, .int xn), (1, .int rr), (0, .ref (a 0))]) hx hb dL_reading_273 hl (k := 3) rfl (by rw [ex_131]; rfl) (by decide) rfl (fun ls hl => ?_)
        refine lv_goto (tgt := 157) hx hb dL_reading_276 (by decide) ?_
        have he9 : x_131 = (nI (i + 1)) := by rw [ex_131]; exact nI_1 i
        rw [he9] at hl
        have hl : lv_has ls 10 [(8, .int (nI (i + 1))), (7, .int 0), (6, .int 1), (9, .int (-1)), (5, .int xn), (1, .int rr), (0, .ref (a 0))] := hl
        exact ih9 ((i + 1, sc1v_128)) H locs ls (by omega) ⟨hik, k_subP (wp := []) (wp' := []) (T := (WW a K KS st hs sc1v_128)) hP [] rfl, k_subD (wp := []) (wp' := []) (T := (WW a K KS st hs sc1v_128)) hD [] (by decide) rfl, hS, lv_sub hl [0, 1, 2, 4, 5, 6] rfl⟩
