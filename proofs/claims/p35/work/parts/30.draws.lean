set_option maxRecDepth 20000 in
theorem lk_L_print0 : Cond.code yL_print0 cL_print0 4 (some .long) ∈ wsA := mA 670 rfl rfl
theorem ly_L_print0 : k_y yL_print0 1 := ⟨by decide +kernel, by decide +kernel, by decide +kernel⟩
set_option maxRecDepth 20000 in
theorem ls_L_print0 : Cond.static yL_print0 ∈ wsA := mA 669 rfl rfl
set_option maxRecDepth 20000 in
theorem Ls_L_153 : k_LS RL 153 yL_print0 cL_print0 4 (some .long) 1 := ⟨mA 668 rfl rfl, ls_L_print0, li_BarcodeWandLaw, lk_L_print0, ly_L_print0⟩
set_option maxRecDepth 20000 in
theorem lk_L_hangs : Cond.code yL_hangs cL_hangs 1 (some .boolean) ∈ wsA := mA 570 rfl rfl
theorem ly_L_hangs : k_y yL_hangs 1 := ⟨by decide +kernel, by decide +kernel, by decide +kernel⟩
set_option maxRecDepth 20000 in
theorem ls_L_hangs : Cond.static yL_hangs ∈ wsA := mA 569 rfl rfl
set_option maxRecDepth 20000 in
theorem Ls_L_157 : k_LS RL 157 yL_hangs cL_hangs 1 (some .boolean) 1 := ⟨mA 568 rfl rfl, ls_L_hangs, li_BarcodeWandLaw, lk_L_hangs, ly_L_hangs⟩
theorem ly_L_undo : k_y yL_undo 1 := ⟨by decide +kernel, by decide +kernel, by decide +kernel⟩
set_option maxRecDepth 20000 in
theorem ls_L_undo : Cond.static yL_undo ∈ wsA := mA 367 rfl rfl
set_option maxRecDepth 20000 in
theorem Ls_L_160 : k_LW RL 160 yL_undo cL_undo 2 (some .int) [(0, 4, 5, 36)] 1 := ⟨mA 366 rfl rfl, ls_L_undo, li_BarcodeWandLaw, mA 368 rfl rfl, ly_L_undo⟩
theorem dL_draws_0 : decode cL_draws 0 = .ok (.aload_n 0, 1) := by decide +kernel
theorem dL_draws_1 : decode cL_draws 1 = .ok (.invokestatic 153, 3) := by decide +kernel
theorem dL_draws_4 : decode cL_draws 4 = .ok (.lstore 4, 2) := by decide +kernel
theorem dL_draws_6 : decode cL_draws 6 = .ok (.aload_n 0, 1) := by decide +kernel
theorem dL_draws_7 : decode cL_draws 7 = .ok (.iload_n 1, 1) := by decide +kernel
theorem dL_draws_8 : decode cL_draws 8 = .ok (.iload_n 2, 1) := by decide +kernel
theorem dL_draws_9 : decode cL_draws 9 = .ok (.iload_n 3, 1) := by decide +kernel
theorem dL_draws_10 : decode cL_draws 10 = .ok (.invokestatic 151, 3) := by decide +kernel
theorem dL_draws_13 : decode cL_draws 13 = .ok (.istore 6, 2) := by decide +kernel
theorem dL_draws_15 : decode cL_draws 15 = .ok (.aload_n 0, 1) := by decide +kernel
theorem dL_draws_16 : decode cL_draws 16 = .ok (.invokevirtual 129, 3) := by decide +kernel
theorem dL_draws_19 : decode cL_draws 19 = .ok (.istore 7, 2) := by decide +kernel
theorem dL_draws_21 : decode cL_draws 21 = .ok (.aload_n 0, 1) := by decide +kernel
theorem dL_draws_22 : decode cL_draws 22 = .ok (.invokevirtual 144, 3) := by decide +kernel
theorem dL_draws_25 : decode cL_draws 25 = .ok (.istore 8, 2) := by decide +kernel
theorem dL_draws_27 : decode cL_draws 27 = .ok (.aload_n 0, 1) := by decide +kernel
theorem dL_draws_28 : decode cL_draws 28 = .ok (.iload_n 1, 1) := by decide +kernel
theorem dL_draws_29 : decode cL_draws 29 = .ok (.iload_n 2, 1) := by decide +kernel
theorem dL_draws_30 : decode cL_draws 30 = .ok (.iload_n 3, 1) := by decide +kernel
theorem dL_draws_31 : decode cL_draws 31 = .ok (.invokestatic 93, 3) := by decide +kernel
theorem dL_draws_34 : decode cL_draws 34 = .ok (.istore 9, 2) := by decide +kernel
theorem dL_draws_36 : decode cL_draws 36 = .ok (.iload 9, 2) := by decide +kernel
theorem dL_draws_38 : decode cL_draws 38 = .ok (.sipush (-1000), 3) := by decide +kernel
theorem dL_draws_41 : decode cL_draws 41 = .ok (.if_icmp .ge 40, 3) := by decide +kernel
theorem dL_draws_44 : decode cL_draws 44 = .ok (.iload 9, 2) := by decide +kernel
theorem dL_draws_46 : decode cL_draws 46 = .ok (.iload 6, 2) := by decide +kernel
theorem dL_draws_48 : decode cL_draws 48 = .ok (.if_icmp .ne 31, 3) := by decide +kernel
theorem dL_draws_51 : decode cL_draws 51 = .ok (.iload 9, 2) := by decide +kernel
theorem dL_draws_53 : decode cL_draws 53 = .ok (.ldc 24, 2) := by decide +kernel
theorem dL_draws_55 : decode cL_draws 55 = .ok (.if_icmp .ne 24, 3) := by decide +kernel
theorem dL_draws_58 : decode cL_draws 58 = .ok (.aload_n 0, 1) := by decide +kernel
theorem dL_draws_59 : decode cL_draws 59 = .ok (.invokevirtual 96, 3) := by decide +kernel
theorem dL_draws_62 : decode cL_draws 62 = .ok (.ifCond .ne 17, 3) := by decide +kernel
theorem dL_draws_65 : decode cL_draws 65 = .ok (.aload_n 0, 1) := by decide +kernel
theorem dL_draws_66 : decode cL_draws 66 = .ok (.invokestatic 153, 3) := by decide +kernel
theorem dL_draws_69 : decode cL_draws 69 = .ok (.lload 4, 2) := by decide +kernel
theorem dL_draws_71 : decode cL_draws 71 = .ok (.lcmp, 1) := by decide +kernel
theorem dL_draws_72 : decode cL_draws 72 = .ok (.ifCond .ne 7, 3) := by decide +kernel
theorem dL_draws_75 : decode cL_draws 75 = .ok (.iconst 1, 1) := by decide +kernel
theorem dL_draws_76 : decode cL_draws 76 = .ok (.goto 4, 3) := by decide +kernel
theorem dL_draws_79 : decode cL_draws 79 = .ok (.iconst 0, 1) := by decide +kernel
theorem dL_draws_80 : decode cL_draws 80 = .ok (.ireturn, 1) := by decide +kernel
theorem dL_draws_81 : decode cL_draws 81 = .ok (.iload 9, 2) := by decide +kernel
theorem dL_draws_83 : decode cL_draws 83 = .ok (.iload 6, 2) := by decide +kernel
theorem dL_draws_85 : decode cL_draws 85 = .ok (.if_icmp .ne 73, 3) := by decide +kernel
theorem dL_draws_88 : decode cL_draws 88 = .ok (.aload_n 0, 1) := by decide +kernel
theorem dL_draws_89 : decode cL_draws 89 = .ok (.invokevirtual 113, 3) := by decide +kernel
theorem dL_draws_92 : decode cL_draws 92 = .ok (.aload_n 0, 1) := by decide +kernel
theorem dL_draws_93 : decode cL_draws 93 = .ok (.invokevirtual 96, 3) := by decide +kernel
theorem dL_draws_96 : decode cL_draws 96 = .ok (.if_icmp .ne 62, 3) := by decide +kernel
theorem dL_draws_99 : decode cL_draws 99 = .ok (.aload_n 0, 1) := by decide +kernel
theorem dL_draws_100 : decode cL_draws 100 = .ok (.invokevirtual 103, 3) := by decide +kernel
theorem dL_draws_103 : decode cL_draws 103 = .ok (.iload 9, 2) := by decide +kernel
theorem dL_draws_105 : decode cL_draws 105 = .ok (.if_icmp .ne 53, 3) := by decide +kernel
theorem dL_draws_108 : decode cL_draws 108 = .ok (.aload_n 0, 1) := by decide +kernel
theorem dL_draws_109 : decode cL_draws 109 = .ok (.invokevirtual 129, 3) := by decide +kernel
theorem dL_draws_112 : decode cL_draws 112 = .ok (.aload_n 0, 1) := by decide +kernel
theorem dL_draws_113 : decode cL_draws 113 = .ok (.invokevirtual 144, 3) := by decide +kernel
theorem dL_draws_116 : decode cL_draws 116 = .ok (.iadd, 1) := by decide +kernel
theorem dL_draws_117 : decode cL_draws 117 = .ok (.iload 7, 2) := by decide +kernel
theorem dL_draws_119 : decode cL_draws 119 = .ok (.iload 8, 2) := by decide +kernel
theorem dL_draws_121 : decode cL_draws 121 = .ok (.iadd, 1) := by decide +kernel
theorem dL_draws_122 : decode cL_draws 122 = .ok (.iconst 1, 1) := by decide +kernel
theorem dL_draws_123 : decode cL_draws 123 = .ok (.iadd, 1) := by decide +kernel
theorem dL_draws_124 : decode cL_draws 124 = .ok (.if_icmp .ne 34, 3) := by decide +kernel
theorem dL_draws_127 : decode cL_draws 127 = .ok (.aload_n 0, 1) := by decide +kernel
theorem dL_draws_128 : decode cL_draws 128 = .ok (.invokevirtual 129, 3) := by decide +kernel
theorem dL_draws_131 : decode cL_draws 131 = .ok (.iload 7, 2) := by decide +kernel
theorem dL_draws_133 : decode cL_draws 133 = .ok (.iload 9, 2) := by decide +kernel
theorem dL_draws_135 : decode cL_draws 135 = .ok (.ifCond .le 7, 3) := by decide +kernel
theorem dL_draws_138 : decode cL_draws 138 = .ok (.iconst 0, 1) := by decide +kernel
theorem dL_draws_139 : decode cL_draws 139 = .ok (.goto 4, 3) := by decide +kernel
theorem dL_draws_142 : decode cL_draws 142 = .ok (.iconst 1, 1) := by decide +kernel
theorem dL_draws_143 : decode cL_draws 143 = .ok (.iadd, 1) := by decide +kernel
theorem dL_draws_144 : decode cL_draws 144 = .ok (.if_icmp .ne 14, 3) := by decide +kernel
theorem dL_draws_147 : decode cL_draws 147 = .ok (.aload_n 0, 1) := by decide +kernel
theorem dL_draws_148 : decode cL_draws 148 = .ok (.invokestatic 157, 3) := by decide +kernel
theorem dL_draws_151 : decode cL_draws 151 = .ok (.ifCond .eq 7, 3) := by decide +kernel
theorem dL_draws_154 : decode cL_draws 154 = .ok (.iconst 1, 1) := by decide +kernel
theorem dL_draws_155 : decode cL_draws 155 = .ok (.goto 4, 3) := by decide +kernel
theorem dL_draws_158 : decode cL_draws 158 = .ok (.iconst 0, 1) := by decide +kernel
theorem dL_draws_159 : decode cL_draws 159 = .ok (.istore 10, 2) := by decide +kernel
theorem dL_draws_161 : decode cL_draws 161 = .ok (.aload_n 0, 1) := by decide +kernel
theorem dL_draws_162 : decode cL_draws 162 = .ok (.invokevirtual 113, 3) := by decide +kernel
theorem dL_draws_165 : decode cL_draws 165 = .ok (.istore 11, 2) := by decide +kernel
theorem dL_draws_167 : decode cL_draws 167 = .ok (.aload_n 0, 1) := by decide +kernel
theorem dL_draws_168 : decode cL_draws 168 = .ok (.iconst 0, 1) := by decide +kernel
theorem dL_draws_169 : decode cL_draws 169 = .ok (.invokestatic 147, 3) := by decide +kernel
theorem dL_draws_172 : decode cL_draws 172 = .ok (.istore 12, 2) := by decide +kernel
theorem dL_draws_174 : decode cL_draws 174 = .ok (.aload_n 0, 1) := by decide +kernel
theorem dL_draws_175 : decode cL_draws 175 = .ok (.iload 11, 2) := by decide +kernel
theorem dL_draws_177 : decode cL_draws 177 = .ok (.iconst 1, 1) := by decide +kernel
theorem dL_draws_178 : decode cL_draws 178 = .ok (.isub, 1) := by decide +kernel
theorem dL_draws_179 : decode cL_draws 179 = .ok (.invokestatic 147, 3) := by decide +kernel
theorem dL_draws_182 : decode cL_draws 182 = .ok (.istore 13, 2) := by decide +kernel
theorem dL_draws_184 : decode cL_draws 184 = .ok (.aload_n 0, 1) := by decide +kernel
theorem dL_draws_185 : decode cL_draws 185 = .ok (.iload_n 1, 1) := by decide +kernel
theorem dL_draws_186 : decode cL_draws 186 = .ok (.iload_n 2, 1) := by decide +kernel
theorem dL_draws_187 : decode cL_draws 187 = .ok (.iload_n 3, 1) := by decide +kernel
theorem dL_draws_188 : decode cL_draws 188 = .ok (.ifCond .ne 7, 3) := by decide +kernel
theorem dL_draws_191 : decode cL_draws 191 = .ok (.iconst 1, 1) := by decide +kernel
theorem dL_draws_192 : decode cL_draws 192 = .ok (.goto 4, 3) := by decide +kernel
theorem dL_draws_195 : decode cL_draws 195 = .ok (.iconst 0, 1) := by decide +kernel
theorem dL_draws_196 : decode cL_draws 196 = .ok (.invokestatic 93, 3) := by decide +kernel
theorem dL_draws_199 : decode cL_draws 199 = .ok (.istore 14, 2) := by decide +kernel
theorem dL_draws_201 : decode cL_draws 201 = .ok (.iload 10, 2) := by decide +kernel
theorem dL_draws_203 : decode cL_draws 203 = .ok (.ifCond .eq 40, 3) := by decide +kernel
theorem dL_draws_206 : decode cL_draws 206 = .ok (.aload_n 0, 1) := by decide +kernel
theorem dL_draws_207 : decode cL_draws 207 = .ok (.iconst 0, 1) := by decide +kernel
theorem dL_draws_208 : decode cL_draws 208 = .ok (.invokestatic 147, 3) := by decide +kernel
theorem dL_draws_211 : decode cL_draws 211 = .ok (.iload 13, 2) := by decide +kernel
theorem dL_draws_213 : decode cL_draws 213 = .ok (.if_icmp .ne 30, 3) := by decide +kernel
theorem dL_draws_216 : decode cL_draws 216 = .ok (.aload_n 0, 1) := by decide +kernel
theorem dL_draws_217 : decode cL_draws 217 = .ok (.iload 11, 2) := by decide +kernel
theorem dL_draws_219 : decode cL_draws 219 = .ok (.iconst 1, 1) := by decide +kernel
theorem dL_draws_220 : decode cL_draws 220 = .ok (.isub, 1) := by decide +kernel
theorem dL_draws_221 : decode cL_draws 221 = .ok (.invokestatic 147, 3) := by decide +kernel
theorem dL_draws_224 : decode cL_draws 224 = .ok (.iload 12, 2) := by decide +kernel
theorem dL_draws_226 : decode cL_draws 226 = .ok (.if_icmp .ne 17, 3) := by decide +kernel
theorem dL_draws_229 : decode cL_draws 229 = .ok (.iload 9, 2) := by decide +kernel
theorem dL_draws_231 : decode cL_draws 231 = .ok (.ifCond .ne 8, 3) := by decide +kernel
theorem dL_draws_234 : decode cL_draws 234 = .ok (.iload 14, 2) := by decide +kernel
theorem dL_draws_236 : decode cL_draws 236 = .ok (.ifCond .gt 7, 3) := by decide +kernel
theorem dL_draws_239 : decode cL_draws 239 = .ok (.iconst 1, 1) := by decide +kernel
theorem dL_draws_240 : decode cL_draws 240 = .ok (.goto 4, 3) := by decide +kernel
theorem dL_draws_243 : decode cL_draws 243 = .ok (.iconst 0, 1) := by decide +kernel
theorem dL_draws_244 : decode cL_draws 244 = .ok (.istore 10, 2) := by decide +kernel
theorem dL_draws_246 : decode cL_draws 246 = .ok (.iload 10, 2) := by decide +kernel
theorem dL_draws_248 : decode cL_draws 248 = .ok (.ifCond .eq 31, 3) := by decide +kernel
theorem dL_draws_251 : decode cL_draws 251 = .ok (.aload_n 0, 1) := by decide +kernel
theorem dL_draws_252 : decode cL_draws 252 = .ok (.invokestatic 160, 3) := by decide +kernel
theorem dL_draws_255 : decode cL_draws 255 = .ok (.ifCond .lt 24, 3) := by decide +kernel
theorem dL_draws_258 : decode cL_draws 258 = .ok (.aload_n 0, 1) := by decide +kernel
theorem dL_draws_259 : decode cL_draws 259 = .ok (.invokestatic 160, 3) := by decide +kernel
theorem dL_draws_262 : decode cL_draws 262 = .ok (.ifCond .lt 17, 3) := by decide +kernel
theorem dL_draws_265 : decode cL_draws 265 = .ok (.aload_n 0, 1) := by decide +kernel
theorem dL_draws_266 : decode cL_draws 266 = .ok (.invokestatic 153, 3) := by decide +kernel
theorem dL_draws_269 : decode cL_draws 269 = .ok (.lload 4, 2) := by decide +kernel
theorem dL_draws_271 : decode cL_draws 271 = .ok (.lcmp, 1) := by decide +kernel
theorem dL_draws_272 : decode cL_draws 272 = .ok (.ifCond .ne 7, 3) := by decide +kernel
theorem dL_draws_275 : decode cL_draws 275 = .ok (.iconst 1, 1) := by decide +kernel
theorem dL_draws_276 : decode cL_draws 276 = .ok (.goto 4, 3) := by decide +kernel
theorem dL_draws_279 : decode cL_draws 279 = .ok (.iconst 0, 1) := by decide +kernel
theorem dL_draws_280 : decode cL_draws 280 = .ok (.ireturn, 1) := by decide +kernel
set_option maxHeartbeats 4000000 in
set_option maxRecDepth 100000 in
theorem c_L_draws (l : Launch) (hst : l.stackTraces = false) (D : va_G) (a : Nat → Nat) (K : ClassId) (KS : ClassId) (st : ST) (hs : HT) (sc : SCT) (N : Nat) (lf : Int32) (rt : Int32) (b : Int32) (hii : invS N st) (hN : N + 3 < 2 ^ 30) (hh : okH hs) (hp : k_per lf rt) (hbb : b = 0 ∨ b = 1) (sz : Nat) : k_Mi (S := ST × HT × SCT) l D yL_draws cL_draws 15 (some .boolean) 11 2 12 194 [.ref (a 0), .int lf, .int rt, .int b] ((WW a K KS st hs sc)) [(K, .int), (KS, .object "BarcodeWand$State")] (fun (r : Int32) (u : ST × HT × SCT) => match u with | (st1, hs1, sc1) => r = 1 ∧ okH hs1 ∧ nrm st1 = nrm st) (fun u => match u with | (st1, hs1, sc1) => ((WW a K KS st1 hs1 sc1))) (fun u => match u with | (st1, hs1, sc1) => []) sz := by
  refine Met.ofW (cc := cL_draws) (maxL := 15) (ret := (some .boolean)) (by decide) rfl ?_
  intro p e s m args below meth c s₁ B hml hv
  obtain ⟨rfl, hsz, hP, hK, hD0, hG⟩ := hv
  have hx := B.exec
  have hb := B.bytes
  have hr := B.returns
  have ht : ∀ v9 ∈ wsA, v9.before ([.ref (a 0), .int lf, .int rt, .int b] : List Value).toArray s = true := fun v9 h9 => atoms_spec (ws := k_ws yL_draws cL_draws 15 (some .boolean)) B.pre v9 (List.mem_cons_of_mem _ h9)
  have hown : s.vm.findClass RL = some m.cls := findClass_of_methodNamed B.named
  have S0 : k_C p s m ([.ref (a 0), .int lf, .int rt, .int b] : List Value).toArray c cL_draws 15 RL := ⟨hx, hb, hml, hown, ht⟩
  have hlocks := B.notSynchronized
  subst hsz
  have hD := hD0.self (sz := s.heap.size)
  generalize hAe : va_A ((WW a K KS st hs sc)) s.heap.size = A at hD hG ⊢
  have hA : ∀ q : Nat, s.heap.size ≤ q → A q := fun q h => by rw [← hAe]; exact Or.inr h
  have hS : va_S A s.heap s.heap [] := va_S.rf
  have hl := lv_entry ([.ref (a 0), .int lf, .int rt, .int b]) (n := 15) (Nat.le_of_ble_eq_true rfl)
  rw [lg_entry_eq]
  generalize (lg_sl ([.ref (a 0), .int lf, .int rt, .int b]) ++ List.replicate (15 - (lg_sl ([.ref (a 0), .int lf, .int rt, .int b])).length) Slot.unset).toArray = ls at hl ⊢
  have hl : lv_has ls 15 [(0, .ref (a 0)), (1, .int lf), (2, .int rt), (3, .int b)] := hl
  have hP : va_P D vwCl ((WW a K KS st hs sc)) s.heap := hP
  obtain ⟨hb1, hb2, hb3, hb4⟩ := bST_le hii.1
  rcases (show s_ns st = 0 ∨ ¬ s_ns st = 0 by omega) with hne | hne
  · skip
    refine lv_aload_n hx hb dL_draws_0 rfl (lv_at hl 0 rfl) ?_
    have ct := k_cut_TT (wp := []) (T := (WW a K KS st hs sc)) (wc := []) (wr := []) (tc := [(K, .int), (KS, .object "BarcodeWand$State")]) hG hS hA hK hP hD [] [] [0, 1] rfl rfl (by decide) (by decide) (by decide) rfl
    refine k_endl (As := [.ref (a 0)]) ct (k_runS (As := [.ref (a 0)]) (rest := []) S0 Ls_L_153 ct (c_L_print0 l D a K KS st hs sc hii.1 s.heap.size) hl.1 rfl (Nat.le_of_ble_eq_true rfl) rfl dL_draws_1 ⟨⟨Nat.le_of_ble_eq_true rfl, Nat.le_of_ble_eq_true rfl⟩, Nat.le_of_ble_eq_true rfl, Nat.le_of_ble_eq_true rfl⟩) rfl rfl (fun r_1 sc1v_2 H locs hw_3 hP hD hK hS => ?_)
    have hK : va_K D vwCl [(K, .int), (KS, .object "BarcodeWand$State")] s := hK
    have hP : va_P D vwCl ((WW a K KS st hs sc1v_2)) H := hP
    have hD : va_D A ((WW a K KS st hs sc1v_2)) := hD
    have hw_3 : r_1 = (P0 st) := hw_3
    have hw_3 := hw_3.symm
    subst hw_3
    refine k_nrml (y := (P0 st)) rfl ?_
    refine lv_lstore (lv' := [(4, .long (P0 st)), (0, .ref (a 0)), (1, .int lf), (2, .int rt), (3, .int b)]) hx hb dL_draws_4 hl (by decide) rfl (fun ls hl => ?_)
    refine lv_aload_n hx hb dL_draws_6 rfl (lv_at hl 1 rfl) ?_
    refine lv_iload_n hx hb dL_draws_7 rfl (lv_at hl 2 rfl) ?_
    refine lv_iload_n hx hb dL_draws_8 rfl (lv_at hl 3 rfl) ?_
    refine lv_iload_n hx hb dL_draws_9 rfl (lv_at hl 4 rfl) ?_
    have ct := k_cut_TT (wp := []) (T := (WW a K KS st hs sc1v_2)) (wc := []) (wr := []) (tc := [(K, .int), (KS, .object "BarcodeWand$State")]) hG hS hA hK hP hD [] [] [0, 1] rfl rfl (by decide) (by decide) (by decide) rfl
    refine k_endi (As := [.ref (a 0), .int lf, .int rt, .int b]) ct (k_runSW (As := [.ref (a 0), .int lf, .int rt, .int b]) (rest := []) S0 Ls_L_151 ct (c_L_ifDrawnX l hst D a K KS st hs sc1v_2 lf rt b hp hne H.size) hl.1 rfl (Nat.le_of_ble_eq_true rfl) rfl dL_draws_10 ⟨⟨Nat.le_of_ble_eq_true rfl, Nat.le_of_ble_eq_true rfl⟩, Nat.le_of_ble_eq_true rfl, Nat.le_of_ble_eq_true rfl⟩) rfl rfl (fun r_4 _ H locs hw_5 hP hD hK hS => ?_)
    have hK : va_K D vwCl [(K, .int), (KS, .object "BarcodeWand$State")] s := hK
    have hP : va_P D vwCl ((WW a K KS st hs sc1v_2)) H := hP
    have hD : va_D A ((WW a K KS st hs sc1v_2)) := hD
    have hw_5 : r_4 = (-1000002) := hw_5
    have hw_5 := hw_5.symm
    subst hw_5
    refine k_nrm (y := (-1000002)) rfl ?_
    refine lv_istore (lv' := [(6, .int (-1000002)), (4, .long (P0 st)), (0, .ref (a 0)), (1, .int lf), (2, .int rt), (3, .int b)]) hx hb dL_draws_13 hl (by decide) rfl (fun ls hl => ?_)
    refine lv_aload_n hx hb dL_draws_15 rfl (lv_at hl 2 rfl) ?_
    have ct := k_cut_TT (wp := []) (T := (WW a K KS st hs sc1v_2)) (wc := []) (wr := []) (tc := [(K, .int), (KS, .object "BarcodeWand$State")]) hG hS hA hK hP hD [] [] [0, 1] rfl rfl (by decide) (by decide) (by decide) rfl
    refine k_endi (As := [.ref (a 0)]) ct (k_runV (As := []) (rest := []) S0 Lv_L_129 rfl (ci := 7) (q0 := 0) rfl (WW_0 a K KS st hs sc1v_2) ct (c_B_successes l D a K KS st hs sc1v_2 H.size) hl.1 rfl (Nat.le_of_ble_eq_true rfl) rfl dL_draws_16 ⟨⟨Nat.le_of_ble_eq_true rfl, Nat.le_of_ble_eq_true rfl⟩, Nat.le_of_ble_eq_true rfl, Nat.le_of_ble_eq_true rfl⟩) rfl rfl (fun r_6 _ H locs hw_7 hP hD hK hS => ?_)
    have hK : va_K D vwCl [(K, .int), (KS, .object "BarcodeWand$State")] s := hK
    have hP : va_P D vwCl ((WW a K KS st hs sc1v_2)) H := hP
    have hD : va_D A ((WW a K KS st hs sc1v_2)) := hD
    have hw_7 : r_6 = (s_suc st) := hw_7
    have hw_7 := hw_7.symm
    subst hw_7
    refine k_nrm (y := (s_suc st)) rfl ?_
    refine lv_istore (lv' := [(7, .int (s_suc st)), (6, .int (-1000002)), (4, .long (P0 st)), (0, .ref (a 0)), (1, .int lf), (2, .int rt), (3, .int b)]) hx hb dL_draws_19 hl (by decide) rfl (fun ls hl => ?_)
    refine lv_aload_n hx hb dL_draws_21 rfl (lv_at hl 3 rfl) ?_
    have ct := k_cut_TT (wp := []) (T := (WW a K KS st hs sc1v_2)) (wc := []) (wr := []) (tc := [(K, .int), (KS, .object "BarcodeWand$State")]) hG hS hA hK hP hD [] [] [0, 1] rfl rfl (by decide) (by decide) (by decide) rfl
    refine k_endi (As := [.ref (a 0)]) ct (k_runV (As := []) (rest := []) S0 Lv_L_144 rfl (ci := 7) (q0 := 0) rfl (WW_0 a K KS st hs sc1v_2) ct (c_B_failures l D a K KS st hs sc1v_2 H.size) hl.1 rfl (Nat.le_of_ble_eq_true rfl) rfl dL_draws_22 ⟨⟨Nat.le_of_ble_eq_true rfl, Nat.le_of_ble_eq_true rfl⟩, Nat.le_of_ble_eq_true rfl, Nat.le_of_ble_eq_true rfl⟩) rfl rfl (fun r_8 _ H locs hw_9 hP hD hK hS => ?_)
    have hK : va_K D vwCl [(K, .int), (KS, .object "BarcodeWand$State")] s := hK
    have hP : va_P D vwCl ((WW a K KS st hs sc1v_2)) H := hP
    have hD : va_D A ((WW a K KS st hs sc1v_2)) := hD
    have hw_9 : r_8 = (s_fai st) := hw_9
    have hw_9 := hw_9.symm
    subst hw_9
    refine k_nrm (y := (s_fai st)) rfl ?_
    refine lv_istore (lv' := [(8, .int (s_fai st)), (7, .int (s_suc st)), (6, .int (-1000002)), (4, .long (P0 st)), (0, .ref (a 0)), (1, .int lf), (2, .int rt), (3, .int b)]) hx hb dL_draws_25 hl (by decide) rfl (fun ls hl => ?_)
    refine lv_aload_n hx hb dL_draws_27 rfl (lv_at hl 4 rfl) ?_
    refine lv_iload_n hx hb dL_draws_28 rfl (lv_at hl 5 rfl) ?_
    refine lv_iload_n hx hb dL_draws_29 rfl (lv_at hl 6 rfl) ?_
    refine lv_iload_n hx hb dL_draws_30 rfl (lv_at hl 7 rfl) ?_
    have ct := k_cut_TT (wp := []) (T := (WW a K KS st hs sc1v_2)) (wc := []) (wr := []) (tc := [(K, .int), (KS, .object "BarcodeWand$State")]) hG hS hA hK hP hD [] [] [0, 1] rfl rfl (by decide) (by decide) (by decide) rfl
    refine k_endi (As := [.ref (a 0), .int lf, .int rt, .int b]) ct (k_runSW (As := [.ref (a 0), .int lf, .int rt, .int b]) (rest := []) S0 Ls_L_93 ct (c_L_drawX l hst D a K KS st hs sc1v_2 lf rt b hp hne H.size) hl.1 rfl (Nat.le_of_ble_eq_true rfl) rfl dL_draws_31 ⟨⟨Nat.le_of_ble_eq_true rfl, Nat.le_of_ble_eq_true rfl⟩, Nat.le_of_ble_eq_true rfl, Nat.le_of_ble_eq_true rfl⟩) rfl rfl (fun r_10 _ H locs hw_11 hP hD hK hS => ?_)
    have hK : va_K D vwCl [(K, .int), (KS, .object "BarcodeWand$State")] s := hK
    have hP : va_P D vwCl ((WW a K KS st hs sc1v_2)) H := hP
    have hD : va_D A ((WW a K KS st hs sc1v_2)) := hD
    have hw_11 : r_10 = (-1000002) := hw_11
    have hw_11 := hw_11.symm
    subst hw_11
    refine k_nrm (y := (-1000002)) rfl ?_
    refine lv_istore (lv' := [(9, .int (-1000002)), (8, .int (s_fai st)), (7, .int (s_suc st)), (6, .int (-1000002)), (4, .long (P0 st)), (0, .ref (a 0)), (1, .int lf), (2, .int rt), (3, .int b)]) hx hb dL_draws_34 hl (by decide) rfl (fun ls hl => ?_)
    refine lv_iload hx hb dL_draws_36 (lv_at hl 0 rfl) ?_
    refine lv_sipush (v := (-1000)) hx hb dL_draws_38 (by decide) ?_
    refine lv_icmp_ge (tgt := 81) hx hb dL_draws_41 (by decide) (fun c9 => absurd c9 (by decide)) (fun _ => ?_)
    refine lv_iload hx hb dL_draws_44 (lv_at hl 0 rfl) ?_
    refine lv_iload hx hb dL_draws_46 (lv_at hl 3 rfl) ?_
    refine lv_icmp_ne (tgt := 79) hx hb dL_draws_48 (by decide) (fun c9 => absurd (by decide) c9) (fun _ => ?_)
    refine lv_iload hx hb dL_draws_51 (lv_at hl 0 rfl) ?_
    refine lv_ldc (v := (-1000002)) hx hb hown (ht _ lx_L_24) dL_draws_53 ?_
    refine lv_icmp_ne (tgt := 79) hx hb dL_draws_55 (by decide) (fun c9 => absurd (by decide) c9) (fun _ => ?_)
    refine lv_aload_n hx hb dL_draws_58 rfl (lv_at hl 5 rfl) ?_
    have ct := k_cut_TT (wp := []) (T := (WW a K KS st hs sc1v_2)) (wc := []) (wr := []) (tc := [(K, .int), (KS, .object "BarcodeWand$State")]) hG hS hA hK hP hD [] [] [0, 1] rfl rfl (by decide) (by decide) (by decide) rfl
    refine k_endi (As := [.ref (a 0)]) ct (k_runV (As := []) (rest := []) S0 Lv_L_96 rfl (ci := 7) (q0 := 0) rfl (WW_0 a K KS st hs sc1v_2) ct (c_B_elements l D a K KS st hs sc1v_2 H.size) hl.1 rfl (Nat.le_of_ble_eq_true rfl) rfl dL_draws_59 ⟨⟨Nat.le_of_ble_eq_true rfl, Nat.le_of_ble_eq_true rfl⟩, Nat.le_of_ble_eq_true rfl, Nat.le_of_ble_eq_true rfl⟩) rfl rfl (fun r_12 _ H locs hw_13 hP hD hK hS => ?_)
    have hK : va_K D vwCl [(K, .int), (KS, .object "BarcodeWand$State")] s := hK
    have hP : va_P D vwCl ((WW a K KS st hs sc1v_2)) H := hP
    have hD : va_D A ((WW a K KS st hs sc1v_2)) := hD
    have hw_13 : r_12 = (nI (s_ns st)) := hw_13
    have hw_13 := hw_13.symm
    subst hw_13
    refine k_nrm (y := (nI (s_ns st))) rfl ?_
    refine lv_if_ne (tgt := 79) hx hb dL_draws_62 (by decide) (fun c9 => absurd (by rw [hne]; rfl) c9) (fun c_14 => ?_)
    refine lv_aload_n hx hb dL_draws_65 rfl (lv_at hl 5 rfl) ?_
    have ct := k_cut_TT (wp := []) (T := (WW a K KS st hs sc1v_2)) (wc := []) (wr := []) (tc := [(K, .int), (KS, .object "BarcodeWand$State")]) hG hS hA hK hP hD [] [] [0, 1] rfl rfl (by decide) (by decide) (by decide) rfl
    refine k_endl (As := [.ref (a 0)]) ct (k_runS (As := [.ref (a 0)]) (rest := []) S0 Ls_L_153 ct (c_L_print0 l D a K KS st hs sc1v_2 hii.1 H.size) hl.1 rfl (Nat.le_of_ble_eq_true rfl) rfl dL_draws_66 ⟨⟨Nat.le_of_ble_eq_true rfl, Nat.le_of_ble_eq_true rfl⟩, Nat.le_of_ble_eq_true rfl, Nat.le_of_ble_eq_true rfl⟩) rfl rfl (fun r_15 sc1v_16 H locs hw_17 hP hD hK hS => ?_)
    have hK : va_K D vwCl [(K, .int), (KS, .object "BarcodeWand$State")] s := hK
    have hP : va_P D vwCl ((WW a K KS st hs sc1v_16)) H := hP
    have hD : va_D A ((WW a K KS st hs sc1v_16)) := hD
    have hw_17 : r_15 = (P0 st) := hw_17
    have hw_17 := hw_17.symm
    subst hw_17
    refine k_nrml (y := (P0 st)) rfl ?_
    refine lv_lload hx hb dL_draws_69 (lv_at hl 4 rfl) ?_
    refine W.lcmp hx hb dL_draws_71 ?_
    refine k_nrm (y := 0) (lgc _) ?_
    refine lv_if_ne (tgt := 79) hx hb dL_draws_72 (by decide) (fun c9 => absurd (by decide) c9) (fun _ => ?_)
    refine lv_iconst (v := 1) hx hb dL_draws_75 (by decide) ?_
    refine lv_goto (tgt := 80) hx hb dL_draws_76 (by decide) ?_
    have hP9 : va_P D vwCl ((WW a K KS st hs sc1v_16)) H := k_subP (wp := []) (wp' := []) (T := (WW a K KS st hs sc1v_16)) hP [] rfl
    have hD9 : va_D A ((WW a K KS st hs sc1v_16)) := k_subD (wp := []) (wp' := []) (T := (WW a K KS st hs sc1v_16)) hD [] (by decide) rfl
    have hP9 : va_P D vwCl ((WW a K KS st hs sc1v_16)) H := hP9
    have hD9 : va_D A ((WW a K KS st hs sc1v_16)) := hD9
    have hK9 : va_K D vwCl [] s := hK.sub [] rfl
    exact W.zret (v := 1) hx hb hr (rfl) (fun t ht9 hW9 => ⟨⟨1, (st, hs, sc1v_16), rfl, by (exact ⟨rfl, hh, rfl⟩), ⟨by rw [ht9]; exact hP9, va_K.moved hW9.alike hK9, hD9⟩⟩, hS.F ht9⟩) hS.2.2 dL_draws_80
  · have h13 := lab_13 hii.2.1 hne
    rcases hbb with rfl | rfl
    · skip
      have hl : lv_has ls 15 [(0, .ref (a 0)), (1, .int lf), (2, .int rt), (3, .int 0)] := hl
      refine lv_aload_n hx hb dL_draws_0 rfl (lv_at hl 0 rfl) ?_
      have ct := k_cut_TT (wp := []) (T := (WW a K KS st hs sc)) (wc := []) (wr := []) (tc := [(K, .int), (KS, .object "BarcodeWand$State")]) hG hS hA hK hP hD [] [] [0, 1] rfl rfl (by decide) (by decide) (by decide) rfl
      refine k_endl (As := [.ref (a 0)]) ct (k_runS (As := [.ref (a 0)]) (rest := []) S0 Ls_L_153 ct (c_L_print0 l D a K KS st hs sc hii.1 s.heap.size) hl.1 rfl (Nat.le_of_ble_eq_true rfl) rfl dL_draws_1 ⟨⟨Nat.le_of_ble_eq_true rfl, Nat.le_of_ble_eq_true rfl⟩, Nat.le_of_ble_eq_true rfl, Nat.le_of_ble_eq_true rfl⟩) rfl rfl (fun r_18 sc1v_19 H locs hw_20 hP hD hK hS => ?_)
      have hK : va_K D vwCl [(K, .int), (KS, .object "BarcodeWand$State")] s := hK
      have hP : va_P D vwCl ((WW a K KS st hs sc1v_19)) H := hP
      have hD : va_D A ((WW a K KS st hs sc1v_19)) := hD
      have hw_20 : r_18 = (P0 st) := hw_20
      have hw_20 := hw_20.symm
      subst hw_20
      refine k_nrml (y := (P0 st)) rfl ?_
      refine lv_lstore (lv' := [(4, .long (P0 st)), (0, .ref (a 0)), (1, .int lf), (2, .int rt), (3, .int 0)]) hx hb dL_draws_4 hl (by decide) rfl (fun ls hl => ?_)
      refine lv_aload_n hx hb dL_draws_6 rfl (lv_at hl 1 rfl) ?_
      refine lv_iload_n hx hb dL_draws_7 rfl (lv_at hl 2 rfl) ?_
      refine lv_iload_n hx hb dL_draws_8 rfl (lv_at hl 3 rfl) ?_
      refine lv_iload_n hx hb dL_draws_9 rfl (lv_at hl 4 rfl) ?_
      have ct := k_cut_TT (wp := []) (T := (WW a K KS st hs sc1v_19)) (wc := []) (wr := []) (tc := [(K, .int), (KS, .object "BarcodeWand$State")]) hG hS hA hK hP hD [] [] [0, 1] rfl rfl (by decide) (by decide) (by decide) rfl
      refine k_endi (As := [.ref (a 0), .int lf, .int rt, .int 0]) ct (k_runSW (As := [.ref (a 0), .int lf, .int rt, .int 0]) (rest := []) S0 Ls_L_151 ct (c_L_ifDrawn l D a K KS st hs sc1v_19 lf rt 0 hii.1 hp hne H.size) hl.1 rfl (Nat.le_of_ble_eq_true rfl) rfl dL_draws_10 ⟨⟨Nat.le_of_ble_eq_true rfl, Nat.le_of_ble_eq_true rfl⟩, Nat.le_of_ble_eq_true rfl, Nat.le_of_ble_eq_true rfl⟩) rfl rfl (fun r_21 sc1v_22 H locs hw_23 hP hD hK hS => ?_)
      have hK : va_K D vwCl [(K, .int), (KS, .object "BarcodeWand$State")] s := hK
      have hP : va_P D vwCl ((WW a K KS st hs sc1v_22)) H := hP
      have hD : va_D A ((WW a K KS st hs sc1v_22)) := hD
      have hw_23 : r_21 = resF (s_ns st) (s_drw st lf rt 0) (s_tol st) := hw_23
      have hw_23 := hw_23.symm
      subst hw_23
      refine k_nrm (y := resF (s_ns st) (s_drw st lf rt 0) (s_tol st)) rfl ?_
      refine lv_istore (lv' := [(6, .int (resF (s_ns st) (s_drw st lf rt 0) (s_tol st))), (4, .long (P0 st)), (0, .ref (a 0)), (1, .int lf), (2, .int rt), (3, .int 0)]) hx hb dL_draws_13 hl (by decide) rfl (fun ls hl => ?_)
      refine lv_aload_n hx hb dL_draws_15 rfl (lv_at hl 2 rfl) ?_
      have ct := k_cut_TT (wp := []) (T := (WW a K KS st hs sc1v_22)) (wc := []) (wr := []) (tc := [(K, .int), (KS, .object "BarcodeWand$State")]) hG hS hA hK hP hD [] [] [0, 1] rfl rfl (by decide) (by decide) (by decide) rfl
      refine k_endi (As := [.ref (a 0)]) ct (k_runV (As := []) (rest := []) S0 Lv_L_129 rfl (ci := 7) (q0 := 0) rfl (WW_0 a K KS st hs sc1v_22) ct (c_B_successes l D a K KS st hs sc1v_22 H.size) hl.1 rfl (Nat.le_of_ble_eq_true rfl) rfl dL_draws_16 ⟨⟨Nat.le_of_ble_eq_true rfl, Nat.le_of_ble_eq_true rfl⟩, Nat.le_of_ble_eq_true rfl, Nat.le_of_ble_eq_true rfl⟩) rfl rfl (fun r_24 _ H locs hw_25 hP hD hK hS => ?_)
      have hK : va_K D vwCl [(K, .int), (KS, .object "BarcodeWand$State")] s := hK
      have hP : va_P D vwCl ((WW a K KS st hs sc1v_22)) H := hP
      have hD : va_D A ((WW a K KS st hs sc1v_22)) := hD
      have hw_25 : r_24 = (s_suc st) := hw_25
      have hw_25 := hw_25.symm
      subst hw_25
      refine k_nrm (y := (s_suc st)) rfl ?_
      refine lv_istore (lv' := [(7, .int (s_suc st)), (6, .int (resF (s_ns st) (s_drw st lf rt 0) (s_tol st))), (4, .long (P0 st)), (0, .ref (a 0)), (1, .int lf), (2, .int rt), (3, .int 0)]) hx hb dL_draws_19 hl (by decide) rfl (fun ls hl => ?_)
      refine lv_aload_n hx hb dL_draws_21 rfl (lv_at hl 3 rfl) ?_
      have ct := k_cut_TT (wp := []) (T := (WW a K KS st hs sc1v_22)) (wc := []) (wr := []) (tc := [(K, .int), (KS, .object "BarcodeWand$State")]) hG hS hA hK hP hD [] [] [0, 1] rfl rfl (by decide) (by decide) (by decide) rfl
      refine k_endi (As := [.ref (a 0)]) ct (k_runV (As := []) (rest := []) S0 Lv_L_144 rfl (ci := 7) (q0 := 0) rfl (WW_0 a K KS st hs sc1v_22) ct (c_B_failures l D a K KS st hs sc1v_22 H.size) hl.1 rfl (Nat.le_of_ble_eq_true rfl) rfl dL_draws_22 ⟨⟨Nat.le_of_ble_eq_true rfl, Nat.le_of_ble_eq_true rfl⟩, Nat.le_of_ble_eq_true rfl, Nat.le_of_ble_eq_true rfl⟩) rfl rfl (fun r_26 _ H locs hw_27 hP hD hK hS => ?_)
      have hK : va_K D vwCl [(K, .int), (KS, .object "BarcodeWand$State")] s := hK
      have hP : va_P D vwCl ((WW a K KS st hs sc1v_22)) H := hP
      have hD : va_D A ((WW a K KS st hs sc1v_22)) := hD
      have hw_27 : r_26 = (s_fai st) := hw_27
      have hw_27 := hw_27.symm
      subst hw_27
      refine k_nrm (y := (s_fai st)) rfl ?_
      refine lv_istore (lv' := [(8, .int (s_fai st)), (7, .int (s_suc st)), (6, .int (resF (s_ns st) (s_drw st lf rt 0) (s_tol st))), (4, .long (P0 st)), (0, .ref (a 0)), (1, .int lf), (2, .int rt), (3, .int 0)]) hx hb dL_draws_25 hl (by decide) rfl (fun ls hl => ?_)
      refine lv_aload_n hx hb dL_draws_27 rfl (lv_at hl 4 rfl) ?_
      refine lv_iload_n hx hb dL_draws_28 rfl (lv_at hl 5 rfl) ?_
      refine lv_iload_n hx hb dL_draws_29 rfl (lv_at hl 6 rfl) ?_
      refine lv_iload_n hx hb dL_draws_30 rfl (lv_at hl 7 rfl) ?_
      have ct := k_cut_TT (wp := []) (T := (WW a K KS st hs sc1v_22)) (wc := []) (wr := []) (tc := [(K, .int), (KS, .object "BarcodeWand$State")]) hG hS hA hK hP hD [] [] [0, 1] rfl rfl (by decide) (by decide) (by decide) rfl
      refine k_endi (As := [.ref (a 0), .int lf, .int rt, .int 0]) ct (k_runSW (As := [.ref (a 0), .int lf, .int rt, .int 0]) (rest := []) S0 Ls_L_93 ct (c_L_draw l D a K KS st hs sc1v_22 lf rt 0 hii.1 hh hp hne H.size) hl.1 rfl (Nat.le_of_ble_eq_true rfl) rfl dL_draws_31 ⟨⟨Nat.le_of_ble_eq_true rfl, Nat.le_of_ble_eq_true rfl⟩, Nat.le_of_ble_eq_true rfl, Nat.le_of_ble_eq_true rfl⟩) rfl rfl (fun r_28 u H locs hw_31 hP hD hK hS => ?_)
      obtain ⟨st1v_29, sc1v_30⟩ := u
      have hK : va_K D vwCl [(K, .int), (KS, .object "BarcodeWand$State")] s := hK
      have hP : va_P D vwCl ((WW a K KS st1v_29 (svH hs st) sc1v_30)) H := hP
      have hD : va_D A ((WW a K KS st1v_29 (svH hs st) sc1v_30)) := hD
      have hw_31 : RC (setT (s_ns st) (cpy (s_drw st lf rt 0) (s_tf st) (s_ns st)) st) st1v_29 r_28 := hw_31
      obtain ⟨d0, d1, d2, d3, d4, d5, d6, d7, d8⟩ := drw_out hii.1 hw_31
      have hj1 := drw_inv hii hw_31
      refine k_nrm (y := (resF (s_ns st) (s_drw st lf rt 0) (s_tol st))) (d0) ?_
      have hR : resF (s_tn st1v_29) (s_tf st1v_29) (s_tol st1v_29) = (resF (s_ns st) (s_drw st lf rt 0) (s_tol st)) := by rw [d5, d7]; exact resF_congr d6 hb2 _
      rw [d0] at d8
      have hs3 := suc_3 (res_in (s_ns st) (s_drw st lf rt 0) (s_tol st)) d8
      obtain ⟨ha1, ha2, ha3, ha4⟩ := bST_le hj1.1
      have hne1 : ¬ s_ns st1v_29 = 0 := by rw [d3]; exact hne
      have hsd : s_drw st1v_29 = s_drw st := by unfold s_drw; rw [d1, d2, d3, d4]
      have hh1 := okH_sv hh hii.1
      have K1 := stk_push st hh (Nat.le_of_ble_eq_true rfl) (stk_nil hs)
      refine lv_istore (lv' := [(9, .int (resF (s_ns st) (s_drw st lf rt 0) (s_tol st))), (8, .int (s_fai st)), (7, .int (s_suc st)), (6, .int (resF (s_ns st) (s_drw st lf rt 0) (s_tol st))), (4, .long (P0 st)), (0, .ref (a 0)), (1, .int lf), (2, .int rt), (3, .int 0)]) hx hb dL_draws_34 hl (by decide) rfl (fun ls hl => ?_)
      refine lv_iload hx hb dL_draws_36 (lv_at hl 0 rfl) ?_
      refine lv_sipush (v := (-1000)) hx hb dL_draws_38 (by decide) ?_
      refine lv_icmp_ge (tgt := 81) hx hb dL_draws_41 (by decide) (fun c_32 => ?_) (fun c9 => absurd (Int32.not_lt.mp (res_in _ _ _).1) c9)
      refine lv_iload hx hb dL_draws_81 (lv_at hl 0 rfl) ?_
      refine lv_iload hx hb dL_draws_83 (lv_at hl 3 rfl) ?_
      refine lv_icmp_ne (tgt := 158) hx hb dL_draws_85 (by decide) (fun c9 => absurd rfl c9) (fun c_33 => ?_)
      refine lv_aload_n hx hb dL_draws_88 rfl (lv_at hl 5 rfl) ?_
      have ct := k_cut_TT (wp := []) (T := (WW a K KS st1v_29 (svH hs st) sc1v_30)) (wc := []) (wr := []) (tc := [(K, .int), (KS, .object "BarcodeWand$State")]) hG hS hA hK hP hD [] [] [0, 1] rfl rfl (by decide) (by decide) (by decide) rfl
      refine k_endi (As := [.ref (a 0)]) ct (k_runV (As := []) (rest := []) S0 Lv_L_113 rfl (ci := 7) (q0 := 0) rfl (WW_0 a K KS st1v_29 (svH hs st) sc1v_30) ct (c_B_times l D a K KS st1v_29 (svH hs st) sc1v_30 H.size) hl.1 rfl (Nat.le_of_ble_eq_true rfl) rfl dL_draws_89 ⟨⟨Nat.le_of_ble_eq_true rfl, Nat.le_of_ble_eq_true rfl⟩, Nat.le_of_ble_eq_true rfl, Nat.le_of_ble_eq_true rfl⟩) rfl rfl (fun r_34 _ H locs hw_35 hP hD hK hS => ?_)
      have hK : va_K D vwCl [(K, .int), (KS, .object "BarcodeWand$State")] s := hK
      have hP : va_P D vwCl ((WW a K KS st1v_29 (svH hs st) sc1v_30)) H := hP
      have hD : va_D A ((WW a K KS st1v_29 (svH hs st) sc1v_30)) := hD
      have hw_35 : r_34 = (nI (s_tn st1v_29)) := hw_35
      have hw_35 := hw_35.symm
      subst hw_35
      refine k_nrm (y := (nI (s_tn st1v_29))) rfl ?_
      refine lv_aload_n hx hb dL_draws_92 rfl (lv_at hl 5 rfl) ?_
      have ct := k_cut_TT (wp := []) (T := (WW a K KS st1v_29 (svH hs st) sc1v_30)) (wc := []) (wr := []) (tc := [(K, .int), (KS, .object "BarcodeWand$State")]) hG hS hA hK hP hD [] [] [0, 1] rfl rfl (by decide) (by decide) (by decide) rfl
      refine k_endi (As := [.ref (a 0)]) ct (k_runV (As := []) (rest := [.int (nI (s_tn st1v_29))]) S0 Lv_L_96 rfl (ci := 7) (q0 := 0) rfl (WW_0 a K KS st1v_29 (svH hs st) sc1v_30) ct (c_B_elements l D a K KS st1v_29 (svH hs st) sc1v_30 H.size) hl.1 rfl (Nat.le_of_ble_eq_true rfl) rfl dL_draws_93 ⟨⟨Nat.le_of_ble_eq_true rfl, Nat.le_of_ble_eq_true rfl⟩, Nat.le_of_ble_eq_true rfl, Nat.le_of_ble_eq_true rfl⟩) rfl rfl (fun r_36 _ H locs hw_37 hP hD hK hS => ?_)
      have hK : va_K D vwCl [(K, .int), (KS, .object "BarcodeWand$State")] s := hK
      have hP : va_P D vwCl ((WW a K KS st1v_29 (svH hs st) sc1v_30)) H := hP
      have hD : va_D A ((WW a K KS st1v_29 (svH hs st) sc1v_30)) := hD
      have hw_37 : r_36 = (nI (s_ns st1v_29)) := hw_37
      have hw_37 := hw_37.symm
      subst hw_37
      refine k_nrm (y := (nI (s_ns st1v_29))) rfl ?_
      refine lv_icmp_ne (tgt := 158) hx hb dL_draws_96 (by decide) (fun c9 => absurd (by rw [d5, d3]) c9) (fun c_38 => ?_)
      refine lv_aload_n hx hb dL_draws_99 rfl (lv_at hl 5 rfl) ?_
      have ct := k_cut_TT (wp := []) (T := (WW a K KS st1v_29 (svH hs st) sc1v_30)) (wc := []) (wr := []) (tc := [(K, .int), (KS, .object "BarcodeWand$State")]) hG hS hA hK hP hD [] [] [0, 1] rfl rfl (by decide) (by decide) (by decide) rfl
      refine k_endi (As := [.ref (a 0)]) ct (k_runV (As := []) (rest := []) S0 Lv_L_103 rfl (ci := 7) (q0 := 0) rfl (WW_0 a K KS st1v_29 (svH hs st) sc1v_30) ct (c_B_result l D a K KS st1v_29 (svH hs st) sc1v_30 hj1.1 H.size) hl.1 rfl (Nat.le_of_ble_eq_true rfl) rfl dL_draws_100 ⟨⟨Nat.le_of_ble_eq_true rfl, Nat.le_of_ble_eq_true rfl⟩, Nat.le_of_ble_eq_true rfl, Nat.le_of_ble_eq_true rfl⟩) rfl rfl (fun r_39 sc1v_40 H locs hw_41 hP hD hK hS => ?_)
      have hK : va_K D vwCl [(K, .int), (KS, .object "BarcodeWand$State")] s := hK
      have hP : va_P D vwCl ((WW a K KS st1v_29 (svH hs st) sc1v_40)) H := hP
      have hD : va_D A ((WW a K KS st1v_29 (svH hs st) sc1v_40)) := hD
      have hw_41 : r_39 = resF (s_tn st1v_29) (s_tf st1v_29) (s_tol st1v_29) := hw_41
      have hw_41 := hw_41.symm
      subst hw_41
      refine k_nrm (y := resF (s_tn st1v_29) (s_tf st1v_29) (s_tol st1v_29)) rfl ?_
      refine lv_iload hx hb dL_draws_103 (lv_at hl 0 rfl) ?_
      refine lv_icmp_ne (tgt := 158) hx hb dL_draws_105 (by decide) (fun c9 => absurd hR c9) (fun c_42 => ?_)
      refine lv_aload_n hx hb dL_draws_108 rfl (lv_at hl 5 rfl) ?_
      have ct := k_cut_TT (wp := []) (T := (WW a K KS st1v_29 (svH hs st) sc1v_40)) (wc := []) (wr := []) (tc := [(K, .int), (KS, .object "BarcodeWand$State")]) hG hS hA hK hP hD [] [] [0, 1] rfl rfl (by decide) (by decide) (by decide) rfl
      refine k_endi (As := [.ref (a 0)]) ct (k_runV (As := []) (rest := []) S0 Lv_L_129 rfl (ci := 7) (q0 := 0) rfl (WW_0 a K KS st1v_29 (svH hs st) sc1v_40) ct (c_B_successes l D a K KS st1v_29 (svH hs st) sc1v_40 H.size) hl.1 rfl (Nat.le_of_ble_eq_true rfl) rfl dL_draws_109 ⟨⟨Nat.le_of_ble_eq_true rfl, Nat.le_of_ble_eq_true rfl⟩, Nat.le_of_ble_eq_true rfl, Nat.le_of_ble_eq_true rfl⟩) rfl rfl (fun r_43 _ H locs hw_44 hP hD hK hS => ?_)
      have hK : va_K D vwCl [(K, .int), (KS, .object "BarcodeWand$State")] s := hK
      have hP : va_P D vwCl ((WW a K KS st1v_29 (svH hs st) sc1v_40)) H := hP
      have hD : va_D A ((WW a K KS st1v_29 (svH hs st) sc1v_40)) := hD
      have hw_44 : r_43 = (s_suc st1v_29) := hw_44
      have hw_44 := hw_44.symm
      subst hw_44
      refine k_nrm (y := (s_suc st1v_29)) rfl ?_
      refine lv_aload_n hx hb dL_draws_112 rfl (lv_at hl 5 rfl) ?_
      have ct := k_cut_TT (wp := []) (T := (WW a K KS st1v_29 (svH hs st) sc1v_40)) (wc := []) (wr := []) (tc := [(K, .int), (KS, .object "BarcodeWand$State")]) hG hS hA hK hP hD [] [] [0, 1] rfl rfl (by decide) (by decide) (by decide) rfl
      refine k_endi (As := [.ref (a 0)]) ct (k_runV (As := []) (rest := [.int (s_suc st1v_29)]) S0 Lv_L_144 rfl (ci := 7) (q0 := 0) rfl (WW_0 a K KS st1v_29 (svH hs st) sc1v_40) ct (c_B_failures l D a K KS st1v_29 (svH hs st) sc1v_40 H.size) hl.1 rfl (Nat.le_of_ble_eq_true rfl) rfl dL_draws_113 ⟨⟨Nat.le_of_ble_eq_true rfl, Nat.le_of_ble_eq_true rfl⟩, Nat.le_of_ble_eq_true rfl, Nat.le_of_ble_eq_true rfl⟩) rfl rfl (fun r_45 _ H locs hw_46 hP hD hK hS => ?_)
      have hK : va_K D vwCl [(K, .int), (KS, .object "BarcodeWand$State")] s := hK
      have hP : va_P D vwCl ((WW a K KS st1v_29 (svH hs st) sc1v_40)) H := hP
      have hD : va_D A ((WW a K KS st1v_29 (svH hs st) sc1v_40)) := hD
      have hw_46 : r_45 = (s_fai st1v_29) := hw_46
      have hw_46 := hw_46.symm
      subst hw_46
      refine k_nrm (y := (s_fai st1v_29)) rfl ?_
      refine lv_iadd hx hb dL_draws_116 ?_
      refine k_nrm (y := ((s_suc st1v_29) + (s_fai st1v_29))) (rfl) ?_
      refine lv_iload hx hb dL_draws_117 (lv_at hl 2 rfl) ?_
      refine lv_iload hx hb dL_draws_119 (lv_at hl 1 rfl) ?_
      refine lv_iadd hx hb dL_draws_121 ?_
      refine k_nrm (y := ((s_suc st) + (s_fai st))) (rfl) ?_
      refine lv_iconst (v := 1) hx hb dL_draws_122 (by decide) ?_
      refine lv_iadd hx hb dL_draws_123 ?_
      refine k_nrm (y := (((s_suc st) + (s_fai st)) + 1)) (rfl) ?_
      refine lv_icmp_ne (tgt := 158) hx hb dL_draws_124 (by decide) (fun c9 => absurd hs3.2.2 c9) (fun c_47 => ?_)
      refine lv_aload_n hx hb dL_draws_127 rfl (lv_at hl 5 rfl) ?_
      have ct := k_cut_TT (wp := []) (T := (WW a K KS st1v_29 (svH hs st) sc1v_40)) (wc := []) (wr := []) (tc := [(K, .int), (KS, .object "BarcodeWand$State")]) hG hS hA hK hP hD [] [] [0, 1] rfl rfl (by decide) (by decide) (by decide) rfl
      refine k_endi (As := [.ref (a 0)]) ct (k_runV (As := []) (rest := []) S0 Lv_L_129 rfl (ci := 7) (q0 := 0) rfl (WW_0 a K KS st1v_29 (svH hs st) sc1v_40) ct (c_B_successes l D a K KS st1v_29 (svH hs st) sc1v_40 H.size) hl.1 rfl (Nat.le_of_ble_eq_true rfl) rfl dL_draws_128 ⟨⟨Nat.le_of_ble_eq_true rfl, Nat.le_of_ble_eq_true rfl⟩, Nat.le_of_ble_eq_true rfl, Nat.le_of_ble_eq_true rfl⟩) rfl rfl (fun r_48 _ H locs hw_49 hP hD hK hS => ?_)
      have hK : va_K D vwCl [(K, .int), (KS, .object "BarcodeWand$State")] s := hK
      have hP : va_P D vwCl ((WW a K KS st1v_29 (svH hs st) sc1v_40)) H := hP
      have hD : va_D A ((WW a K KS st1v_29 (svH hs st) sc1v_40)) := hD
      have hw_49 : r_48 = (s_suc st1v_29) := hw_49
      have hw_49 := hw_49.symm
      subst hw_49
      refine k_nrm (y := (s_suc st1v_29)) rfl ?_
      refine lv_iload hx hb dL_draws_131 (lv_at hl 2 rfl) ?_
      refine lv_iload hx hb dL_draws_133 (lv_at hl 0 rfl) ?_
      refine lv_if_le (tgt := 142) hx hb dL_draws_135 (by decide) (fun c_50 => ?_) (fun c_50 => ?_)
      · have hc9 := c_50
        refine lv_iconst (v := 1) hx hb dL_draws_142 (by decide) ?_
        refine lv_iadd hx hb dL_draws_143 ?_
        refine k_nrm (y := ((s_suc st) + 1)) (rfl) ?_
        refine lv_icmp_ne (tgt := 158) hx hb dL_draws_144 (by decide) (fun c9 => absurd (hs3.1 c_50) c9) (fun c_51 => ?_)
        refine lv_aload_n hx hb dL_draws_147 rfl (lv_at hl 5 rfl) ?_
        have ct := k_cut_TT (wp := []) (T := (WW a K KS st1v_29 (svH hs st) sc1v_40)) (wc := []) (wr := []) (tc := [(K, .int), (KS, .object "BarcodeWand$State")]) hG hS hA hK hP hD [] [] [0, 1] rfl rfl (by decide) (by decide) (by decide) rfl
        refine k_endi (As := [.ref (a 0)]) ct (k_runS (As := [.ref (a 0)]) (rest := []) S0 Ls_L_157 ct (c_L_hangs l hst D a K KS st1v_29 (svH hs st) sc1v_40 (N + 1) hj1 (by omega) H.size) hl.1 rfl (Nat.le_of_ble_eq_true rfl) rfl dL_draws_148 ⟨⟨Nat.le_of_ble_eq_true rfl, Nat.le_of_ble_eq_true rfl⟩, Nat.le_of_ble_eq_true rfl, Nat.le_of_ble_eq_true rfl⟩) rfl rfl (fun r_52 sc1v_53 H locs hw_54 hP hD hK hS => ?_)
        have hK : va_K D vwCl [(K, .int), (KS, .object "BarcodeWand$State")] s := hK
        have hP : va_P D vwCl ((WW a K KS st1v_29 (svH hs st) sc1v_53)) H := hP
        have hD : va_D A ((WW a K KS st1v_29 (svH hs st) sc1v_53)) := hD
        have hw_54 : r_52 = 1 := hw_54
        have hw_54 := hw_54.symm
        subst hw_54
        refine k_nrm (y := 1) rfl ?_
        refine lv_if_eq (tgt := 158) hx hb dL_draws_151 (by decide) (fun c9 => absurd c9 (by decide)) (fun _ => ?_)
        refine lv_iconst (v := 1) hx hb dL_draws_154 (by decide) ?_
        refine lv_goto (tgt := 159) hx hb dL_draws_155 (by decide) ?_
        refine lv_istore (lv' := [(10, .int 1), (9, .int (resF (s_ns st) (s_drw st lf rt 0) (s_tol st))), (8, .int (s_fai st)), (7, .int (s_suc st)), (6, .int (resF (s_ns st) (s_drw st lf rt 0) (s_tol st))), (4, .long (P0 st)), (0, .ref (a 0)), (1, .int lf), (2, .int rt), (3, .int 0)]) hx hb dL_draws_159 hl (by decide) rfl (fun ls hl => ?_)
        refine lv_aload_n hx hb dL_draws_161 rfl (lv_at hl 6 rfl) ?_
        have ct := k_cut_TT (wp := []) (T := (WW a K KS st1v_29 (svH hs st) sc1v_53)) (wc := []) (wr := []) (tc := [(K, .int), (KS, .object "BarcodeWand$State")]) hG hS hA hK hP hD [] [] [0, 1] rfl rfl (by decide) (by decide) (by decide) rfl
        refine k_endi (As := [.ref (a 0)]) ct (k_runV (As := []) (rest := []) S0 Lv_L_113 rfl (ci := 7) (q0 := 0) rfl (WW_0 a K KS st1v_29 (svH hs st) sc1v_53) ct (c_B_times l D a K KS st1v_29 (svH hs st) sc1v_53 H.size) hl.1 rfl (Nat.le_of_ble_eq_true rfl) rfl dL_draws_162 ⟨⟨Nat.le_of_ble_eq_true rfl, Nat.le_of_ble_eq_true rfl⟩, Nat.le_of_ble_eq_true rfl, Nat.le_of_ble_eq_true rfl⟩) rfl rfl (fun r_55 _ H locs hw_56 hP hD hK hS => ?_)
        have hK : va_K D vwCl [(K, .int), (KS, .object "BarcodeWand$State")] s := hK
        have hP : va_P D vwCl ((WW a K KS st1v_29 (svH hs st) sc1v_53)) H := hP
        have hD : va_D A ((WW a K KS st1v_29 (svH hs st) sc1v_53)) := hD
        have hw_56 : r_55 = (nI (s_tn st1v_29)) := hw_56
        have hw_56 := hw_56.symm
        subst hw_56
        refine k_nrm (y := (nI (s_tn st1v_29))) rfl ?_
        refine lv_istore (lv' := [(11, .int (nI (s_tn st1v_29))), (10, .int 1), (9, .int (resF (s_ns st) (s_drw st lf rt 0) (s_tol st))), (8, .int (s_fai st)), (7, .int (s_suc st)), (6, .int (resF (s_ns st) (s_drw st lf rt 0) (s_tol st))), (4, .long (P0 st)), (0, .ref (a 0)), (1, .int lf), (2, .int rt), (3, .int 0)]) hx hb dL_draws_165 hl (by decide) rfl (fun ls hl => ?_)
        refine lv_aload_n hx hb dL_draws_167 rfl (lv_at hl 7 rfl) ?_
        refine lv_iconst (v := 0) hx hb dL_draws_168 (by decide) ?_
        have ct := k_cut_TT (wp := []) (T := (WW a K KS st1v_29 (svH hs st) sc1v_53)) (wc := []) (wr := []) (tc := [(K, .int), (KS, .object "BarcodeWand$State")]) hG hS hA hK hP hD [] [] [0, 1] rfl rfl (by decide) (by decide) (by decide) rfl
        refine k_endi (As := [.ref (a 0), .int 0]) ct (k_runSW (As := [.ref (a 0), .int 0]) (rest := []) S0 Ls_L_147 ct (c_L_time l D a K KS st1v_29 (svH hs st) sc1v_53 0 (inR_in (x := 0) (by omega) (by omega)) H.size) hl.1 rfl (Nat.le_of_ble_eq_true rfl) rfl dL_draws_169 ⟨⟨Nat.le_of_ble_eq_true rfl, Nat.le_of_ble_eq_true rfl⟩, Nat.le_of_ble_eq_true rfl, Nat.le_of_ble_eq_true rfl⟩) rfl rfl (fun r_57 _ H locs hw_58 hP hD hK hS => ?_)
        have hK : va_K D vwCl [(K, .int), (KS, .object "BarcodeWand$State")] s := hK
        have hP : va_P D vwCl ((WW a K KS st1v_29 (svH hs st) sc1v_53)) H := hP
        have hD : va_D A ((WW a K KS st1v_29 (svH hs st) sc1v_53)) := hD
        have hw_58 : r_57 = (rowAt 41 (nI (s_tn st1v_29)) (s_tf st1v_29) 0) := hw_58
        have hw_58 := hw_58.symm
        subst hw_58
        refine k_nrm (y := (rowAt 41 (nI (s_tn st1v_29)) (s_tf st1v_29) 0)) rfl ?_
        refine k_nrm (y := (s_drw st lf rt 0 0)) ((rowAt_lt (i := 0) (by omega) ha3 (by decide)).trans (d6 0 (by omega))) ?_
        refine lv_istore (lv' := [(12, .int (s_drw st lf rt 0 0)), (11, .int (nI (s_tn st1v_29))), (10, .int 1), (9, .int (resF (s_ns st) (s_drw st lf rt 0) (s_tol st))), (8, .int (s_fai st)), (7, .int (s_suc st)), (6, .int (resF (s_ns st) (s_drw st lf rt 0) (s_tol st))), (4, .long (P0 st)), (0, .ref (a 0)), (1, .int lf), (2, .int rt), (3, .int 0)]) hx hb dL_draws_172 hl (by decide) rfl (fun ls hl => ?_)
        refine lv_aload_n hx hb dL_draws_174 rfl (lv_at hl 8 rfl) ?_
        refine lv_iload hx hb dL_draws_175 (lv_at hl 1 rfl) ?_
        refine lv_iconst (v := 1) hx hb dL_draws_177 (by decide) ?_
        refine lv_isub hx hb dL_draws_178 ?_
        refine k_nrm (y := (nI (s_ns st - 1))) (by rw [d5]; exact pk_sub (b := 1) (by omega)) ?_
        have ct := k_cut_TT (wp := []) (T := (WW a K KS st1v_29 (svH hs st) sc1v_53)) (wc := []) (wr := []) (tc := [(K, .int), (KS, .object "BarcodeWand$State")]) hG hS hA hK hP hD [] [] [0, 1] rfl rfl (by decide) (by decide) (by decide) rfl
        refine k_endi (As := [.ref (a 0), .int (nI (s_ns st - 1))]) ct (k_runSW (As := [.ref (a 0), .int (nI (s_ns st - 1))]) (rest := []) S0 Ls_L_147 ct (c_L_time l D a K KS st1v_29 (svH hs st) sc1v_53 (nI (s_ns st - 1)) (inR_in (by omega) (by omega)) H.size) hl.1 rfl (Nat.le_of_ble_eq_true rfl) rfl dL_draws_179 ⟨⟨Nat.le_of_ble_eq_true rfl, Nat.le_of_ble_eq_true rfl⟩, Nat.le_of_ble_eq_true rfl, Nat.le_of_ble_eq_true rfl⟩) rfl rfl (fun r_59 _ H locs hw_60 hP hD hK hS => ?_)
        have hK : va_K D vwCl [(K, .int), (KS, .object "BarcodeWand$State")] s := hK
        have hP : va_P D vwCl ((WW a K KS st1v_29 (svH hs st) sc1v_53)) H := hP
        have hD : va_D A ((WW a K KS st1v_29 (svH hs st) sc1v_53)) := hD
        have hw_60 : r_59 = (rowAt 41 (nI (s_tn st1v_29)) (s_tf st1v_29) (nI (s_ns st - 1))) := hw_60
        have hw_60 := hw_60.symm
        subst hw_60
        refine k_nrm (y := (rowAt 41 (nI (s_tn st1v_29)) (s_tf st1v_29) (nI (s_ns st - 1)))) rfl ?_
        refine k_nrm (y := (s_drw st lf rt 0 (s_ns st - 1))) ((rowAt_lt (by omega) ha3 (by decide)).trans (d6 _ (by omega))) ?_
        refine lv_istore (lv' := [(13, .int (s_drw st lf rt 0 (s_ns st - 1))), (12, .int (s_drw st lf rt 0 0)), (11, .int (nI (s_tn st1v_29))), (10, .int 1), (9, .int (resF (s_ns st) (s_drw st lf rt 0) (s_tol st))), (8, .int (s_fai st)), (7, .int (s_suc st)), (6, .int (resF (s_ns st) (s_drw st lf rt 0) (s_tol st))), (4, .long (P0 st)), (0, .ref (a 0)), (1, .int lf), (2, .int rt), (3, .int 0)]) hx hb dL_draws_182 hl (by decide) rfl (fun ls hl => ?_)
        refine lv_aload_n hx hb dL_draws_184 rfl (lv_at hl 9 rfl) ?_
        refine lv_iload_n hx hb dL_draws_185 rfl (lv_at hl 10 rfl) ?_
        refine lv_iload_n hx hb dL_draws_186 rfl (lv_at hl 11 rfl) ?_
        refine lv_iload_n hx hb dL_draws_187 rfl (lv_at hl 12 rfl) ?_
        refine lv_if_ne (tgt := 195) hx hb dL_draws_188 (by decide) (fun c9 => absurd (by decide) c9) (fun _ => ?_)
        refine lv_iconst (v := 1) hx hb dL_draws_191 (by decide) ?_
        refine lv_goto (tgt := 196) hx hb dL_draws_192 (by decide) ?_
        have ct := k_cut_TT (wp := []) (T := (WW a K KS st1v_29 (svH hs st) sc1v_53)) (wc := []) (wr := []) (tc := [(K, .int), (KS, .object "BarcodeWand$State")]) hG hS hA hK hP hD [] [] [0, 1] rfl rfl (by decide) (by decide) (by decide) rfl
        refine k_endi (As := [.ref (a 0), .int lf, .int rt, .int 1]) ct (k_runSW (As := [.ref (a 0), .int lf, .int rt, .int 1]) (rest := []) S0 Ls_L_93 ct (c_L_draw l D a K KS st1v_29 (svH hs st) sc1v_53 lf rt 1 hj1.1 hh1 hp hne1 H.size) hl.1 rfl (Nat.le_of_ble_eq_true rfl) rfl dL_draws_196 ⟨⟨Nat.le_of_ble_eq_true rfl, Nat.le_of_ble_eq_true rfl⟩, Nat.le_of_ble_eq_true rfl, Nat.le_of_ble_eq_true rfl⟩) rfl rfl (fun r_61 u H locs hw_64 hP hD hK hS => ?_)
        obtain ⟨st1v_62, sc1v_63⟩ := u
        have hK : va_K D vwCl [(K, .int), (KS, .object "BarcodeWand$State")] s := hK
        have hP : va_P D vwCl ((WW a K KS st1v_62 (svH (svH hs st) st1v_29) sc1v_63)) H := hP
        have hD : va_D A ((WW a K KS st1v_62 (svH (svH hs st) st1v_29) sc1v_63)) := hD
        have hw_64 : RC (setT (s_ns st1v_29) (cpy (s_drw st1v_29 lf rt 1) (s_tf st1v_29) (s_ns st1v_29)) st1v_29) st1v_62 r_61 := hw_64
        obtain ⟨e0, e1, e2, e3, e4, e5, e6, e7, e8⟩ := drw_out hj1.1 hw_64
        have hj2 := drw_inv hj1 hw_64
        refine k_nrm (y := (resF (s_ns st1v_29) (s_drw st1v_29 lf rt 1) (s_tol st1v_29))) (e0) ?_
        obtain ⟨hc1, hc2, hc3, hc4⟩ := bST_le hj2.1
        have hh2 := okH_sv hh1 hj1.1
        have K2 := stk_push st1v_29 hh1 (Nat.le_of_ble_eq_true rfl) K1
        have hsw : ∀ j, j < s_ns st → s_tf st1v_62 j = s_drw st lf rt 1 j := fun j hj => by rw [e6 j (by omega), hsd]
        have hrv : (resF (s_ns st) (s_drw st lf rt 0) (s_tol st)) = 0 → ¬ 0 < (resF (s_ns st1v_29) (s_drw st1v_29 lf rt 1) (s_tol st1v_29)) := fun q9 => by rw [d3, hsd, d7]; exact res_rev hb2 (fun j hj => drw_rev hb2 hj) q9
        refine lv_istore (lv' := [(14, .int (resF (s_ns st1v_29) (s_drw st1v_29 lf rt 1) (s_tol st1v_29))), (13, .int (s_drw st lf rt 0 (s_ns st - 1))), (12, .int (s_drw st lf rt 0 0)), (11, .int (nI (s_tn st1v_29))), (10, .int 1), (9, .int (resF (s_ns st) (s_drw st lf rt 0) (s_tol st))), (8, .int (s_fai st)), (7, .int (s_suc st)), (6, .int (resF (s_ns st) (s_drw st lf rt 0) (s_tol st))), (4, .long (P0 st)), (0, .ref (a 0)), (1, .int lf), (2, .int rt), (3, .int 0)]) hx hb dL_draws_199 hl (by decide) rfl (fun ls hl => ?_)
        refine lv_iload hx hb dL_draws_201 (lv_at hl 4 rfl) ?_
        refine lv_if_eq (tgt := 243) hx hb dL_draws_203 (by decide) (fun c9 => absurd c9 (by decide)) (fun _ => ?_)
        refine lv_aload_n hx hb dL_draws_206 rfl (lv_at hl 10 rfl) ?_
        refine lv_iconst (v := 0) hx hb dL_draws_207 (by decide) ?_
        have ct := k_cut_TT (wp := []) (T := (WW a K KS st1v_62 (svH (svH hs st) st1v_29) sc1v_63)) (wc := []) (wr := []) (tc := [(K, .int), (KS, .object "BarcodeWand$State")]) hG hS hA hK hP hD [] [] [0, 1] rfl rfl (by decide) (by decide) (by decide) rfl
        refine k_endi (As := [.ref (a 0), .int 0]) ct (k_runSW (As := [.ref (a 0), .int 0]) (rest := []) S0 Ls_L_147 ct (c_L_time l D a K KS st1v_62 (svH (svH hs st) st1v_29) sc1v_63 0 (inR_in (x := 0) (by omega) (by omega)) H.size) hl.1 rfl (Nat.le_of_ble_eq_true rfl) rfl dL_draws_208 ⟨⟨Nat.le_of_ble_eq_true rfl, Nat.le_of_ble_eq_true rfl⟩, Nat.le_of_ble_eq_true rfl, Nat.le_of_ble_eq_true rfl⟩) rfl rfl (fun r_65 _ H locs hw_66 hP hD hK hS => ?_)
        have hK : va_K D vwCl [(K, .int), (KS, .object "BarcodeWand$State")] s := hK
        have hP : va_P D vwCl ((WW a K KS st1v_62 (svH (svH hs st) st1v_29) sc1v_63)) H := hP
        have hD : va_D A ((WW a K KS st1v_62 (svH (svH hs st) st1v_29) sc1v_63)) := hD
        have hw_66 : r_65 = (rowAt 41 (nI (s_tn st1v_62)) (s_tf st1v_62) 0) := hw_66
        have hw_66 := hw_66.symm
        subst hw_66
        refine k_nrm (y := (rowAt 41 (nI (s_tn st1v_62)) (s_tf st1v_62) 0)) rfl ?_
        refine k_nrm (y := (s_drw st lf rt 1 0)) ((rowAt_lt (i := 0) (by omega) hc3 (by decide)).trans (hsw 0 (by omega))) ?_
        refine lv_iload hx hb dL_draws_211 (lv_at hl 1 rfl) ?_
        refine lv_icmp_ne (tgt := 243) hx hb dL_draws_213 (by decide) (fun c9 => absurd ((drw_e hb2 (by omega)).1) c9) (fun c_67 => ?_)
        refine lv_aload_n hx hb dL_draws_216 rfl (lv_at hl 10 rfl) ?_
        refine lv_iload hx hb dL_draws_217 (lv_at hl 3 rfl) ?_
        refine lv_iconst (v := 1) hx hb dL_draws_219 (by decide) ?_
        refine lv_isub hx hb dL_draws_220 ?_
        refine k_nrm (y := (nI (s_ns st - 1))) (by rw [d5]; exact pk_sub (b := 1) (by omega)) ?_
        have ct := k_cut_TT (wp := []) (T := (WW a K KS st1v_62 (svH (svH hs st) st1v_29) sc1v_63)) (wc := []) (wr := []) (tc := [(K, .int), (KS, .object "BarcodeWand$State")]) hG hS hA hK hP hD [] [] [0, 1] rfl rfl (by decide) (by decide) (by decide) rfl
        refine k_endi (As := [.ref (a 0), .int (nI (s_ns st - 1))]) ct (k_runSW (As := [.ref (a 0), .int (nI (s_ns st - 1))]) (rest := []) S0 Ls_L_147 ct (c_L_time l D a K KS st1v_62 (svH (svH hs st) st1v_29) sc1v_63 (nI (s_ns st - 1)) (inR_in (by omega) (by omega)) H.size) hl.1 rfl (Nat.le_of_ble_eq_true rfl) rfl dL_draws_221 ⟨⟨Nat.le_of_ble_eq_true rfl, Nat.le_of_ble_eq_true rfl⟩, Nat.le_of_ble_eq_true rfl, Nat.le_of_ble_eq_true rfl⟩) rfl rfl (fun r_68 _ H locs hw_69 hP hD hK hS => ?_)
        have hK : va_K D vwCl [(K, .int), (KS, .object "BarcodeWand$State")] s := hK
        have hP : va_P D vwCl ((WW a K KS st1v_62 (svH (svH hs st) st1v_29) sc1v_63)) H := hP
        have hD : va_D A ((WW a K KS st1v_62 (svH (svH hs st) st1v_29) sc1v_63)) := hD
        have hw_69 : r_68 = (rowAt 41 (nI (s_tn st1v_62)) (s_tf st1v_62) (nI (s_ns st - 1))) := hw_69
        have hw_69 := hw_69.symm
        subst hw_69
        refine k_nrm (y := (rowAt 41 (nI (s_tn st1v_62)) (s_tf st1v_62) (nI (s_ns st - 1)))) rfl ?_
        refine k_nrm (y := (s_drw st lf rt 1 (s_ns st - 1))) ((rowAt_lt (by omega) hc3 (by decide)).trans (hsw _ (by omega))) ?_
        refine lv_iload hx hb dL_draws_224 (lv_at hl 2 rfl) ?_
        refine lv_icmp_ne (tgt := 243) hx hb dL_draws_226 (by decide) (fun c9 => absurd ((drw_e hb2 (by omega)).2.symm) c9) (fun c_70 => ?_)
        refine lv_iload hx hb dL_draws_229 (lv_at hl 5 rfl) ?_
        refine lv_if_ne (tgt := 239) hx hb dL_draws_231 (by decide) (fun c_71 => ?_) (fun c_71 => ?_)
        · have hc9 := c_71
          refine lv_iconst (v := 1) hx hb dL_draws_239 (by decide) ?_
          refine lv_goto (tgt := 244) hx hb dL_draws_240 (by decide) ?_
          refine lv_istore (lv' := [(10, .int 1), (14, .int (resF (s_ns st1v_29) (s_drw st1v_29 lf rt 1) (s_tol st1v_29))), (13, .int (s_drw st lf rt 0 (s_ns st - 1))), (12, .int (s_drw st lf rt 0 0)), (11, .int (nI (s_tn st1v_29))), (9, .int (resF (s_ns st) (s_drw st lf rt 0) (s_tol st))), (8, .int (s_fai st)), (7, .int (s_suc st)), (6, .int (resF (s_ns st) (s_drw st lf rt 0) (s_tol st))), (4, .long (P0 st)), (0, .ref (a 0)), (1, .int lf), (2, .int rt), (3, .int 0)]) hx hb dL_draws_244 hl (by decide) rfl (fun ls hl => ?_)
          refine lv_iload hx hb dL_draws_246 (lv_at hl 0 rfl) ?_
          refine lv_if_eq (tgt := 279) hx hb dL_draws_248 (by decide) (fun c9 => absurd c9 (by decide)) (fun _ => ?_)
          refine lv_aload_n hx hb dL_draws_251 rfl (lv_at hl 10 rfl) ?_
          have ct := k_cut_TT (wp := []) (T := (WW a K KS st1v_62 (svH (svH hs st) st1v_29) sc1v_63)) (wc := []) (wr := []) (tc := [(K, .int), (KS, .object "BarcodeWand$State")]) hG hS hA hK hP hD [] [] [0, 1] rfl rfl (by decide) (by decide) (by decide) rfl
          refine k_endi (As := [.ref (a 0)]) ct (k_runSW (As := [.ref (a 0)]) (rest := []) S0 Ls_L_160 ct (c_L_undo l D a K KS st1v_62 (svH (svH hs st) st1v_29) sc1v_63 hj2.1 hh2 ((stk_pop K2).1) H.size) hl.1 rfl (Nat.le_of_ble_eq_true rfl) rfl dL_draws_252 ⟨⟨Nat.le_of_ble_eq_true rfl, Nat.le_of_ble_eq_true rfl⟩, Nat.le_of_ble_eq_true rfl, Nat.le_of_ble_eq_true rfl⟩) rfl rfl (fun r_72 st1v_73 H locs hw_74 hP hD hK hS => ?_)
          have hK : va_K D vwCl [(K, .int), (KS, .object "BarcodeWand$State")] s := hK
          have hP : va_P D vwCl ((WW a K KS st1v_73 (rsH (svH (svH hs st) st1v_29)) sc1v_63)) H := hP
          have hD : va_D A ((WW a K KS st1v_73 (rsH (svH (svH hs st) st1v_29)) sc1v_63)) := hD
          have hw_74 : r_72 = (nI (h_kp (svH (svH hs st) st1v_29) - 1)) ∧ st1v_73 = rsS (svH (svH hs st) st1v_29) st1v_62 := hw_74
          obtain ⟨u_75a, u_75b⟩ := hw_74
          refine k_nrm (y := (nI (h_kp (svH (svH hs st) st1v_29) - 1))) (u_75a) ?_
          have u_75h := okH_rs hh2
          have u_75c : bST st1v_73 := by rw [u_75b]; exact bST_rs _ hh2
          have u_75k := (stk_pop K2).2.1
          have u_75v := (stk_pop K2).2.2 st1v_62
          rw [← u_75b] at u_75v
          have u_75p : ¬ (nI (h_kp (svH (svH hs st) st1v_29) - 1)) < 0 := nI_pos (by have := kp_6 hh2; omega)
          refine lv_if_lt (tgt := 279) hx hb dL_draws_255 (by decide) (fun c9 => absurd c9 u_75p) (fun c_76 => ?_)
          refine lv_aload_n hx hb dL_draws_258 rfl (lv_at hl 10 rfl) ?_
          have ct := k_cut_TT (wp := []) (T := (WW a K KS st1v_73 (rsH (svH (svH hs st) st1v_29)) sc1v_63)) (wc := []) (wr := []) (tc := [(K, .int), (KS, .object "BarcodeWand$State")]) hG hS hA hK hP hD [] [] [0, 1] rfl rfl (by decide) (by decide) (by decide) rfl
          refine k_endi (As := [.ref (a 0)]) ct (k_runSW (As := [.ref (a 0)]) (rest := []) S0 Ls_L_160 ct (c_L_undo l D a K KS st1v_73 (rsH (svH (svH hs st) st1v_29)) sc1v_63 u_75c u_75h ((stk_pop u_75k).1) H.size) hl.1 rfl (Nat.le_of_ble_eq_true rfl) rfl dL_draws_259 ⟨⟨Nat.le_of_ble_eq_true rfl, Nat.le_of_ble_eq_true rfl⟩, Nat.le_of_ble_eq_true rfl, Nat.le_of_ble_eq_true rfl⟩) rfl rfl (fun r_77 st1v_78 H locs hw_79 hP hD hK hS => ?_)
          have hK : va_K D vwCl [(K, .int), (KS, .object "BarcodeWand$State")] s := hK
          have hP : va_P D vwCl ((WW a K KS st1v_78 (rsH (rsH (svH (svH hs st) st1v_29))) sc1v_63)) H := hP
          have hD : va_D A ((WW a K KS st1v_78 (rsH (rsH (svH (svH hs st) st1v_29))) sc1v_63)) := hD
          have hw_79 : r_77 = (nI (h_kp (rsH (svH (svH hs st) st1v_29)) - 1)) ∧ st1v_78 = rsS (rsH (svH (svH hs st) st1v_29)) st1v_73 := hw_79
          obtain ⟨u_80a, u_80b⟩ := hw_79
          refine k_nrm (y := (nI (h_kp (rsH (svH (svH hs st) st1v_29)) - 1))) (u_80a) ?_
          have u_80h := okH_rs u_75h
          have u_80c : bST st1v_78 := by rw [u_80b]; exact bST_rs _ u_75h
          have u_80k := (stk_pop u_75k).2.1
          have u_80v := (stk_pop u_75k).2.2 st1v_73
          rw [← u_80b] at u_80v
          have u_80p : ¬ (nI (h_kp (rsH (svH (svH hs st) st1v_29)) - 1)) < 0 := nI_pos (by have := kp_6 u_75h; omega)
          refine lv_if_lt (tgt := 279) hx hb dL_draws_262 (by decide) (fun c9 => absurd c9 u_80p) (fun c_81 => ?_)
          refine lv_aload_n hx hb dL_draws_265 rfl (lv_at hl 10 rfl) ?_
          have ct := k_cut_TT (wp := []) (T := (WW a K KS st1v_78 (rsH (rsH (svH (svH hs st) st1v_29))) sc1v_63)) (wc := []) (wr := []) (tc := [(K, .int), (KS, .object "BarcodeWand$State")]) hG hS hA hK hP hD [] [] [0, 1] rfl rfl (by decide) (by decide) (by decide) rfl
          refine k_endl (As := [.ref (a 0)]) ct (k_runS (As := [.ref (a 0)]) (rest := []) S0 Ls_L_153 ct (c_L_print0 l D a K KS st1v_78 (rsH (rsH (svH (svH hs st) st1v_29))) sc1v_63 u_80c H.size) hl.1 rfl (Nat.le_of_ble_eq_true rfl) rfl dL_draws_266 ⟨⟨Nat.le_of_ble_eq_true rfl, Nat.le_of_ble_eq_true rfl⟩, Nat.le_of_ble_eq_true rfl, Nat.le_of_ble_eq_true rfl⟩) rfl rfl (fun r_82 sc1v_83 H locs hw_84 hP hD hK hS => ?_)
          have hK : va_K D vwCl [(K, .int), (KS, .object "BarcodeWand$State")] s := hK
          have hP : va_P D vwCl ((WW a K KS st1v_78 (rsH (rsH (svH (svH hs st) st1v_29))) sc1v_83)) H := hP
          have hD : va_D A ((WW a K KS st1v_78 (rsH (rsH (svH (svH hs st) st1v_29))) sc1v_83)) := hD
          have hw_84 : r_82 = (P0 st1v_78) := hw_84
          have hw_84 := hw_84.symm
          subst hw_84
          refine k_nrml (y := (P0 st1v_78)) rfl ?_
          refine lv_lload hx hb dL_draws_269 (lv_at hl 9 rfl) ?_
          refine W.lcmp hx hb dL_draws_271 ?_
          refine k_nrm (y := 0) ((by rw [P0_view u_80v u_80c]; exact lgc _)) ?_
          refine lv_if_ne (tgt := 279) hx hb dL_draws_272 (by decide) (fun c9 => absurd (by decide) c9) (fun _ => ?_)
          refine lv_iconst (v := 1) hx hb dL_draws_275 (by decide) ?_
          refine lv_goto (tgt := 280) hx hb dL_draws_276 (by decide) ?_
          have hP9 : va_P D vwCl ((WW a K KS st1v_78 (rsH (rsH (svH (svH hs st) st1v_29))) sc1v_83)) H := k_subP (wp := []) (wp' := []) (T := (WW a K KS st1v_78 (rsH (rsH (svH (svH hs st) st1v_29))) sc1v_83)) hP [] rfl
          have hD9 : va_D A ((WW a K KS st1v_78 (rsH (rsH (svH (svH hs st) st1v_29))) sc1v_83)) := k_subD (wp := []) (wp' := []) (T := (WW a K KS st1v_78 (rsH (rsH (svH (svH hs st) st1v_29))) sc1v_83)) hD [] (by decide) rfl
          have hP9 : va_P D vwCl ((WW a K KS st1v_78 (rsH (rsH (svH (svH hs st) st1v_29))) sc1v_83)) H := hP9
          have hD9 : va_D A ((WW a K KS st1v_78 (rsH (rsH (svH (svH hs st) st1v_29))) sc1v_83)) := hD9
          have hK9 : va_K D vwCl [] s := hK.sub [] rfl
          exact W.zret (v := 1) hx hb hr (rfl) (fun t ht9 hW9 => ⟨⟨1, (st1v_78, (rsH (rsH (svH (svH hs st) st1v_29))), sc1v_83), rfl, by (exact ⟨rfl, u_80h, u_80v⟩), ⟨by rw [ht9]; exact hP9, va_K.moved hW9.alike hK9, hD9⟩⟩, hS.F ht9⟩) hS.2.2 dL_draws_280
        · have hc9 := c_71
          refine lv_iload hx hb dL_draws_234 (lv_at hl 0 rfl) ?_
          refine lv_if_gt (tgt := 243) hx hb dL_draws_236 (by decide) (fun c9 => absurd c9 (hrv c_71)) (fun c_85 => ?_)
          refine lv_iconst (v := 1) hx hb dL_draws_239 (by decide) ?_
          refine lv_goto (tgt := 244) hx hb dL_draws_240 (by decide) ?_
          refine lv_istore (lv' := [(10, .int 1), (14, .int (resF (s_ns st1v_29) (s_drw st1v_29 lf rt 1) (s_tol st1v_29))), (13, .int (s_drw st lf rt 0 (s_ns st - 1))), (12, .int (s_drw st lf rt 0 0)), (11, .int (nI (s_tn st1v_29))), (9, .int (resF (s_ns st) (s_drw st lf rt 0) (s_tol st))), (8, .int (s_fai st)), (7, .int (s_suc st)), (6, .int (resF (s_ns st) (s_drw st lf rt 0) (s_tol st))), (4, .long (P0 st)), (0, .ref (a 0)), (1, .int lf), (2, .int rt), (3, .int 0)]) hx hb dL_draws_244 hl (by decide) rfl (fun ls hl => ?_)
          refine lv_iload hx hb dL_draws_246 (lv_at hl 0 rfl) ?_
          refine lv_if_eq (tgt := 279) hx hb dL_draws_248 (by decide) (fun c9 => absurd c9 (by decide)) (fun _ => ?_)
          refine lv_aload_n hx hb dL_draws_251 rfl (lv_at hl 10 rfl) ?_
          have ct := k_cut_TT (wp := []) (T := (WW a K KS st1v_62 (svH (svH hs st) st1v_29) sc1v_63)) (wc := []) (wr := []) (tc := [(K, .int), (KS, .object "BarcodeWand$State")]) hG hS hA hK hP hD [] [] [0, 1] rfl rfl (by decide) (by decide) (by decide) rfl
          refine k_endi (As := [.ref (a 0)]) ct (k_runSW (As := [.ref (a 0)]) (rest := []) S0 Ls_L_160 ct (c_L_undo l D a K KS st1v_62 (svH (svH hs st) st1v_29) sc1v_63 hj2.1 hh2 ((stk_pop K2).1) H.size) hl.1 rfl (Nat.le_of_ble_eq_true rfl) rfl dL_draws_252 ⟨⟨Nat.le_of_ble_eq_true rfl, Nat.le_of_ble_eq_true rfl⟩, Nat.le_of_ble_eq_true rfl, Nat.le_of_ble_eq_true rfl⟩) rfl rfl (fun r_86 st1v_87 H locs hw_88 hP hD hK hS => ?_)
          have hK : va_K D vwCl [(K, .int), (KS, .object "BarcodeWand$State")] s := hK
          have hP : va_P D vwCl ((WW a K KS st1v_87 (rsH (svH (svH hs st) st1v_29)) sc1v_63)) H := hP
          have hD : va_D A ((WW a K KS st1v_87 (rsH (svH (svH hs st) st1v_29)) sc1v_63)) := hD
          have hw_88 : r_86 = (nI (h_kp (svH (svH hs st) st1v_29) - 1)) ∧ st1v_87 = rsS (svH (svH hs st) st1v_29) st1v_62 := hw_88
          obtain ⟨u_89a, u_89b⟩ := hw_88
          refine k_nrm (y := (nI (h_kp (svH (svH hs st) st1v_29) - 1))) (u_89a) ?_
          have u_89h := okH_rs hh2
          have u_89c : bST st1v_87 := by rw [u_89b]; exact bST_rs _ hh2
          have u_89k := (stk_pop K2).2.1
          have u_89v := (stk_pop K2).2.2 st1v_62
          rw [← u_89b] at u_89v
          have u_89p : ¬ (nI (h_kp (svH (svH hs st) st1v_29) - 1)) < 0 := nI_pos (by have := kp_6 hh2; omega)
          refine lv_if_lt (tgt := 279) hx hb dL_draws_255 (by decide) (fun c9 => absurd c9 u_89p) (fun c_90 => ?_)
          refine lv_aload_n hx hb dL_draws_258 rfl (lv_at hl 10 rfl) ?_
          have ct := k_cut_TT (wp := []) (T := (WW a K KS st1v_87 (rsH (svH (svH hs st) st1v_29)) sc1v_63)) (wc := []) (wr := []) (tc := [(K, .int), (KS, .object "BarcodeWand$State")]) hG hS hA hK hP hD [] [] [0, 1] rfl rfl (by decide) (by decide) (by decide) rfl
          refine k_endi (As := [.ref (a 0)]) ct (k_runSW (As := [.ref (a 0)]) (rest := []) S0 Ls_L_160 ct (c_L_undo l D a K KS st1v_87 (rsH (svH (svH hs st) st1v_29)) sc1v_63 u_89c u_89h ((stk_pop u_89k).1) H.size) hl.1 rfl (Nat.le_of_ble_eq_true rfl) rfl dL_draws_259 ⟨⟨Nat.le_of_ble_eq_true rfl, Nat.le_of_ble_eq_true rfl⟩, Nat.le_of_ble_eq_true rfl, Nat.le_of_ble_eq_true rfl⟩) rfl rfl (fun r_91 st1v_92 H locs hw_93 hP hD hK hS => ?_)
          have hK : va_K D vwCl [(K, .int), (KS, .object "BarcodeWand$State")] s := hK
          have hP : va_P D vwCl ((WW a K KS st1v_92 (rsH (rsH (svH (svH hs st) st1v_29))) sc1v_63)) H := hP
          have hD : va_D A ((WW a K KS st1v_92 (rsH (rsH (svH (svH hs st) st1v_29))) sc1v_63)) := hD
          have hw_93 : r_91 = (nI (h_kp (rsH (svH (svH hs st) st1v_29)) - 1)) ∧ st1v_92 = rsS (rsH (svH (svH hs st) st1v_29)) st1v_87 := hw_93
          obtain ⟨u_94a, u_94b⟩ := hw_93
          refine k_nrm (y := (nI (h_kp (rsH (svH (svH hs st) st1v_29)) - 1))) (u_94a) ?_
          have u_94h := okH_rs u_89h
          have u_94c : bST st1v_92 := by rw [u_94b]; exact bST_rs _ u_89h
          have u_94k := (stk_pop u_89k).2.1
          have u_94v := (stk_pop u_89k).2.2 st1v_87
          rw [← u_94b] at u_94v
          have u_94p : ¬ (nI (h_kp (rsH (svH (svH hs st) st1v_29)) - 1)) < 0 := nI_pos (by have := kp_6 u_89h; omega)
          refine lv_if_lt (tgt := 279) hx hb dL_draws_262 (by decide) (fun c9 => absurd c9 u_94p) (fun c_95 => ?_)
          refine lv_aload_n hx hb dL_draws_265 rfl (lv_at hl 10 rfl) ?_
          have ct := k_cut_TT (wp := []) (T := (WW a K KS st1v_92 (rsH (rsH (svH (svH hs st) st1v_29))) sc1v_63)) (wc := []) (wr := []) (tc := [(K, .int), (KS, .object "BarcodeWand$State")]) hG hS hA hK hP hD [] [] [0, 1] rfl rfl (by decide) (by decide) (by decide) rfl
          refine k_endl (As := [.ref (a 0)]) ct (k_runS (As := [.ref (a 0)]) (rest := []) S0 Ls_L_153 ct (c_L_print0 l D a K KS st1v_92 (rsH (rsH (svH (svH hs st) st1v_29))) sc1v_63 u_94c H.size) hl.1 rfl (Nat.le_of_ble_eq_true rfl) rfl dL_draws_266 ⟨⟨Nat.le_of_ble_eq_true rfl, Nat.le_of_ble_eq_true rfl⟩, Nat.le_of_ble_eq_true rfl, Nat.le_of_ble_eq_true rfl⟩) rfl rfl (fun r_96 sc1v_97 H locs hw_98 hP hD hK hS => ?_)
          have hK : va_K D vwCl [(K, .int), (KS, .object "BarcodeWand$State")] s := hK
          have hP : va_P D vwCl ((WW a K KS st1v_92 (rsH (rsH (svH (svH hs st) st1v_29))) sc1v_97)) H := hP
          have hD : va_D A ((WW a K KS st1v_92 (rsH (rsH (svH (svH hs st) st1v_29))) sc1v_97)) := hD
          have hw_98 : r_96 = (P0 st1v_92) := hw_98
          have hw_98 := hw_98.symm
          subst hw_98
          refine k_nrml (y := (P0 st1v_92)) rfl ?_
          refine lv_lload hx hb dL_draws_269 (lv_at hl 9 rfl) ?_
          refine W.lcmp hx hb dL_draws_271 ?_
          refine k_nrm (y := 0) ((by rw [P0_view u_94v u_94c]; exact lgc _)) ?_
          refine lv_if_ne (tgt := 279) hx hb dL_draws_272 (by decide) (fun c9 => absurd (by decide) c9) (fun _ => ?_)
          refine lv_iconst (v := 1) hx hb dL_draws_275 (by decide) ?_
          refine lv_goto (tgt := 280) hx hb dL_draws_276 (by decide) ?_
          have hP9 : va_P D vwCl ((WW a K KS st1v_92 (rsH (rsH (svH (svH hs st) st1v_29))) sc1v_97)) H := k_subP (wp := []) (wp' := []) (T := (WW a K KS st1v_92 (rsH (rsH (svH (svH hs st) st1v_29))) sc1v_97)) hP [] rfl
          have hD9 : va_D A ((WW a K KS st1v_92 (rsH (rsH (svH (svH hs st) st1v_29))) sc1v_97)) := k_subD (wp := []) (wp' := []) (T := (WW a K KS st1v_92 (rsH (rsH (svH (svH hs st) st1v_29))) sc1v_97)) hD [] (by decide) rfl
          have hP9 : va_P D vwCl ((WW a K KS st1v_92 (rsH (rsH (svH (svH hs st) st1v_29))) sc1v_97)) H := hP9
          have hD9 : va_D A ((WW a K KS st1v_92 (rsH (rsH (svH (svH hs st) st1v_29))) sc1v_97)) := hD9
          have hK9 : va_K D vwCl [] s := hK.sub [] rfl
          exact W.zret (v := 1) hx hb hr (rfl) (fun t ht9 hW9 => ⟨⟨1, (st1v_92, (rsH (rsH (svH (svH hs st) st1v_29))), sc1v_97), rfl, by (exact ⟨rfl, u_94h, u_94v⟩), ⟨by rw [ht9]; exact hP9, va_K.moved hW9.alike hK9, hD9⟩⟩, hS.F ht9⟩) hS.2.2 dL_draws_280
      · have hc9 := c_50
        refine lv_iconst (v := 0) hx hb dL_draws_138 (by decide) ?_
        refine lv_goto (tgt := 143) hx hb dL_draws_139 (by decide) ?_
        refine lv_iadd hx hb dL_draws_143 ?_
        refine k_nrm (y := ((s_suc st) + 0)) (rfl) ?_
        refine lv_icmp_ne (tgt := 158) hx hb dL_draws_144 (by decide) (fun c9 => absurd (hs3.2.1 c_50) c9) (fun c_99 => ?_)
        refine lv_aload_n hx hb dL_draws_147 rfl (lv_at hl 5 rfl) ?_
        have ct := k_cut_TT (wp := []) (T := (WW a K KS st1v_29 (svH hs st) sc1v_40)) (wc := []) (wr := []) (tc := [(K, .int), (KS, .object "BarcodeWand$State")]) hG hS hA hK hP hD [] [] [0, 1] rfl rfl (by decide) (by decide) (by decide) rfl
        refine k_endi (As := [.ref (a 0)]) ct (k_runS (As := [.ref (a 0)]) (rest := []) S0 Ls_L_157 ct (c_L_hangs l hst D a K KS st1v_29 (svH hs st) sc1v_40 (N + 1) hj1 (by omega) H.size) hl.1 rfl (Nat.le_of_ble_eq_true rfl) rfl dL_draws_148 ⟨⟨Nat.le_of_ble_eq_true rfl, Nat.le_of_ble_eq_true rfl⟩, Nat.le_of_ble_eq_true rfl, Nat.le_of_ble_eq_true rfl⟩) rfl rfl (fun r_100 sc1v_101 H locs hw_102 hP hD hK hS => ?_)
        have hK : va_K D vwCl [(K, .int), (KS, .object "BarcodeWand$State")] s := hK
        have hP : va_P D vwCl ((WW a K KS st1v_29 (svH hs st) sc1v_101)) H := hP
        have hD : va_D A ((WW a K KS st1v_29 (svH hs st) sc1v_101)) := hD
        have hw_102 : r_100 = 1 := hw_102
        have hw_102 := hw_102.symm
        subst hw_102
        refine k_nrm (y := 1) rfl ?_
        refine lv_if_eq (tgt := 158) hx hb dL_draws_151 (by decide) (fun c9 => absurd c9 (by decide)) (fun _ => ?_)
        refine lv_iconst (v := 1) hx hb dL_draws_154 (by decide) ?_
        refine lv_goto (tgt := 159) hx hb dL_draws_155 (by decide) ?_
        refine lv_istore (lv' := [(10, .int 1), (9, .int (resF (s_ns st) (s_drw st lf rt 0) (s_tol st))), (8, .int (s_fai st)), (7, .int (s_suc st)), (6, .int (resF (s_ns st) (s_drw st lf rt 0) (s_tol st))), (4, .long (P0 st)), (0, .ref (a 0)), (1, .int lf), (2, .int rt), (3, .int 0)]) hx hb dL_draws_159 hl (by decide) rfl (fun ls hl => ?_)
        refine lv_aload_n hx hb dL_draws_161 rfl (lv_at hl 6 rfl) ?_
        have ct := k_cut_TT (wp := []) (T := (WW a K KS st1v_29 (svH hs st) sc1v_101)) (wc := []) (wr := []) (tc := [(K, .int), (KS, .object "BarcodeWand$State")]) hG hS hA hK hP hD [] [] [0, 1] rfl rfl (by decide) (by decide) (by decide) rfl
        refine k_endi (As := [.ref (a 0)]) ct (k_runV (As := []) (rest := []) S0 Lv_L_113 rfl (ci := 7) (q0 := 0) rfl (WW_0 a K KS st1v_29 (svH hs st) sc1v_101) ct (c_B_times l D a K KS st1v_29 (svH hs st) sc1v_101 H.size) hl.1 rfl (Nat.le_of_ble_eq_true rfl) rfl dL_draws_162 ⟨⟨Nat.le_of_ble_eq_true rfl, Nat.le_of_ble_eq_true rfl⟩, Nat.le_of_ble_eq_true rfl, Nat.le_of_ble_eq_true rfl⟩) rfl rfl (fun r_103 _ H locs hw_104 hP hD hK hS => ?_)
        have hK : va_K D vwCl [(K, .int), (KS, .object "BarcodeWand$State")] s := hK
        have hP : va_P D vwCl ((WW a K KS st1v_29 (svH hs st) sc1v_101)) H := hP
        have hD : va_D A ((WW a K KS st1v_29 (svH hs st) sc1v_101)) := hD
        have hw_104 : r_103 = (nI (s_tn st1v_29)) := hw_104
        have hw_104 := hw_104.symm
        subst hw_104
        refine k_nrm (y := (nI (s_tn st1v_29))) rfl ?_
        refine lv_istore (lv' := [(11, .int (nI (s_tn st1v_29))), (10, .int 1), (9, .int (resF (s_ns st) (s_drw st lf rt 0) (s_tol st))), (8, .int (s_fai st)), (7, .int (s_suc st)), (6, .int (resF (s_ns st) (s_drw st lf rt 0) (s_tol st))), (4, .long (P0 st)), (0, .ref (a 0)), (1, .int lf), (2, .int rt), (3, .int 0)]) hx hb dL_draws_165 hl (by decide) rfl (fun ls hl => ?_)
        refine lv_aload_n hx hb dL_draws_167 rfl (lv_at hl 7 rfl) ?_
        refine lv_iconst (v := 0) hx hb dL_draws_168 (by decide) ?_
        have ct := k_cut_TT (wp := []) (T := (WW a K KS st1v_29 (svH hs st) sc1v_101)) (wc := []) (wr := []) (tc := [(K, .int), (KS, .object "BarcodeWand$State")]) hG hS hA hK hP hD [] [] [0, 1] rfl rfl (by decide) (by decide) (by decide) rfl
        refine k_endi (As := [.ref (a 0), .int 0]) ct (k_runSW (As := [.ref (a 0), .int 0]) (rest := []) S0 Ls_L_147 ct (c_L_time l D a K KS st1v_29 (svH hs st) sc1v_101 0 (inR_in (x := 0) (by omega) (by omega)) H.size) hl.1 rfl (Nat.le_of_ble_eq_true rfl) rfl dL_draws_169 ⟨⟨Nat.le_of_ble_eq_true rfl, Nat.le_of_ble_eq_true rfl⟩, Nat.le_of_ble_eq_true rfl, Nat.le_of_ble_eq_true rfl⟩) rfl rfl (fun r_105 _ H locs hw_106 hP hD hK hS => ?_)
        have hK : va_K D vwCl [(K, .int), (KS, .object "BarcodeWand$State")] s := hK
        have hP : va_P D vwCl ((WW a K KS st1v_29 (svH hs st) sc1v_101)) H := hP
        have hD : va_D A ((WW a K KS st1v_29 (svH hs st) sc1v_101)) := hD
        have hw_106 : r_105 = (rowAt 41 (nI (s_tn st1v_29)) (s_tf st1v_29) 0) := hw_106
        have hw_106 := hw_106.symm
        subst hw_106
        refine k_nrm (y := (rowAt 41 (nI (s_tn st1v_29)) (s_tf st1v_29) 0)) rfl ?_
        refine k_nrm (y := (s_drw st lf rt 0 0)) ((rowAt_lt (i := 0) (by omega) ha3 (by decide)).trans (d6 0 (by omega))) ?_
        refine lv_istore (lv' := [(12, .int (s_drw st lf rt 0 0)), (11, .int (nI (s_tn st1v_29))), (10, .int 1), (9, .int (resF (s_ns st) (s_drw st lf rt 0) (s_tol st))), (8, .int (s_fai st)), (7, .int (s_suc st)), (6, .int (resF (s_ns st) (s_drw st lf rt 0) (s_tol st))), (4, .long (P0 st)), (0, .ref (a 0)), (1, .int lf), (2, .int rt), (3, .int 0)]) hx hb dL_draws_172 hl (by decide) rfl (fun ls hl => ?_)
        refine lv_aload_n hx hb dL_draws_174 rfl (lv_at hl 8 rfl) ?_
        refine lv_iload hx hb dL_draws_175 (lv_at hl 1 rfl) ?_
        refine lv_iconst (v := 1) hx hb dL_draws_177 (by decide) ?_
        refine lv_isub hx hb dL_draws_178 ?_
        refine k_nrm (y := (nI (s_ns st - 1))) (by rw [d5]; exact pk_sub (b := 1) (by omega)) ?_
        have ct := k_cut_TT (wp := []) (T := (WW a K KS st1v_29 (svH hs st) sc1v_101)) (wc := []) (wr := []) (tc := [(K, .int), (KS, .object "BarcodeWand$State")]) hG hS hA hK hP hD [] [] [0, 1] rfl rfl (by decide) (by decide) (by decide) rfl
        refine k_endi (As := [.ref (a 0), .int (nI (s_ns st - 1))]) ct (k_runSW (As := [.ref (a 0), .int (nI (s_ns st - 1))]) (rest := []) S0 Ls_L_147 ct (c_L_time l D a K KS st1v_29 (svH hs st) sc1v_101 (nI (s_ns st - 1)) (inR_in (by omega) (by omega)) H.size) hl.1 rfl (Nat.le_of_ble_eq_true rfl) rfl dL_draws_179 ⟨⟨Nat.le_of_ble_eq_true rfl, Nat.le_of_ble_eq_true rfl⟩, Nat.le_of_ble_eq_true rfl, Nat.le_of_ble_eq_true rfl⟩) rfl rfl (fun r_107 _ H locs hw_108 hP hD hK hS => ?_)
        have hK : va_K D vwCl [(K, .int), (KS, .object "BarcodeWand$State")] s := hK
        have hP : va_P D vwCl ((WW a K KS st1v_29 (svH hs st) sc1v_101)) H := hP
        have hD : va_D A ((WW a K KS st1v_29 (svH hs st) sc1v_101)) := hD
        have hw_108 : r_107 = (rowAt 41 (nI (s_tn st1v_29)) (s_tf st1v_29) (nI (s_ns st - 1))) := hw_108
        have hw_108 := hw_108.symm
        subst hw_108
        refine k_nrm (y := (rowAt 41 (nI (s_tn st1v_29)) (s_tf st1v_29) (nI (s_ns st - 1)))) rfl ?_
        refine k_nrm (y := (s_drw st lf rt 0 (s_ns st - 1))) ((rowAt_lt (by omega) ha3 (by decide)).trans (d6 _ (by omega))) ?_
        refine lv_istore (lv' := [(13, .int (s_drw st lf rt 0 (s_ns st - 1))), (12, .int (s_drw st lf rt 0 0)), (11, .int (nI (s_tn st1v_29))), (10, .int 1), (9, .int (resF (s_ns st) (s_drw st lf rt 0) (s_tol st))), (8, .int (s_fai st)), (7, .int (s_suc st)), (6, .int (resF (s_ns st) (s_drw st lf rt 0) (s_tol st))), (4, .long (P0 st)), (0, .ref (a 0)), (1, .int lf), (2, .int rt), (3, .int 0)]) hx hb dL_draws_182 hl (by decide) rfl (fun ls hl => ?_)
        refine lv_aload_n hx hb dL_draws_184 rfl (lv_at hl 9 rfl) ?_
        refine lv_iload_n hx hb dL_draws_185 rfl (lv_at hl 10 rfl) ?_
        refine lv_iload_n hx hb dL_draws_186 rfl (lv_at hl 11 rfl) ?_
        refine lv_iload_n hx hb dL_draws_187 rfl (lv_at hl 12 rfl) ?_
        refine lv_if_ne (tgt := 195) hx hb dL_draws_188 (by decide) (fun c9 => absurd (by decide) c9) (fun _ => ?_)
        refine lv_iconst (v := 1) hx hb dL_draws_191 (by decide) ?_
        refine lv_goto (tgt := 196) hx hb dL_draws_192 (by decide) ?_
        have ct := k_cut_TT (wp := []) (T := (WW a K KS st1v_29 (svH hs st) sc1v_101)) (wc := []) (wr := []) (tc := [(K, .int), (KS, .object "BarcodeWand$State")]) hG hS hA hK hP hD [] [] [0, 1] rfl rfl (by decide) (by decide) (by decide) rfl
        refine k_endi (As := [.ref (a 0), .int lf, .int rt, .int 1]) ct (k_runSW (As := [.ref (a 0), .int lf, .int rt, .int 1]) (rest := []) S0 Ls_L_93 ct (c_L_draw l D a K KS st1v_29 (svH hs st) sc1v_101 lf rt 1 hj1.1 hh1 hp hne1 H.size) hl.1 rfl (Nat.le_of_ble_eq_true rfl) rfl dL_draws_196 ⟨⟨Nat.le_of_ble_eq_true rfl, Nat.le_of_ble_eq_true rfl⟩, Nat.le_of_ble_eq_true rfl, Nat.le_of_ble_eq_true rfl⟩) rfl rfl (fun r_109 u H locs hw_112 hP hD hK hS => ?_)
        obtain ⟨st1v_110, sc1v_111⟩ := u
        have hK : va_K D vwCl [(K, .int), (KS, .object "BarcodeWand$State")] s := hK
        have hP : va_P D vwCl ((WW a K KS st1v_110 (svH (svH hs st) st1v_29) sc1v_111)) H := hP
        have hD : va_D A ((WW a K KS st1v_110 (svH (svH hs st) st1v_29) sc1v_111)) := hD
        have hw_112 : RC (setT (s_ns st1v_29) (cpy (s_drw st1v_29 lf rt 1) (s_tf st1v_29) (s_ns st1v_29)) st1v_29) st1v_110 r_109 := hw_112
        obtain ⟨e0, e1, e2, e3, e4, e5, e6, e7, e8⟩ := drw_out hj1.1 hw_112
        have hj2 := drw_inv hj1 hw_112
        refine k_nrm (y := (resF (s_ns st1v_29) (s_drw st1v_29 lf rt 1) (s_tol st1v_29))) (e0) ?_
        obtain ⟨hc1, hc2, hc3, hc4⟩ := bST_le hj2.1
        have hh2 := okH_sv hh1 hj1.1
        have K2 := stk_push st1v_29 hh1 (Nat.le_of_ble_eq_true rfl) K1
        have hsw : ∀ j, j < s_ns st → s_tf st1v_110 j = s_drw st lf rt 1 j := fun j hj => by rw [e6 j (by omega), hsd]
        have hrv : (resF (s_ns st) (s_drw st lf rt 0) (s_tol st)) = 0 → ¬ 0 < (resF (s_ns st1v_29) (s_drw st1v_29 lf rt 1) (s_tol st1v_29)) := fun q9 => by rw [d3, hsd, d7]; exact res_rev hb2 (fun j hj => drw_rev hb2 hj) q9
        refine lv_istore (lv' := [(14, .int (resF (s_ns st1v_29) (s_drw st1v_29 lf rt 1) (s_tol st1v_29))), (13, .int (s_drw st lf rt 0 (s_ns st - 1))), (12, .int (s_drw st lf rt 0 0)), (11, .int (nI (s_tn st1v_29))), (10, .int 1), (9, .int (resF (s_ns st) (s_drw st lf rt 0) (s_tol st))), (8, .int (s_fai st)), (7, .int (s_suc st)), (6, .int (resF (s_ns st) (s_drw st lf rt 0) (s_tol st))), (4, .long (P0 st)), (0, .ref (a 0)), (1, .int lf), (2, .int rt), (3, .int 0)]) hx hb dL_draws_199 hl (by decide) rfl (fun ls hl => ?_)
        refine lv_iload hx hb dL_draws_201 (lv_at hl 4 rfl) ?_
        refine lv_if_eq (tgt := 243) hx hb dL_draws_203 (by decide) (fun c9 => absurd c9 (by decide)) (fun _ => ?_)
        refine lv_aload_n hx hb dL_draws_206 rfl (lv_at hl 10 rfl) ?_
        refine lv_iconst (v := 0) hx hb dL_draws_207 (by decide) ?_
        have ct := k_cut_TT (wp := []) (T := (WW a K KS st1v_110 (svH (svH hs st) st1v_29) sc1v_111)) (wc := []) (wr := []) (tc := [(K, .int), (KS, .object "BarcodeWand$State")]) hG hS hA hK hP hD [] [] [0, 1] rfl rfl (by decide) (by decide) (by decide) rfl
        refine k_endi (As := [.ref (a 0), .int 0]) ct (k_runSW (As := [.ref (a 0), .int 0]) (rest := []) S0 Ls_L_147 ct (c_L_time l D a K KS st1v_110 (svH (svH hs st) st1v_29) sc1v_111 0 (inR_in (x := 0) (by omega) (by omega)) H.size) hl.1 rfl (Nat.le_of_ble_eq_true rfl) rfl dL_draws_208 ⟨⟨Nat.le_of_ble_eq_true rfl, Nat.le_of_ble_eq_true rfl⟩, Nat.le_of_ble_eq_true rfl, Nat.le_of_ble_eq_true rfl⟩) rfl rfl (fun r_113 _ H locs hw_114 hP hD hK hS => ?_)
        have hK : va_K D vwCl [(K, .int), (KS, .object "BarcodeWand$State")] s := hK
        have hP : va_P D vwCl ((WW a K KS st1v_110 (svH (svH hs st) st1v_29) sc1v_111)) H := hP
        have hD : va_D A ((WW a K KS st1v_110 (svH (svH hs st) st1v_29) sc1v_111)) := hD
        have hw_114 : r_113 = (rowAt 41 (nI (s_tn st1v_110)) (s_tf st1v_110) 0) := hw_114
        have hw_114 := hw_114.symm
        subst hw_114
        refine k_nrm (y := (rowAt 41 (nI (s_tn st1v_110)) (s_tf st1v_110) 0)) rfl ?_
        refine k_nrm (y := (s_drw st lf rt 1 0)) ((rowAt_lt (i := 0) (by omega) hc3 (by decide)).trans (hsw 0 (by omega))) ?_
        refine lv_iload hx hb dL_draws_211 (lv_at hl 1 rfl) ?_
        refine lv_icmp_ne (tgt := 243) hx hb dL_draws_213 (by decide) (fun c9 => absurd ((drw_e hb2 (by omega)).1) c9) (fun c_115 => ?_)
        refine lv_aload_n hx hb dL_draws_216 rfl (lv_at hl 10 rfl) ?_
        refine lv_iload hx hb dL_draws_217 (lv_at hl 3 rfl) ?_
        refine lv_iconst (v := 1) hx hb dL_draws_219 (by decide) ?_
        refine lv_isub hx hb dL_draws_220 ?_
        refine k_nrm (y := (nI (s_ns st - 1))) (by rw [d5]; exact pk_sub (b := 1) (by omega)) ?_
        have ct := k_cut_TT (wp := []) (T := (WW a K KS st1v_110 (svH (svH hs st) st1v_29) sc1v_111)) (wc := []) (wr := []) (tc := [(K, .int), (KS, .object "BarcodeWand$State")]) hG hS hA hK hP hD [] [] [0, 1] rfl rfl (by decide) (by decide) (by decide) rfl
        refine k_endi (As := [.ref (a 0), .int (nI (s_ns st - 1))]) ct (k_runSW (As := [.ref (a 0), .int (nI (s_ns st - 1))]) (rest := []) S0 Ls_L_147 ct (c_L_time l D a K KS st1v_110 (svH (svH hs st) st1v_29) sc1v_111 (nI (s_ns st - 1)) (inR_in (by omega) (by omega)) H.size) hl.1 rfl (Nat.le_of_ble_eq_true rfl) rfl dL_draws_221 ⟨⟨Nat.le_of_ble_eq_true rfl, Nat.le_of_ble_eq_true rfl⟩, Nat.le_of_ble_eq_true rfl, Nat.le_of_ble_eq_true rfl⟩) rfl rfl (fun r_116 _ H locs hw_117 hP hD hK hS => ?_)
        have hK : va_K D vwCl [(K, .int), (KS, .object "BarcodeWand$State")] s := hK
        have hP : va_P D vwCl ((WW a K KS st1v_110 (svH (svH hs st) st1v_29) sc1v_111)) H := hP
        have hD : va_D A ((WW a K KS st1v_110 (svH (svH hs st) st1v_29) sc1v_111)) := hD
        have hw_117 : r_116 = (rowAt 41 (nI (s_tn st1v_110)) (s_tf st1v_110) (nI (s_ns st - 1))) := hw_117
        have hw_117 := hw_117.symm
        subst hw_117
        refine k_nrm (y := (rowAt 41 (nI (s_tn st1v_110)) (s_tf st1v_110) (nI (s_ns st - 1)))) rfl ?_
        refine k_nrm (y := (s_drw st lf rt 1 (s_ns st - 1))) ((rowAt_lt (by omega) hc3 (by decide)).trans (hsw _ (by omega))) ?_
        refine lv_iload hx hb dL_draws_224 (lv_at hl 2 rfl) ?_
        refine lv_icmp_ne (tgt := 243) hx hb dL_draws_226 (by decide) (fun c9 => absurd ((drw_e hb2 (by omega)).2.symm) c9) (fun c_118 => ?_)
        refine lv_iload hx hb dL_draws_229 (lv_at hl 5 rfl) ?_
        refine lv_if_ne (tgt := 239) hx hb dL_draws_231 (by decide) (fun c_119 => ?_) (fun c_119 => ?_)
        · have hc9 := c_119
          refine lv_iconst (v := 1) hx hb dL_draws_239 (by decide) ?_
          refine lv_goto (tgt := 244) hx hb dL_draws_240 (by decide) ?_
          refine lv_istore (lv' := [(10, .int 1), (14, .int (resF (s_ns st1v_29) (s_drw st1v_29 lf rt 1) (s_tol st1v_29))), (13, .int (s_drw st lf rt 0 (s_ns st - 1))), (12, .int (s_drw st lf rt 0 0)), (11, .int (nI (s_tn st1v_29))), (9, .int (resF (s_ns st) (s_drw st lf rt 0) (s_tol st))), (8, .int (s_fai st)), (7, .int (s_suc st)), (6, .int (resF (s_ns st) (s_drw st lf rt 0) (s_tol st))), (4, .long (P0 st)), (0, .ref (a 0)), (1, .int lf), (2, .int rt), (3, .int 0)]) hx hb dL_draws_244 hl (by decide) rfl (fun ls hl => ?_)
          refine lv_iload hx hb dL_draws_246 (lv_at hl 0 rfl) ?_
          refine lv_if_eq (tgt := 279) hx hb dL_draws_248 (by decide) (fun c9 => absurd c9 (by decide)) (fun _ => ?_)
          refine lv_aload_n hx hb dL_draws_251 rfl (lv_at hl 10 rfl) ?_
          have ct := k_cut_TT (wp := []) (T := (WW a K KS st1v_110 (svH (svH hs st) st1v_29) sc1v_111)) (wc := []) (wr := []) (tc := [(K, .int), (KS, .object "BarcodeWand$State")]) hG hS hA hK hP hD [] [] [0, 1] rfl rfl (by decide) (by decide) (by decide) rfl
          refine k_endi (As := [.ref (a 0)]) ct (k_runSW (As := [.ref (a 0)]) (rest := []) S0 Ls_L_160 ct (c_L_undo l D a K KS st1v_110 (svH (svH hs st) st1v_29) sc1v_111 hj2.1 hh2 ((stk_pop K2).1) H.size) hl.1 rfl (Nat.le_of_ble_eq_true rfl) rfl dL_draws_252 ⟨⟨Nat.le_of_ble_eq_true rfl, Nat.le_of_ble_eq_true rfl⟩, Nat.le_of_ble_eq_true rfl, Nat.le_of_ble_eq_true rfl⟩) rfl rfl (fun r_120 st1v_121 H locs hw_122 hP hD hK hS => ?_)
          have hK : va_K D vwCl [(K, .int), (KS, .object "BarcodeWand$State")] s := hK
          have hP : va_P D vwCl ((WW a K KS st1v_121 (rsH (svH (svH hs st) st1v_29)) sc1v_111)) H := hP
          have hD : va_D A ((WW a K KS st1v_121 (rsH (svH (svH hs st) st1v_29)) sc1v_111)) := hD
          have hw_122 : r_120 = (nI (h_kp (svH (svH hs st) st1v_29) - 1)) ∧ st1v_121 = rsS (svH (svH hs st) st1v_29) st1v_110 := hw_122
          obtain ⟨u_123a, u_123b⟩ := hw_122
          refine k_nrm (y := (nI (h_kp (svH (svH hs st) st1v_29) - 1))) (u_123a) ?_
          have u_123h := okH_rs hh2
          have u_123c : bST st1v_121 := by rw [u_123b]; exact bST_rs _ hh2
          have u_123k := (stk_pop K2).2.1
          have u_123v := (stk_pop K2).2.2 st1v_110
          rw [← u_123b] at u_123v
          have u_123p : ¬ (nI (h_kp (svH (svH hs st) st1v_29) - 1)) < 0 := nI_pos (by have := kp_6 hh2; omega)
          refine lv_if_lt (tgt := 279) hx hb dL_draws_255 (by decide) (fun c9 => absurd c9 u_123p) (fun c_124 => ?_)
          refine lv_aload_n hx hb dL_draws_258 rfl (lv_at hl 10 rfl) ?_
          have ct := k_cut_TT (wp := []) (T := (WW a K KS st1v_121 (rsH (svH (svH hs st) st1v_29)) sc1v_111)) (wc := []) (wr := []) (tc := [(K, .int), (KS, .object "BarcodeWand$State")]) hG hS hA hK hP hD [] [] [0, 1] rfl rfl (by decide) (by decide) (by decide) rfl
          refine k_endi (As := [.ref (a 0)]) ct (k_runSW (As := [.ref (a 0)]) (rest := []) S0 Ls_L_160 ct (c_L_undo l D a K KS st1v_121 (rsH (svH (svH hs st) st1v_29)) sc1v_111 u_123c u_123h ((stk_pop u_123k).1) H.size) hl.1 rfl (Nat.le_of_ble_eq_true rfl) rfl dL_draws_259 ⟨⟨Nat.le_of_ble_eq_true rfl, Nat.le_of_ble_eq_true rfl⟩, Nat.le_of_ble_eq_true rfl, Nat.le_of_ble_eq_true rfl⟩) rfl rfl (fun r_125 st1v_126 H locs hw_127 hP hD hK hS => ?_)
          have hK : va_K D vwCl [(K, .int), (KS, .object "BarcodeWand$State")] s := hK
          have hP : va_P D vwCl ((WW a K KS st1v_126 (rsH (rsH (svH (svH hs st) st1v_29))) sc1v_111)) H := hP
          have hD : va_D A ((WW a K KS st1v_126 (rsH (rsH (svH (svH hs st) st1v_29))) sc1v_111)) := hD
          have hw_127 : r_125 = (nI (h_kp (rsH (svH (svH hs st) st1v_29)) - 1)) ∧ st1v_126 = rsS (rsH (svH (svH hs st) st1v_29)) st1v_121 := hw_127
          obtain ⟨u_128a, u_128b⟩ := hw_127
          refine k_nrm (y := (nI (h_kp (rsH (svH (svH hs st) st1v_29)) - 1))) (u_128a) ?_
          have u_128h := okH_rs u_123h
          have u_128c : bST st1v_126 := by rw [u_128b]; exact bST_rs _ u_123h
          have u_128k := (stk_pop u_123k).2.1
          have u_128v := (stk_pop u_123k).2.2 st1v_121
          rw [← u_128b] at u_128v
          have u_128p : ¬ (nI (h_kp (rsH (svH (svH hs st) st1v_29)) - 1)) < 0 := nI_pos (by have := kp_6 u_123h; omega)
          refine lv_if_lt (tgt := 279) hx hb dL_draws_262 (by decide) (fun c9 => absurd c9 u_128p) (fun c_129 => ?_)
          refine lv_aload_n hx hb dL_draws_265 rfl (lv_at hl 10 rfl) ?_
          have ct := k_cut_TT (wp := []) (T := (WW a K KS st1v_126 (rsH (rsH (svH (svH hs st) st1v_29))) sc1v_111)) (wc := []) (wr := []) (tc := [(K, .int), (KS, .object "BarcodeWand$State")]) hG hS hA hK hP hD [] [] [0, 1] rfl rfl (by decide) (by decide) (by decide) rfl
          refine k_endl (As := [.ref (a 0)]) ct (k_runS (As := [.ref (a 0)]) (rest := []) S0 Ls_L_153 ct (c_L_print0 l D a K KS st1v_126 (rsH (rsH (svH (svH hs st) st1v_29))) sc1v_111 u_128c H.size) hl.1 rfl (Nat.le_of_ble_eq_true rfl) rfl dL_draws_266 ⟨⟨Nat.le_of_ble_eq_true rfl, Nat.le_of_ble_eq_true rfl⟩, Nat.le_of_ble_eq_true rfl, Nat.le_of_ble_eq_true rfl⟩) rfl rfl (fun r_130 sc1v_131 H locs hw_132 hP hD hK hS => ?_)
          have hK : va_K D vwCl [(K, .int), (KS, .object "BarcodeWand$State")] s := hK
          have hP : va_P D vwCl ((WW a K KS st1v_126 (rsH (rsH (svH (svH hs st) st1v_29))) sc1v_131)) H := hP
          have hD : va_D A ((WW a K KS st1v_126 (rsH (rsH (svH (svH hs st) st1v_29))) sc1v_131)) := hD
          have hw_132 : r_130 = (P0 st1v_126) := hw_132
          have hw_132 := hw_132.symm
          subst hw_132
          refine k_nrml (y := (P0 st1v_126)) rfl ?_
          refine lv_lload hx hb dL_draws_269 (lv_at hl 9 rfl) ?_
          refine W.lcmp hx hb dL_draws_271 ?_
          refine k_nrm (y := 0) ((by rw [P0_view u_128v u_128c]; exact lgc _)) ?_
          refine lv_if_ne (tgt := 279) hx hb dL_draws_272 (by decide) (fun c9 => absurd (by decide) c9) (fun _ => ?_)
          refine lv_iconst (v := 1) hx hb dL_draws_275 (by decide) ?_
          refine lv_goto (tgt := 280) hx hb dL_draws_276 (by decide) ?_
          have hP9 : va_P D vwCl ((WW a K KS st1v_126 (rsH (rsH (svH (svH hs st) st1v_29))) sc1v_131)) H := k_subP (wp := []) (wp' := []) (T := (WW a K KS st1v_126 (rsH (rsH (svH (svH hs st) st1v_29))) sc1v_131)) hP [] rfl
          have hD9 : va_D A ((WW a K KS st1v_126 (rsH (rsH (svH (svH hs st) st1v_29))) sc1v_131)) := k_subD (wp := []) (wp' := []) (T := (WW a K KS st1v_126 (rsH (rsH (svH (svH hs st) st1v_29))) sc1v_131)) hD [] (by decide) rfl
          have hP9 : va_P D vwCl ((WW a K KS st1v_126 (rsH (rsH (svH (svH hs st) st1v_29))) sc1v_131)) H := hP9
          have hD9 : va_D A ((WW a K KS st1v_126 (rsH (rsH (svH (svH hs st) st1v_29))) sc1v_131)) := hD9
          have hK9 : va_K D vwCl [] s := hK.sub [] rfl
          exact W.zret (v := 1) hx hb hr (rfl) (fun t ht9 hW9 => ⟨⟨1, (st1v_126, (rsH (rsH (svH (svH hs st) st1v_29))), sc1v_131), rfl, by (exact ⟨rfl, u_128h, u_128v⟩), ⟨by rw [ht9]; exact hP9, va_K.moved hW9.alike hK9, hD9⟩⟩, hS.F ht9⟩) hS.2.2 dL_draws_280
        · have hc9 := c_119
          refine lv_iload hx hb dL_draws_234 (lv_at hl 0 rfl) ?_
          refine lv_if_gt (tgt := 243) hx hb dL_draws_236 (by decide) (fun c9 => absurd c9 (hrv c_119)) (fun c_133 => ?_)
          refine lv_iconst (v := 1) hx hb dL_draws_239 (by decide) ?_
          refine lv_goto (tgt := 244) hx hb dL_draws_240 (by decide) ?_
          refine lv_istore (lv' := [(10, .int 1), (14, .int (resF (s_ns st1v_29) (s_drw st1v_29 lf rt 1) (s_tol st1v_29))), (13, .int (s_drw st lf rt 0 (s_ns st - 1))), (12, .int (s_drw st lf rt 0 0)), (11, .int (nI (s_tn st1v_29))), (9, .int (resF (s_ns st) (s_drw st lf rt 0) (s_tol st))), (8, .int (s_fai st)), (7, .int (s_suc st)), (6, .int (resF (s_ns st) (s_drw st lf rt 0) (s_tol st))), (4, .long (P0 st)), (0, .ref (a 0)), (1, .int lf), (2, .int rt), (3, .int 0)]) hx hb dL_draws_244 hl (by decide) rfl (fun ls hl => ?_)
          refine lv_iload hx hb dL_draws_246 (lv_at hl 0 rfl) ?_
          refine lv_if_eq (tgt := 279) hx hb dL_draws_248 (by decide) (fun c9 => absurd c9 (by decide)) (fun _ => ?_)
          refine lv_aload_n hx hb dL_draws_251 rfl (lv_at hl 10 rfl) ?_
          have ct := k_cut_TT (wp := []) (T := (WW a K KS st1v_110 (svH (svH hs st) st1v_29) sc1v_111)) (wc := []) (wr := []) (tc := [(K, .int), (KS, .object "BarcodeWand$State")]) hG hS hA hK hP hD [] [] [0, 1] rfl rfl (by decide) (by decide) (by decide) rfl
          refine k_endi (As := [.ref (a 0)]) ct (k_runSW (As := [.ref (a 0)]) (rest := []) S0 Ls_L_160 ct (c_L_undo l D a K KS st1v_110 (svH (svH hs st) st1v_29) sc1v_111 hj2.1 hh2 ((stk_pop K2).1) H.size) hl.1 rfl (Nat.le_of_ble_eq_true rfl) rfl dL_draws_252 ⟨⟨Nat.le_of_ble_eq_true rfl, Nat.le_of_ble_eq_true rfl⟩, Nat.le_of_ble_eq_true rfl, Nat.le_of_ble_eq_true rfl⟩) rfl rfl (fun r_134 st1v_135 H locs hw_136 hP hD hK hS => ?_)
          have hK : va_K D vwCl [(K, .int), (KS, .object "BarcodeWand$State")] s := hK
          have hP : va_P D vwCl ((WW a K KS st1v_135 (rsH (svH (svH hs st) st1v_29)) sc1v_111)) H := hP
          have hD : va_D A ((WW a K KS st1v_135 (rsH (svH (svH hs st) st1v_29)) sc1v_111)) := hD
          have hw_136 : r_134 = (nI (h_kp (svH (svH hs st) st1v_29) - 1)) ∧ st1v_135 = rsS (svH (svH hs st) st1v_29) st1v_110 := hw_136
          obtain ⟨u_137a, u_137b⟩ := hw_136
          refine k_nrm (y := (nI (h_kp (svH (svH hs st) st1v_29) - 1))) (u_137a) ?_
          have u_137h := okH_rs hh2
          have u_137c : bST st1v_135 := by rw [u_137b]; exact bST_rs _ hh2
          have u_137k := (stk_pop K2).2.1
          have u_137v := (stk_pop K2).2.2 st1v_110
          rw [← u_137b] at u_137v
          have u_137p : ¬ (nI (h_kp (svH (svH hs st) st1v_29) - 1)) < 0 := nI_pos (by have := kp_6 hh2; omega)
          refine lv_if_lt (tgt := 279) hx hb dL_draws_255 (by decide) (fun c9 => absurd c9 u_137p) (fun c_138 => ?_)
          refine lv_aload_n hx hb dL_draws_258 rfl (lv_at hl 10 rfl) ?_
          have ct := k_cut_TT (wp := []) (T := (WW a K KS st1v_135 (rsH (svH (svH hs st) st1v_29)) sc1v_111)) (wc := []) (wr := []) (tc := [(K, .int), (KS, .object "BarcodeWand$State")]) hG hS hA hK hP hD [] [] [0, 1] rfl rfl (by decide) (by decide) (by decide) rfl
          refine k_endi (As := [.ref (a 0)]) ct (k_runSW (As := [.ref (a 0)]) (rest := []) S0 Ls_L_160 ct (c_L_undo l D a K KS st1v_135 (rsH (svH (svH hs st) st1v_29)) sc1v_111 u_137c u_137h ((stk_pop u_137k).1) H.size) hl.1 rfl (Nat.le_of_ble_eq_true rfl) rfl dL_draws_259 ⟨⟨Nat.le_of_ble_eq_true rfl, Nat.le_of_ble_eq_true rfl⟩, Nat.le_of_ble_eq_true rfl, Nat.le_of_ble_eq_true rfl⟩) rfl rfl (fun r_139 st1v_140 H locs hw_141 hP hD hK hS => ?_)
          have hK : va_K D vwCl [(K, .int), (KS, .object "BarcodeWand$State")] s := hK
          have hP : va_P D vwCl ((WW a K KS st1v_140 (rsH (rsH (svH (svH hs st) st1v_29))) sc1v_111)) H := hP
          have hD : va_D A ((WW a K KS st1v_140 (rsH (rsH (svH (svH hs st) st1v_29))) sc1v_111)) := hD
          have hw_141 : r_139 = (nI (h_kp (rsH (svH (svH hs st) st1v_29)) - 1)) ∧ st1v_140 = rsS (rsH (svH (svH hs st) st1v_29)) st1v_135 := hw_141
          obtain ⟨u_142a, u_142b⟩ := hw_141
          refine k_nrm (y := (nI (h_kp (rsH (svH (svH hs st) st1v_29)) - 1))) (u_142a) ?_
          have u_142h := okH_rs u_137h
          have u_142c : bST st1v_140 := by rw [u_142b]; exact bST_rs _ u_137h
          have u_142k := (stk_pop u_137k).2.1
          have u_142v := (stk_pop u_137k).2.2 st1v_135
          rw [← u_142b] at u_142v
          have u_142p : ¬ (nI (h_kp (rsH (svH (svH hs st) st1v_29)) - 1)) < 0 := nI_pos (by have := kp_6 u_137h; omega)
          refine lv_if_lt (tgt := 279) hx hb dL_draws_262 (by decide) (fun c9 => absurd c9 u_142p) (fun c_143 => ?_)
          refine lv_aload_n hx hb dL_draws_265 rfl (lv_at hl 10 rfl) ?_
          have ct := k_cut_TT (wp := []) (T := (WW a K KS st1v_140 (rsH (rsH (svH (svH hs st) st1v_29))) sc1v_111)) (wc := []) (wr := []) (tc := [(K, .int), (KS, .object "BarcodeWand$State")]) hG hS hA hK hP hD [] [] [0, 1] rfl rfl (by decide) (by decide) (by decide) rfl
          refine k_endl (As := [.ref (a 0)]) ct (k_runS (As := [.ref (a 0)]) (rest := []) S0 Ls_L_153 ct (c_L_print0 l D a K KS st1v_140 (rsH (rsH (svH (svH hs st) st1v_29))) sc1v_111 u_142c H.size) hl.1 rfl (Nat.le_of_ble_eq_true rfl) rfl dL_draws_266 ⟨⟨Nat.le_of_ble_eq_true rfl, Nat.le_of_ble_eq_true rfl⟩, Nat.le_of_ble_eq_true rfl, Nat.le_of_ble_eq_true rfl⟩) rfl rfl (fun r_144 sc1v_145 H locs hw_146 hP hD hK hS => ?_)
          have hK : va_K D vwCl [(K, .int), (KS, .object "BarcodeWand$State")] s := hK
          have hP : va_P D vwCl ((WW a K KS st1v_140 (rsH (rsH (svH (svH hs st) st1v_29))) sc1v_145)) H := hP
          have hD : va_D A ((WW a K KS st1v_140 (rsH (rsH (svH (svH hs st) st1v_29))) sc1v_145)) := hD
          have hw_146 : r_144 = (P0 st1v_140) := hw_146
          have hw_146 := hw_146.symm
          subst hw_146
          refine k_nrml (y := (P0 st1v_140)) rfl ?_
          refine lv_lload hx hb dL_draws_269 (lv_at hl 9 rfl) ?_
          refine W.lcmp hx hb dL_draws_271 ?_
          refine k_nrm (y := 0) ((by rw [P0_view u_142v u_142c]; exact lgc _)) ?_
          refine lv_if_ne (tgt := 279) hx hb dL_draws_272 (by decide) (fun c9 => absurd (by decide) c9) (fun _ => ?_)
          refine lv_iconst (v := 1) hx hb dL_draws_275 (by decide) ?_
          refine lv_goto (tgt := 280) hx hb dL_draws_276 (by decide) ?_
          have hP9 : va_P D vwCl ((WW a K KS st1v_140 (rsH (rsH (svH (svH hs st) st1v_29))) sc1v_145)) H := k_subP (wp := []) (wp' := []) (T := (WW a K KS st1v_140 (rsH (rsH (svH (svH hs st) st1v_29))) sc1v_145)) hP [] rfl
          have hD9 : va_D A ((WW a K KS st1v_140 (rsH (rsH (svH (svH hs st) st1v_29))) sc1v_145)) := k_subD (wp := []) (wp' := []) (T := (WW a K KS st1v_140 (rsH (rsH (svH (svH hs st) st1v_29))) sc1v_145)) hD [] (by decide) rfl
          have hP9 : va_P D vwCl ((WW a K KS st1v_140 (rsH (rsH (svH (svH hs st) st1v_29))) sc1v_145)) H := hP9
          have hD9 : va_D A ((WW a K KS st1v_140 (rsH (rsH (svH (svH hs st) st1v_29))) sc1v_145)) := hD9
          have hK9 : va_K D vwCl [] s := hK.sub [] rfl
          exact W.zret (v := 1) hx hb hr (rfl) (fun t ht9 hW9 => ⟨⟨1, (st1v_140, (rsH (rsH (svH (svH hs st) st1v_29))), sc1v_145), rfl, by (exact ⟨rfl, u_142h, u_142v⟩), ⟨by rw [ht9]; exact hP9, va_K.moved hW9.alike hK9, hD9⟩⟩, hS.F ht9⟩) hS.2.2 dL_draws_280
    · skip
      have hl : lv_has ls 15 [(0, .ref (a 0)), (1, .int lf), (2, .int rt), (3, .int 1)] := hl
      refine lv_aload_n hx hb dL_draws_0 rfl (lv_at hl 0 rfl) ?_
      have ct := k_cut_TT (wp := []) (T := (WW a K KS st hs sc)) (wc := []) (wr := []) (tc := [(K, .int), (KS, .object "BarcodeWand$State")]) hG hS hA hK hP hD [] [] [0, 1] rfl rfl (by decide) (by decide) (by decide) rfl
      refine k_endl (As := [.ref (a 0)]) ct (k_runS (As := [.ref (a 0)]) (rest := []) S0 Ls_L_153 ct (c_L_print0 l D a K KS st hs sc hii.1 s.heap.size) hl.1 rfl (Nat.le_of_ble_eq_true rfl) rfl dL_draws_1 ⟨⟨Nat.le_of_ble_eq_true rfl, Nat.le_of_ble_eq_true rfl⟩, Nat.le_of_ble_eq_true rfl, Nat.le_of_ble_eq_true rfl⟩) rfl rfl (fun r_147 sc1v_148 H locs hw_149 hP hD hK hS => ?_)
      have hK : va_K D vwCl [(K, .int), (KS, .object "BarcodeWand$State")] s := hK
      have hP : va_P D vwCl ((WW a K KS st hs sc1v_148)) H := hP
      have hD : va_D A ((WW a K KS st hs sc1v_148)) := hD
      have hw_149 : r_147 = (P0 st) := hw_149
      have hw_149 := hw_149.symm
      subst hw_149
      refine k_nrml (y := (P0 st)) rfl ?_
      refine lv_lstore (lv' := [(4, .long (P0 st)), (0, .ref (a 0)), (1, .int lf), (2, .int rt), (3, .int 1)]) hx hb dL_draws_4 hl (by decide) rfl (fun ls hl => ?_)
      refine lv_aload_n hx hb dL_draws_6 rfl (lv_at hl 1 rfl) ?_
      refine lv_iload_n hx hb dL_draws_7 rfl (lv_at hl 2 rfl) ?_
      refine lv_iload_n hx hb dL_draws_8 rfl (lv_at hl 3 rfl) ?_
      refine lv_iload_n hx hb dL_draws_9 rfl (lv_at hl 4 rfl) ?_
      have ct := k_cut_TT (wp := []) (T := (WW a K KS st hs sc1v_148)) (wc := []) (wr := []) (tc := [(K, .int), (KS, .object "BarcodeWand$State")]) hG hS hA hK hP hD [] [] [0, 1] rfl rfl (by decide) (by decide) (by decide) rfl
      refine k_endi (As := [.ref (a 0), .int lf, .int rt, .int 1]) ct (k_runSW (As := [.ref (a 0), .int lf, .int rt, .int 1]) (rest := []) S0 Ls_L_151 ct (c_L_ifDrawn l D a K KS st hs sc1v_148 lf rt 1 hii.1 hp hne H.size) hl.1 rfl (Nat.le_of_ble_eq_true rfl) rfl dL_draws_10 ⟨⟨Nat.le_of_ble_eq_true rfl, Nat.le_of_ble_eq_true rfl⟩, Nat.le_of_ble_eq_true rfl, Nat.le_of_ble_eq_true rfl⟩) rfl rfl (fun r_150 sc1v_151 H locs hw_152 hP hD hK hS => ?_)
      have hK : va_K D vwCl [(K, .int), (KS, .object "BarcodeWand$State")] s := hK
      have hP : va_P D vwCl ((WW a K KS st hs sc1v_151)) H := hP
      have hD : va_D A ((WW a K KS st hs sc1v_151)) := hD
      have hw_152 : r_150 = resF (s_ns st) (s_drw st lf rt 1) (s_tol st) := hw_152
      have hw_152 := hw_152.symm
      subst hw_152
      refine k_nrm (y := resF (s_ns st) (s_drw st lf rt 1) (s_tol st)) rfl ?_
      refine lv_istore (lv' := [(6, .int (resF (s_ns st) (s_drw st lf rt 1) (s_tol st))), (4, .long (P0 st)), (0, .ref (a 0)), (1, .int lf), (2, .int rt), (3, .int 1)]) hx hb dL_draws_13 hl (by decide) rfl (fun ls hl => ?_)
      refine lv_aload_n hx hb dL_draws_15 rfl (lv_at hl 2 rfl) ?_
      have ct := k_cut_TT (wp := []) (T := (WW a K KS st hs sc1v_151)) (wc := []) (wr := []) (tc := [(K, .int), (KS, .object "BarcodeWand$State")]) hG hS hA hK hP hD [] [] [0, 1] rfl rfl (by decide) (by decide) (by decide) rfl
      refine k_endi (As := [.ref (a 0)]) ct (k_runV (As := []) (rest := []) S0 Lv_L_129 rfl (ci := 7) (q0 := 0) rfl (WW_0 a K KS st hs sc1v_151) ct (c_B_successes l D a K KS st hs sc1v_151 H.size) hl.1 rfl (Nat.le_of_ble_eq_true rfl) rfl dL_draws_16 ⟨⟨Nat.le_of_ble_eq_true rfl, Nat.le_of_ble_eq_true rfl⟩, Nat.le_of_ble_eq_true rfl, Nat.le_of_ble_eq_true rfl⟩) rfl rfl (fun r_153 _ H locs hw_154 hP hD hK hS => ?_)
      have hK : va_K D vwCl [(K, .int), (KS, .object "BarcodeWand$State")] s := hK
      have hP : va_P D vwCl ((WW a K KS st hs sc1v_151)) H := hP
      have hD : va_D A ((WW a K KS st hs sc1v_151)) := hD
      have hw_154 : r_153 = (s_suc st) := hw_154
      have hw_154 := hw_154.symm
      subst hw_154
      refine k_nrm (y := (s_suc st)) rfl ?_
      refine lv_istore (lv' := [(7, .int (s_suc st)), (6, .int (resF (s_ns st) (s_drw st lf rt 1) (s_tol st))), (4, .long (P0 st)), (0, .ref (a 0)), (1, .int lf), (2, .int rt), (3, .int 1)]) hx hb dL_draws_19 hl (by decide) rfl (fun ls hl => ?_)
      refine lv_aload_n hx hb dL_draws_21 rfl (lv_at hl 3 rfl) ?_
      have ct := k_cut_TT (wp := []) (T := (WW a K KS st hs sc1v_151)) (wc := []) (wr := []) (tc := [(K, .int), (KS, .object "BarcodeWand$State")]) hG hS hA hK hP hD [] [] [0, 1] rfl rfl (by decide) (by decide) (by decide) rfl
      refine k_endi (As := [.ref (a 0)]) ct (k_runV (As := []) (rest := []) S0 Lv_L_144 rfl (ci := 7) (q0 := 0) rfl (WW_0 a K KS st hs sc1v_151) ct (c_B_failures l D a K KS st hs sc1v_151 H.size) hl.1 rfl (Nat.le_of_ble_eq_true rfl) rfl dL_draws_22 ⟨⟨Nat.le_of_ble_eq_true rfl, Nat.le_of_ble_eq_true rfl⟩, Nat.le_of_ble_eq_true rfl, Nat.le_of_ble_eq_true rfl⟩) rfl rfl (fun r_155 _ H locs hw_156 hP hD hK hS => ?_)
      have hK : va_K D vwCl [(K, .int), (KS, .object "BarcodeWand$State")] s := hK
      have hP : va_P D vwCl ((WW a K KS st hs sc1v_151)) H := hP
      have hD : va_D A ((WW a K KS st hs sc1v_151)) := hD
      have hw_156 : r_155 = (s_fai st) := hw_156
      have hw_156 := hw_156.symm
      subst hw_156
      refine k_nrm (y := (s_fai st)) rfl ?_
      refine lv_istore (lv' := [(8, .int (s_fai st)), (7, .int (s_suc st)), (6, .int (resF (s_ns st) (s_drw st lf rt 1) (s_tol st))), (4, .long (P0 st)), (0, .ref (a 0)), (1, .int lf), (2, .int rt), (3, .int 1)]) hx hb dL_draws_25 hl (by decide) rfl (fun ls hl => ?_)
      refine lv_aload_n hx hb dL_draws_27 rfl (lv_at hl 4 rfl) ?_
      refine lv_iload_n hx hb dL_draws_28 rfl (lv_at hl 5 rfl) ?_
      refine lv_iload_n hx hb dL_draws_29 rfl (lv_at hl 6 rfl) ?_
      refine lv_iload_n hx hb dL_draws_30 rfl (lv_at hl 7 rfl) ?_
      have ct := k_cut_TT (wp := []) (T := (WW a K KS st hs sc1v_151)) (wc := []) (wr := []) (tc := [(K, .int), (KS, .object "BarcodeWand$State")]) hG hS hA hK hP hD [] [] [0, 1] rfl rfl (by decide) (by decide) (by decide) rfl
      refine k_endi (As := [.ref (a 0), .int lf, .int rt, .int 1]) ct (k_runSW (As := [.ref (a 0), .int lf, .int rt, .int 1]) (rest := []) S0 Ls_L_93 ct (c_L_draw l D a K KS st hs sc1v_151 lf rt 1 hii.1 hh hp hne H.size) hl.1 rfl (Nat.le_of_ble_eq_true rfl) rfl dL_draws_31 ⟨⟨Nat.le_of_ble_eq_true rfl, Nat.le_of_ble_eq_true rfl⟩, Nat.le_of_ble_eq_true rfl, Nat.le_of_ble_eq_true rfl⟩) rfl rfl (fun r_157 u H locs hw_160 hP hD hK hS => ?_)
      obtain ⟨st1v_158, sc1v_159⟩ := u
      have hK : va_K D vwCl [(K, .int), (KS, .object "BarcodeWand$State")] s := hK
      have hP : va_P D vwCl ((WW a K KS st1v_158 (svH hs st) sc1v_159)) H := hP
      have hD : va_D A ((WW a K KS st1v_158 (svH hs st) sc1v_159)) := hD
      have hw_160 : RC (setT (s_ns st) (cpy (s_drw st lf rt 1) (s_tf st) (s_ns st)) st) st1v_158 r_157 := hw_160
      obtain ⟨d0, d1, d2, d3, d4, d5, d6, d7, d8⟩ := drw_out hii.1 hw_160
      have hj1 := drw_inv hii hw_160
      refine k_nrm (y := (resF (s_ns st) (s_drw st lf rt 1) (s_tol st))) (d0) ?_
      have hR : resF (s_tn st1v_158) (s_tf st1v_158) (s_tol st1v_158) = (resF (s_ns st) (s_drw st lf rt 1) (s_tol st)) := by rw [d5, d7]; exact resF_congr d6 hb2 _
      rw [d0] at d8
      have hs3 := suc_3 (res_in (s_ns st) (s_drw st lf rt 1) (s_tol st)) d8
      obtain ⟨ha1, ha2, ha3, ha4⟩ := bST_le hj1.1
      have hne1 : ¬ s_ns st1v_158 = 0 := by rw [d3]; exact hne
      have hsd : s_drw st1v_158 = s_drw st := by unfold s_drw; rw [d1, d2, d3, d4]
      have hh1 := okH_sv hh hii.1
      have K1 := stk_push st hh (Nat.le_of_ble_eq_true rfl) (stk_nil hs)
      refine lv_istore (lv' := [(9, .int (resF (s_ns st) (s_drw st lf rt 1) (s_tol st))), (8, .int (s_fai st)), (7, .int (s_suc st)), (6, .int (resF (s_ns st) (s_drw st lf rt 1) (s_tol st))), (4, .long (P0 st)), (0, .ref (a 0)), (1, .int lf), (2, .int rt), (3, .int 1)]) hx hb dL_draws_34 hl (by decide) rfl (fun ls hl => ?_)
      refine lv_iload hx hb dL_draws_36 (lv_at hl 0 rfl) ?_
      refine lv_sipush (v := (-1000)) hx hb dL_draws_38 (by decide) ?_
      refine lv_icmp_ge (tgt := 81) hx hb dL_draws_41 (by decide) (fun c_161 => ?_) (fun c9 => absurd (Int32.not_lt.mp (res_in _ _ _).1) c9)
      refine lv_iload hx hb dL_draws_81 (lv_at hl 0 rfl) ?_
      refine lv_iload hx hb dL_draws_83 (lv_at hl 3 rfl) ?_
      refine lv_icmp_ne (tgt := 158) hx hb dL_draws_85 (by decide) (fun c9 => absurd rfl c9) (fun c_162 => ?_)
      refine lv_aload_n hx hb dL_draws_88 rfl (lv_at hl 5 rfl) ?_
      have ct := k_cut_TT (wp := []) (T := (WW a K KS st1v_158 (svH hs st) sc1v_159)) (wc := []) (wr := []) (tc := [(K, .int), (KS, .object "BarcodeWand$State")]) hG hS hA hK hP hD [] [] [0, 1] rfl rfl (by decide) (by decide) (by decide) rfl
      refine k_endi (As := [.ref (a 0)]) ct (k_runV (As := []) (rest := []) S0 Lv_L_113 rfl (ci := 7) (q0 := 0) rfl (WW_0 a K KS st1v_158 (svH hs st) sc1v_159) ct (c_B_times l D a K KS st1v_158 (svH hs st) sc1v_159 H.size) hl.1 rfl (Nat.le_of_ble_eq_true rfl) rfl dL_draws_89 ⟨⟨Nat.le_of_ble_eq_true rfl, Nat.le_of_ble_eq_true rfl⟩, Nat.le_of_ble_eq_true rfl, Nat.le_of_ble_eq_true rfl⟩) rfl rfl (fun r_163 _ H locs hw_164 hP hD hK hS => ?_)
      have hK : va_K D vwCl [(K, .int), (KS, .object "BarcodeWand$State")] s := hK
      have hP : va_P D vwCl ((WW a K KS st1v_158 (svH hs st) sc1v_159)) H := hP
      have hD : va_D A ((WW a K KS st1v_158 (svH hs st) sc1v_159)) := hD
      have hw_164 : r_163 = (nI (s_tn st1v_158)) := hw_164
      have hw_164 := hw_164.symm
      subst hw_164
      refine k_nrm (y := (nI (s_tn st1v_158))) rfl ?_
      refine lv_aload_n hx hb dL_draws_92 rfl (lv_at hl 5 rfl) ?_
      have ct := k_cut_TT (wp := []) (T := (WW a K KS st1v_158 (svH hs st) sc1v_159)) (wc := []) (wr := []) (tc := [(K, .int), (KS, .object "BarcodeWand$State")]) hG hS hA hK hP hD [] [] [0, 1] rfl rfl (by decide) (by decide) (by decide) rfl
      refine k_endi (As := [.ref (a 0)]) ct (k_runV (As := []) (rest := [.int (nI (s_tn st1v_158))]) S0 Lv_L_96 rfl (ci := 7) (q0 := 0) rfl (WW_0 a K KS st1v_158 (svH hs st) sc1v_159) ct (c_B_elements l D a K KS st1v_158 (svH hs st) sc1v_159 H.size) hl.1 rfl (Nat.le_of_ble_eq_true rfl) rfl dL_draws_93 ⟨⟨Nat.le_of_ble_eq_true rfl, Nat.le_of_ble_eq_true rfl⟩, Nat.le_of_ble_eq_true rfl, Nat.le_of_ble_eq_true rfl⟩) rfl rfl (fun r_165 _ H locs hw_166 hP hD hK hS => ?_)
      have hK : va_K D vwCl [(K, .int), (KS, .object "BarcodeWand$State")] s := hK
      have hP : va_P D vwCl ((WW a K KS st1v_158 (svH hs st) sc1v_159)) H := hP
      have hD : va_D A ((WW a K KS st1v_158 (svH hs st) sc1v_159)) := hD
      have hw_166 : r_165 = (nI (s_ns st1v_158)) := hw_166
      have hw_166 := hw_166.symm
      subst hw_166
      refine k_nrm (y := (nI (s_ns st1v_158))) rfl ?_
      refine lv_icmp_ne (tgt := 158) hx hb dL_draws_96 (by decide) (fun c9 => absurd (by rw [d5, d3]) c9) (fun c_167 => ?_)
      refine lv_aload_n hx hb dL_draws_99 rfl (lv_at hl 5 rfl) ?_
      have ct := k_cut_TT (wp := []) (T := (WW a K KS st1v_158 (svH hs st) sc1v_159)) (wc := []) (wr := []) (tc := [(K, .int), (KS, .object "BarcodeWand$State")]) hG hS hA hK hP hD [] [] [0, 1] rfl rfl (by decide) (by decide) (by decide) rfl
      refine k_endi (As := [.ref (a 0)]) ct (k_runV (As := []) (rest := []) S0 Lv_L_103 rfl (ci := 7) (q0 := 0) rfl (WW_0 a K KS st1v_158 (svH hs st) sc1v_159) ct (c_B_result l D a K KS st1v_158 (svH hs st) sc1v_159 hj1.1 H.size) hl.1 rfl (Nat.le_of_ble_eq_true rfl) rfl dL_draws_100 ⟨⟨Nat.le_of_ble_eq_true rfl, Nat.le_of_ble_eq_true rfl⟩, Nat.le_of_ble_eq_true rfl, Nat.le_of_ble_eq_true rfl⟩) rfl rfl (fun r_168 sc1v_169 H locs hw_170 hP hD hK hS => ?_)
      have hK : va_K D vwCl [(K, .int), (KS, .object "BarcodeWand$State")] s := hK
      have hP : va_P D vwCl ((WW a K KS st1v_158 (svH hs st) sc1v_169)) H := hP
      have hD : va_D A ((WW a K KS st1v_158 (svH hs st) sc1v_169)) := hD
      have hw_170 : r_168 = resF (s_tn st1v_158) (s_tf st1v_158) (s_tol st1v_158) := hw_170
      have hw_170 := hw_170.symm
      subst hw_170
      refine k_nrm (y := resF (s_tn st1v_158) (s_tf st1v_158) (s_tol st1v_158)) rfl ?_
      refine lv_iload hx hb dL_draws_103 (lv_at hl 0 rfl) ?_
      refine lv_icmp_ne (tgt := 158) hx hb dL_draws_105 (by decide) (fun c9 => absurd hR c9) (fun c_171 => ?_)
      refine lv_aload_n hx hb dL_draws_108 rfl (lv_at hl 5 rfl) ?_
      have ct := k_cut_TT (wp := []) (T := (WW a K KS st1v_158 (svH hs st) sc1v_169)) (wc := []) (wr := []) (tc := [(K, .int), (KS, .object "BarcodeWand$State")]) hG hS hA hK hP hD [] [] [0, 1] rfl rfl (by decide) (by decide) (by decide) rfl
      refine k_endi (As := [.ref (a 0)]) ct (k_runV (As := []) (rest := []) S0 Lv_L_129 rfl (ci := 7) (q0 := 0) rfl (WW_0 a K KS st1v_158 (svH hs st) sc1v_169) ct (c_B_successes l D a K KS st1v_158 (svH hs st) sc1v_169 H.size) hl.1 rfl (Nat.le_of_ble_eq_true rfl) rfl dL_draws_109 ⟨⟨Nat.le_of_ble_eq_true rfl, Nat.le_of_ble_eq_true rfl⟩, Nat.le_of_ble_eq_true rfl, Nat.le_of_ble_eq_true rfl⟩) rfl rfl (fun r_172 _ H locs hw_173 hP hD hK hS => ?_)
      have hK : va_K D vwCl [(K, .int), (KS, .object "BarcodeWand$State")] s := hK
      have hP : va_P D vwCl ((WW a K KS st1v_158 (svH hs st) sc1v_169)) H := hP
      have hD : va_D A ((WW a K KS st1v_158 (svH hs st) sc1v_169)) := hD
      have hw_173 : r_172 = (s_suc st1v_158) := hw_173
      have hw_173 := hw_173.symm
      subst hw_173
      refine k_nrm (y := (s_suc st1v_158)) rfl ?_
      refine lv_aload_n hx hb dL_draws_112 rfl (lv_at hl 5 rfl) ?_
      have ct := k_cut_TT (wp := []) (T := (WW a K KS st1v_158 (svH hs st) sc1v_169)) (wc := []) (wr := []) (tc := [(K, .int), (KS, .object "BarcodeWand$State")]) hG hS hA hK hP hD [] [] [0, 1] rfl rfl (by decide) (by decide) (by decide) rfl
      refine k_endi (As := [.ref (a 0)]) ct (k_runV (As := []) (rest := [.int (s_suc st1v_158)]) S0 Lv_L_144 rfl (ci := 7) (q0 := 0) rfl (WW_0 a K KS st1v_158 (svH hs st) sc1v_169) ct (c_B_failures l D a K KS st1v_158 (svH hs st) sc1v_169 H.size) hl.1 rfl (Nat.le_of_ble_eq_true rfl) rfl dL_draws_113 ⟨⟨Nat.le_of_ble_eq_true rfl, Nat.le_of_ble_eq_true rfl⟩, Nat.le_of_ble_eq_true rfl, Nat.le_of_ble_eq_true rfl⟩) rfl rfl (fun r_174 _ H locs hw_175 hP hD hK hS => ?_)
      have hK : va_K D vwCl [(K, .int), (KS, .object "BarcodeWand$State")] s := hK
      have hP : va_P D vwCl ((WW a K KS st1v_158 (svH hs st) sc1v_169)) H := hP
      have hD : va_D A ((WW a K KS st1v_158 (svH hs st) sc1v_169)) := hD
      have hw_175 : r_174 = (s_fai st1v_158) := hw_175
      have hw_175 := hw_175.symm
      subst hw_175
      refine k_nrm (y := (s_fai st1v_158)) rfl ?_
      refine lv_iadd hx hb dL_draws_116 ?_
      refine k_nrm (y := ((s_suc st1v_158) + (s_fai st1v_158))) (rfl) ?_
      refine lv_iload hx hb dL_draws_117 (lv_at hl 2 rfl) ?_
      refine lv_iload hx hb dL_draws_119 (lv_at hl 1 rfl) ?_
      refine lv_iadd hx hb dL_draws_121 ?_
      refine k_nrm (y := ((s_suc st) + (s_fai st))) (rfl) ?_
      refine lv_iconst (v := 1) hx hb dL_draws_122 (by decide) ?_
      refine lv_iadd hx hb dL_draws_123 ?_
      refine k_nrm (y := (((s_suc st) + (s_fai st)) + 1)) (rfl) ?_
      refine lv_icmp_ne (tgt := 158) hx hb dL_draws_124 (by decide) (fun c9 => absurd hs3.2.2 c9) (fun c_176 => ?_)
      refine lv_aload_n hx hb dL_draws_127 rfl (lv_at hl 5 rfl) ?_
      have ct := k_cut_TT (wp := []) (T := (WW a K KS st1v_158 (svH hs st) sc1v_169)) (wc := []) (wr := []) (tc := [(K, .int), (KS, .object "BarcodeWand$State")]) hG hS hA hK hP hD [] [] [0, 1] rfl rfl (by decide) (by decide) (by decide) rfl
      refine k_endi (As := [.ref (a 0)]) ct (k_runV (As := []) (rest := []) S0 Lv_L_129 rfl (ci := 7) (q0 := 0) rfl (WW_0 a K KS st1v_158 (svH hs st) sc1v_169) ct (c_B_successes l D a K KS st1v_158 (svH hs st) sc1v_169 H.size) hl.1 rfl (Nat.le_of_ble_eq_true rfl) rfl dL_draws_128 ⟨⟨Nat.le_of_ble_eq_true rfl, Nat.le_of_ble_eq_true rfl⟩, Nat.le_of_ble_eq_true rfl, Nat.le_of_ble_eq_true rfl⟩) rfl rfl (fun r_177 _ H locs hw_178 hP hD hK hS => ?_)
      have hK : va_K D vwCl [(K, .int), (KS, .object "BarcodeWand$State")] s := hK
      have hP : va_P D vwCl ((WW a K KS st1v_158 (svH hs st) sc1v_169)) H := hP
      have hD : va_D A ((WW a K KS st1v_158 (svH hs st) sc1v_169)) := hD
      have hw_178 : r_177 = (s_suc st1v_158) := hw_178
      have hw_178 := hw_178.symm
      subst hw_178
      refine k_nrm (y := (s_suc st1v_158)) rfl ?_
      refine lv_iload hx hb dL_draws_131 (lv_at hl 2 rfl) ?_
      refine lv_iload hx hb dL_draws_133 (lv_at hl 0 rfl) ?_
      refine lv_if_le (tgt := 142) hx hb dL_draws_135 (by decide) (fun c_179 => ?_) (fun c_179 => ?_)
      · have hc9 := c_179
        refine lv_iconst (v := 1) hx hb dL_draws_142 (by decide) ?_
        refine lv_iadd hx hb dL_draws_143 ?_
        refine k_nrm (y := ((s_suc st) + 1)) (rfl) ?_
        refine lv_icmp_ne (tgt := 158) hx hb dL_draws_144 (by decide) (fun c9 => absurd (hs3.1 c_179) c9) (fun c_180 => ?_)
        refine lv_aload_n hx hb dL_draws_147 rfl (lv_at hl 5 rfl) ?_
        have ct := k_cut_TT (wp := []) (T := (WW a K KS st1v_158 (svH hs st) sc1v_169)) (wc := []) (wr := []) (tc := [(K, .int), (KS, .object "BarcodeWand$State")]) hG hS hA hK hP hD [] [] [0, 1] rfl rfl (by decide) (by decide) (by decide) rfl
        refine k_endi (As := [.ref (a 0)]) ct (k_runS (As := [.ref (a 0)]) (rest := []) S0 Ls_L_157 ct (c_L_hangs l hst D a K KS st1v_158 (svH hs st) sc1v_169 (N + 1) hj1 (by omega) H.size) hl.1 rfl (Nat.le_of_ble_eq_true rfl) rfl dL_draws_148 ⟨⟨Nat.le_of_ble_eq_true rfl, Nat.le_of_ble_eq_true rfl⟩, Nat.le_of_ble_eq_true rfl, Nat.le_of_ble_eq_true rfl⟩) rfl rfl (fun r_181 sc1v_182 H locs hw_183 hP hD hK hS => ?_)
        have hK : va_K D vwCl [(K, .int), (KS, .object "BarcodeWand$State")] s := hK
        have hP : va_P D vwCl ((WW a K KS st1v_158 (svH hs st) sc1v_182)) H := hP
        have hD : va_D A ((WW a K KS st1v_158 (svH hs st) sc1v_182)) := hD
        have hw_183 : r_181 = 1 := hw_183
        have hw_183 := hw_183.symm
        subst hw_183
        refine k_nrm (y := 1) rfl ?_
        refine lv_if_eq (tgt := 158) hx hb dL_draws_151 (by decide) (fun c9 => absurd c9 (by decide)) (fun _ => ?_)
        refine lv_iconst (v := 1) hx hb dL_draws_154 (by decide) ?_
        refine lv_goto (tgt := 159) hx hb dL_draws_155 (by decide) ?_
        refine lv_istore (lv' := [(10, .int 1), (9, .int (resF (s_ns st) (s_drw st lf rt 1) (s_tol st))), (8, .int (s_fai st)), (7, .int (s_suc st)), (6, .int (resF (s_ns st) (s_drw st lf rt 1) (s_tol st))), (4, .long (P0 st)), (0, .ref (a 0)), (1, .int lf), (2, .int rt), (3, .int 1)]) hx hb dL_draws_159 hl (by decide) rfl (fun ls hl => ?_)
        refine lv_aload_n hx hb dL_draws_161 rfl (lv_at hl 6 rfl) ?_
        have ct := k_cut_TT (wp := []) (T := (WW a K KS st1v_158 (svH hs st) sc1v_182)) (wc := []) (wr := []) (tc := [(K, .int), (KS, .object "BarcodeWand$State")]) hG hS hA hK hP hD [] [] [0, 1] rfl rfl (by decide) (by decide) (by decide) rfl
        refine k_endi (As := [.ref (a 0)]) ct (k_runV (As := []) (rest := []) S0 Lv_L_113 rfl (ci := 7) (q0 := 0) rfl (WW_0 a K KS st1v_158 (svH hs st) sc1v_182) ct (c_B_times l D a K KS st1v_158 (svH hs st) sc1v_182 H.size) hl.1 rfl (Nat.le_of_ble_eq_true rfl) rfl dL_draws_162 ⟨⟨Nat.le_of_ble_eq_true rfl, Nat.le_of_ble_eq_true rfl⟩, Nat.le_of_ble_eq_true rfl, Nat.le_of_ble_eq_true rfl⟩) rfl rfl (fun r_184 _ H locs hw_185 hP hD hK hS => ?_)
        have hK : va_K D vwCl [(K, .int), (KS, .object "BarcodeWand$State")] s := hK
        have hP : va_P D vwCl ((WW a K KS st1v_158 (svH hs st) sc1v_182)) H := hP
        have hD : va_D A ((WW a K KS st1v_158 (svH hs st) sc1v_182)) := hD
        have hw_185 : r_184 = (nI (s_tn st1v_158)) := hw_185
        have hw_185 := hw_185.symm
        subst hw_185
        refine k_nrm (y := (nI (s_tn st1v_158))) rfl ?_
        refine lv_istore (lv' := [(11, .int (nI (s_tn st1v_158))), (10, .int 1), (9, .int (resF (s_ns st) (s_drw st lf rt 1) (s_tol st))), (8, .int (s_fai st)), (7, .int (s_suc st)), (6, .int (resF (s_ns st) (s_drw st lf rt 1) (s_tol st))), (4, .long (P0 st)), (0, .ref (a 0)), (1, .int lf), (2, .int rt), (3, .int 1)]) hx hb dL_draws_165 hl (by decide) rfl (fun ls hl => ?_)
        refine lv_aload_n hx hb dL_draws_167 rfl (lv_at hl 7 rfl) ?_
        refine lv_iconst (v := 0) hx hb dL_draws_168 (by decide) ?_
        have ct := k_cut_TT (wp := []) (T := (WW a K KS st1v_158 (svH hs st) sc1v_182)) (wc := []) (wr := []) (tc := [(K, .int), (KS, .object "BarcodeWand$State")]) hG hS hA hK hP hD [] [] [0, 1] rfl rfl (by decide) (by decide) (by decide) rfl
        refine k_endi (As := [.ref (a 0), .int 0]) ct (k_runSW (As := [.ref (a 0), .int 0]) (rest := []) S0 Ls_L_147 ct (c_L_time l D a K KS st1v_158 (svH hs st) sc1v_182 0 (inR_in (x := 0) (by omega) (by omega)) H.size) hl.1 rfl (Nat.le_of_ble_eq_true rfl) rfl dL_draws_169 ⟨⟨Nat.le_of_ble_eq_true rfl, Nat.le_of_ble_eq_true rfl⟩, Nat.le_of_ble_eq_true rfl, Nat.le_of_ble_eq_true rfl⟩) rfl rfl (fun r_186 _ H locs hw_187 hP hD hK hS => ?_)
        have hK : va_K D vwCl [(K, .int), (KS, .object "BarcodeWand$State")] s := hK
        have hP : va_P D vwCl ((WW a K KS st1v_158 (svH hs st) sc1v_182)) H := hP
        have hD : va_D A ((WW a K KS st1v_158 (svH hs st) sc1v_182)) := hD
        have hw_187 : r_186 = (rowAt 41 (nI (s_tn st1v_158)) (s_tf st1v_158) 0) := hw_187
        have hw_187 := hw_187.symm
        subst hw_187
        refine k_nrm (y := (rowAt 41 (nI (s_tn st1v_158)) (s_tf st1v_158) 0)) rfl ?_
        refine k_nrm (y := (s_drw st lf rt 1 0)) ((rowAt_lt (i := 0) (by omega) ha3 (by decide)).trans (d6 0 (by omega))) ?_
        refine lv_istore (lv' := [(12, .int (s_drw st lf rt 1 0)), (11, .int (nI (s_tn st1v_158))), (10, .int 1), (9, .int (resF (s_ns st) (s_drw st lf rt 1) (s_tol st))), (8, .int (s_fai st)), (7, .int (s_suc st)), (6, .int (resF (s_ns st) (s_drw st lf rt 1) (s_tol st))), (4, .long (P0 st)), (0, .ref (a 0)), (1, .int lf), (2, .int rt), (3, .int 1)]) hx hb dL_draws_172 hl (by decide) rfl (fun ls hl => ?_)
        refine lv_aload_n hx hb dL_draws_174 rfl (lv_at hl 8 rfl) ?_
        refine lv_iload hx hb dL_draws_175 (lv_at hl 1 rfl) ?_
        refine lv_iconst (v := 1) hx hb dL_draws_177 (by decide) ?_
        refine lv_isub hx hb dL_draws_178 ?_
        refine k_nrm (y := (nI (s_ns st - 1))) (by rw [d5]; exact pk_sub (b := 1) (by omega)) ?_
        have ct := k_cut_TT (wp := []) (T := (WW a K KS st1v_158 (svH hs st) sc1v_182)) (wc := []) (wr := []) (tc := [(K, .int), (KS, .object "BarcodeWand$State")]) hG hS hA hK hP hD [] [] [0, 1] rfl rfl (by decide) (by decide) (by decide) rfl
        refine k_endi (As := [.ref (a 0), .int (nI (s_ns st - 1))]) ct (k_runSW (As := [.ref (a 0), .int (nI (s_ns st - 1))]) (rest := []) S0 Ls_L_147 ct (c_L_time l D a K KS st1v_158 (svH hs st) sc1v_182 (nI (s_ns st - 1)) (inR_in (by omega) (by omega)) H.size) hl.1 rfl (Nat.le_of_ble_eq_true rfl) rfl dL_draws_179 ⟨⟨Nat.le_of_ble_eq_true rfl, Nat.le_of_ble_eq_true rfl⟩, Nat.le_of_ble_eq_true rfl, Nat.le_of_ble_eq_true rfl⟩) rfl rfl (fun r_188 _ H locs hw_189 hP hD hK hS => ?_)
        have hK : va_K D vwCl [(K, .int), (KS, .object "BarcodeWand$State")] s := hK
        have hP : va_P D vwCl ((WW a K KS st1v_158 (svH hs st) sc1v_182)) H := hP
        have hD : va_D A ((WW a K KS st1v_158 (svH hs st) sc1v_182)) := hD
        have hw_189 : r_188 = (rowAt 41 (nI (s_tn st1v_158)) (s_tf st1v_158) (nI (s_ns st - 1))) := hw_189
        have hw_189 := hw_189.symm
        subst hw_189
        refine k_nrm (y := (rowAt 41 (nI (s_tn st1v_158)) (s_tf st1v_158) (nI (s_ns st - 1)))) rfl ?_
        refine k_nrm (y := (s_drw st lf rt 1 (s_ns st - 1))) ((rowAt_lt (by omega) ha3 (by decide)).trans (d6 _ (by omega))) ?_
        refine lv_istore (lv' := [(13, .int (s_drw st lf rt 1 (s_ns st - 1))), (12, .int (s_drw st lf rt 1 0)), (11, .int (nI (s_tn st1v_158))), (10, .int 1), (9, .int (resF (s_ns st) (s_drw st lf rt 1) (s_tol st))), (8, .int (s_fai st)), (7, .int (s_suc st)), (6, .int (resF (s_ns st) (s_drw st lf rt 1) (s_tol st))), (4, .long (P0 st)), (0, .ref (a 0)), (1, .int lf), (2, .int rt), (3, .int 1)]) hx hb dL_draws_182 hl (by decide) rfl (fun ls hl => ?_)
        refine lv_aload_n hx hb dL_draws_184 rfl (lv_at hl 9 rfl) ?_
        refine lv_iload_n hx hb dL_draws_185 rfl (lv_at hl 10 rfl) ?_
        refine lv_iload_n hx hb dL_draws_186 rfl (lv_at hl 11 rfl) ?_
        refine lv_iload_n hx hb dL_draws_187 rfl (lv_at hl 12 rfl) ?_
        refine lv_if_ne (tgt := 195) hx hb dL_draws_188 (by decide) (fun _ => ?_) (fun c9 => absurd c9 (by decide))
        refine lv_iconst (v := 0) hx hb dL_draws_195 (by decide) ?_
        have ct := k_cut_TT (wp := []) (T := (WW a K KS st1v_158 (svH hs st) sc1v_182)) (wc := []) (wr := []) (tc := [(K, .int), (KS, .object "BarcodeWand$State")]) hG hS hA hK hP hD [] [] [0, 1] rfl rfl (by decide) (by decide) (by decide) rfl
        refine k_endi (As := [.ref (a 0), .int lf, .int rt, .int 0]) ct (k_runSW (As := [.ref (a 0), .int lf, .int rt, .int 0]) (rest := []) S0 Ls_L_93 ct (c_L_draw l D a K KS st1v_158 (svH hs st) sc1v_182 lf rt 0 hj1.1 hh1 hp hne1 H.size) hl.1 rfl (Nat.le_of_ble_eq_true rfl) rfl dL_draws_196 ⟨⟨Nat.le_of_ble_eq_true rfl, Nat.le_of_ble_eq_true rfl⟩, Nat.le_of_ble_eq_true rfl, Nat.le_of_ble_eq_true rfl⟩) rfl rfl (fun r_190 u H locs hw_193 hP hD hK hS => ?_)
        obtain ⟨st1v_191, sc1v_192⟩ := u
        have hK : va_K D vwCl [(K, .int), (KS, .object "BarcodeWand$State")] s := hK
        have hP : va_P D vwCl ((WW a K KS st1v_191 (svH (svH hs st) st1v_158) sc1v_192)) H := hP
        have hD : va_D A ((WW a K KS st1v_191 (svH (svH hs st) st1v_158) sc1v_192)) := hD
        have hw_193 : RC (setT (s_ns st1v_158) (cpy (s_drw st1v_158 lf rt 0) (s_tf st1v_158) (s_ns st1v_158)) st1v_158) st1v_191 r_190 := hw_193
        obtain ⟨e0, e1, e2, e3, e4, e5, e6, e7, e8⟩ := drw_out hj1.1 hw_193
        have hj2 := drw_inv hj1 hw_193
        refine k_nrm (y := (resF (s_ns st1v_158) (s_drw st1v_158 lf rt 0) (s_tol st1v_158))) (e0) ?_
        obtain ⟨hc1, hc2, hc3, hc4⟩ := bST_le hj2.1
        have hh2 := okH_sv hh1 hj1.1
        have K2 := stk_push st1v_158 hh1 (Nat.le_of_ble_eq_true rfl) K1
        have hsw : ∀ j, j < s_ns st → s_tf st1v_191 j = s_drw st lf rt 0 j := fun j hj => by rw [e6 j (by omega), hsd]
        have hrv : (resF (s_ns st) (s_drw st lf rt 1) (s_tol st)) = 0 → ¬ 0 < (resF (s_ns st1v_158) (s_drw st1v_158 lf rt 0) (s_tol st1v_158)) := fun q9 => by rw [d3, hsd, d7]; exact res_rev hb2 (fun j hj => drw_rev2 hb2 hj) q9
        refine lv_istore (lv' := [(14, .int (resF (s_ns st1v_158) (s_drw st1v_158 lf rt 0) (s_tol st1v_158))), (13, .int (s_drw st lf rt 1 (s_ns st - 1))), (12, .int (s_drw st lf rt 1 0)), (11, .int (nI (s_tn st1v_158))), (10, .int 1), (9, .int (resF (s_ns st) (s_drw st lf rt 1) (s_tol st))), (8, .int (s_fai st)), (7, .int (s_suc st)), (6, .int (resF (s_ns st) (s_drw st lf rt 1) (s_tol st))), (4, .long (P0 st)), (0, .ref (a 0)), (1, .int lf), (2, .int rt), (3, .int 1)]) hx hb dL_draws_199 hl (by decide) rfl (fun ls hl => ?_)
        refine lv_iload hx hb dL_draws_201 (lv_at hl 4 rfl) ?_
        refine lv_if_eq (tgt := 243) hx hb dL_draws_203 (by decide) (fun c9 => absurd c9 (by decide)) (fun _ => ?_)
        refine lv_aload_n hx hb dL_draws_206 rfl (lv_at hl 10 rfl) ?_
        refine lv_iconst (v := 0) hx hb dL_draws_207 (by decide) ?_
        have ct := k_cut_TT (wp := []) (T := (WW a K KS st1v_191 (svH (svH hs st) st1v_158) sc1v_192)) (wc := []) (wr := []) (tc := [(K, .int), (KS, .object "BarcodeWand$State")]) hG hS hA hK hP hD [] [] [0, 1] rfl rfl (by decide) (by decide) (by decide) rfl
        refine k_endi (As := [.ref (a 0), .int 0]) ct (k_runSW (As := [.ref (a 0), .int 0]) (rest := []) S0 Ls_L_147 ct (c_L_time l D a K KS st1v_191 (svH (svH hs st) st1v_158) sc1v_192 0 (inR_in (x := 0) (by omega) (by omega)) H.size) hl.1 rfl (Nat.le_of_ble_eq_true rfl) rfl dL_draws_208 ⟨⟨Nat.le_of_ble_eq_true rfl, Nat.le_of_ble_eq_true rfl⟩, Nat.le_of_ble_eq_true rfl, Nat.le_of_ble_eq_true rfl⟩) rfl rfl (fun r_194 _ H locs hw_195 hP hD hK hS => ?_)
        have hK : va_K D vwCl [(K, .int), (KS, .object "BarcodeWand$State")] s := hK
        have hP : va_P D vwCl ((WW a K KS st1v_191 (svH (svH hs st) st1v_158) sc1v_192)) H := hP
        have hD : va_D A ((WW a K KS st1v_191 (svH (svH hs st) st1v_158) sc1v_192)) := hD
        have hw_195 : r_194 = (rowAt 41 (nI (s_tn st1v_191)) (s_tf st1v_191) 0) := hw_195
        have hw_195 := hw_195.symm
        subst hw_195
        refine k_nrm (y := (rowAt 41 (nI (s_tn st1v_191)) (s_tf st1v_191) 0)) rfl ?_
        refine k_nrm (y := (s_drw st lf rt 0 0)) ((rowAt_lt (i := 0) (by omega) hc3 (by decide)).trans (hsw 0 (by omega))) ?_
        refine lv_iload hx hb dL_draws_211 (lv_at hl 1 rfl) ?_
        refine lv_icmp_ne (tgt := 243) hx hb dL_draws_213 (by decide) (fun c9 => absurd ((drw_e hb2 (by omega)).2) c9) (fun c_196 => ?_)
        refine lv_aload_n hx hb dL_draws_216 rfl (lv_at hl 10 rfl) ?_
        refine lv_iload hx hb dL_draws_217 (lv_at hl 3 rfl) ?_
        refine lv_iconst (v := 1) hx hb dL_draws_219 (by decide) ?_
        refine lv_isub hx hb dL_draws_220 ?_
        refine k_nrm (y := (nI (s_ns st - 1))) (by rw [d5]; exact pk_sub (b := 1) (by omega)) ?_
        have ct := k_cut_TT (wp := []) (T := (WW a K KS st1v_191 (svH (svH hs st) st1v_158) sc1v_192)) (wc := []) (wr := []) (tc := [(K, .int), (KS, .object "BarcodeWand$State")]) hG hS hA hK hP hD [] [] [0, 1] rfl rfl (by decide) (by decide) (by decide) rfl
        refine k_endi (As := [.ref (a 0), .int (nI (s_ns st - 1))]) ct (k_runSW (As := [.ref (a 0), .int (nI (s_ns st - 1))]) (rest := []) S0 Ls_L_147 ct (c_L_time l D a K KS st1v_191 (svH (svH hs st) st1v_158) sc1v_192 (nI (s_ns st - 1)) (inR_in (by omega) (by omega)) H.size) hl.1 rfl (Nat.le_of_ble_eq_true rfl) rfl dL_draws_221 ⟨⟨Nat.le_of_ble_eq_true rfl, Nat.le_of_ble_eq_true rfl⟩, Nat.le_of_ble_eq_true rfl, Nat.le_of_ble_eq_true rfl⟩) rfl rfl (fun r_197 _ H locs hw_198 hP hD hK hS => ?_)
        have hK : va_K D vwCl [(K, .int), (KS, .object "BarcodeWand$State")] s := hK
        have hP : va_P D vwCl ((WW a K KS st1v_191 (svH (svH hs st) st1v_158) sc1v_192)) H := hP
        have hD : va_D A ((WW a K KS st1v_191 (svH (svH hs st) st1v_158) sc1v_192)) := hD
        have hw_198 : r_197 = (rowAt 41 (nI (s_tn st1v_191)) (s_tf st1v_191) (nI (s_ns st - 1))) := hw_198
        have hw_198 := hw_198.symm
        subst hw_198
        refine k_nrm (y := (rowAt 41 (nI (s_tn st1v_191)) (s_tf st1v_191) (nI (s_ns st - 1)))) rfl ?_
        refine k_nrm (y := (s_drw st lf rt 0 (s_ns st - 1))) ((rowAt_lt (by omega) hc3 (by decide)).trans (hsw _ (by omega))) ?_
        refine lv_iload hx hb dL_draws_224 (lv_at hl 2 rfl) ?_
        refine lv_icmp_ne (tgt := 243) hx hb dL_draws_226 (by decide) (fun c9 => absurd ((drw_e hb2 (by omega)).1.symm) c9) (fun c_199 => ?_)
        refine lv_iload hx hb dL_draws_229 (lv_at hl 5 rfl) ?_
        refine lv_if_ne (tgt := 239) hx hb dL_draws_231 (by decide) (fun c_200 => ?_) (fun c_200 => ?_)
        · have hc9 := c_200
          refine lv_iconst (v := 1) hx hb dL_draws_239 (by decide) ?_
          refine lv_goto (tgt := 244) hx hb dL_draws_240 (by decide) ?_
          refine lv_istore (lv' := [(10, .int 1), (14, .int (resF (s_ns st1v_158) (s_drw st1v_158 lf rt 0) (s_tol st1v_158))), (13, .int (s_drw st lf rt 1 (s_ns st - 1))), (12, .int (s_drw st lf rt 1 0)), (11, .int (nI (s_tn st1v_158))), (9, .int (resF (s_ns st) (s_drw st lf rt 1) (s_tol st))), (8, .int (s_fai st)), (7, .int (s_suc st)), (6, .int (resF (s_ns st) (s_drw st lf rt 1) (s_tol st))), (4, .long (P0 st)), (0, .ref (a 0)), (1, .int lf), (2, .int rt), (3, .int 1)]) hx hb dL_draws_244 hl (by decide) rfl (fun ls hl => ?_)
          refine lv_iload hx hb dL_draws_246 (lv_at hl 0 rfl) ?_
          refine lv_if_eq (tgt := 279) hx hb dL_draws_248 (by decide) (fun c9 => absurd c9 (by decide)) (fun _ => ?_)
          refine lv_aload_n hx hb dL_draws_251 rfl (lv_at hl 10 rfl) ?_
          have ct := k_cut_TT (wp := []) (T := (WW a K KS st1v_191 (svH (svH hs st) st1v_158) sc1v_192)) (wc := []) (wr := []) (tc := [(K, .int), (KS, .object "BarcodeWand$State")]) hG hS hA hK hP hD [] [] [0, 1] rfl rfl (by decide) (by decide) (by decide) rfl
          refine k_endi (As := [.ref (a 0)]) ct (k_runSW (As := [.ref (a 0)]) (rest := []) S0 Ls_L_160 ct (c_L_undo l D a K KS st1v_191 (svH (svH hs st) st1v_158) sc1v_192 hj2.1 hh2 ((stk_pop K2).1) H.size) hl.1 rfl (Nat.le_of_ble_eq_true rfl) rfl dL_draws_252 ⟨⟨Nat.le_of_ble_eq_true rfl, Nat.le_of_ble_eq_true rfl⟩, Nat.le_of_ble_eq_true rfl, Nat.le_of_ble_eq_true rfl⟩) rfl rfl (fun r_201 st1v_202 H locs hw_203 hP hD hK hS => ?_)
          have hK : va_K D vwCl [(K, .int), (KS, .object "BarcodeWand$State")] s := hK
          have hP : va_P D vwCl ((WW a K KS st1v_202 (rsH (svH (svH hs st) st1v_158)) sc1v_192)) H := hP
          have hD : va_D A ((WW a K KS st1v_202 (rsH (svH (svH hs st) st1v_158)) sc1v_192)) := hD
          have hw_203 : r_201 = (nI (h_kp (svH (svH hs st) st1v_158) - 1)) ∧ st1v_202 = rsS (svH (svH hs st) st1v_158) st1v_191 := hw_203
          obtain ⟨u_204a, u_204b⟩ := hw_203
          refine k_nrm (y := (nI (h_kp (svH (svH hs st) st1v_158) - 1))) (u_204a) ?_
          have u_204h := okH_rs hh2
          have u_204c : bST st1v_202 := by rw [u_204b]; exact bST_rs _ hh2
          have u_204k := (stk_pop K2).2.1
          have u_204v := (stk_pop K2).2.2 st1v_191
          rw [← u_204b] at u_204v
          have u_204p : ¬ (nI (h_kp (svH (svH hs st) st1v_158) - 1)) < 0 := nI_pos (by have := kp_6 hh2; omega)
          refine lv_if_lt (tgt := 279) hx hb dL_draws_255 (by decide) (fun c9 => absurd c9 u_204p) (fun c_205 => ?_)
          refine lv_aload_n hx hb dL_draws_258 rfl (lv_at hl 10 rfl) ?_
          have ct := k_cut_TT (wp := []) (T := (WW a K KS st1v_202 (rsH (svH (svH hs st) st1v_158)) sc1v_192)) (wc := []) (wr := []) (tc := [(K, .int), (KS, .object "BarcodeWand$State")]) hG hS hA hK hP hD [] [] [0, 1] rfl rfl (by decide) (by decide) (by decide) rfl
          refine k_endi (As := [.ref (a 0)]) ct (k_runSW (As := [.ref (a 0)]) (rest := []) S0 Ls_L_160 ct (c_L_undo l D a K KS st1v_202 (rsH (svH (svH hs st) st1v_158)) sc1v_192 u_204c u_204h ((stk_pop u_204k).1) H.size) hl.1 rfl (Nat.le_of_ble_eq_true rfl) rfl dL_draws_259 ⟨⟨Nat.le_of_ble_eq_true rfl, Nat.le_of_ble_eq_true rfl⟩, Nat.le_of_ble_eq_true rfl, Nat.le_of_ble_eq_true rfl⟩) rfl rfl (fun r_206 st1v_207 H locs hw_208 hP hD hK hS => ?_)
          have hK : va_K D vwCl [(K, .int), (KS, .object "BarcodeWand$State")] s := hK
          have hP : va_P D vwCl ((WW a K KS st1v_207 (rsH (rsH (svH (svH hs st) st1v_158))) sc1v_192)) H := hP
          have hD : va_D A ((WW a K KS st1v_207 (rsH (rsH (svH (svH hs st) st1v_158))) sc1v_192)) := hD
          have hw_208 : r_206 = (nI (h_kp (rsH (svH (svH hs st) st1v_158)) - 1)) ∧ st1v_207 = rsS (rsH (svH (svH hs st) st1v_158)) st1v_202 := hw_208
          obtain ⟨u_209a, u_209b⟩ := hw_208
          refine k_nrm (y := (nI (h_kp (rsH (svH (svH hs st) st1v_158)) - 1))) (u_209a) ?_
          have u_209h := okH_rs u_204h
          have u_209c : bST st1v_207 := by rw [u_209b]; exact bST_rs _ u_204h
          have u_209k := (stk_pop u_204k).2.1
          have u_209v := (stk_pop u_204k).2.2 st1v_202
          rw [← u_209b] at u_209v
          have u_209p : ¬ (nI (h_kp (rsH (svH (svH hs st) st1v_158)) - 1)) < 0 := nI_pos (by have := kp_6 u_204h; omega)
          refine lv_if_lt (tgt := 279) hx hb dL_draws_262 (by decide) (fun c9 => absurd c9 u_209p) (fun c_210 => ?_)
          refine lv_aload_n hx hb dL_draws_265 rfl (lv_at hl 10 rfl) ?_
          have ct := k_cut_TT (wp := []) (T := (WW a K KS st1v_207 (rsH (rsH (svH (svH hs st) st1v_158))) sc1v_192)) (wc := []) (wr := []) (tc := [(K, .int), (KS, .object "BarcodeWand$State")]) hG hS hA hK hP hD [] [] [0, 1] rfl rfl (by decide) (by decide) (by decide) rfl
          refine k_endl (As := [.ref (a 0)]) ct (k_runS (As := [.ref (a 0)]) (rest := []) S0 Ls_L_153 ct (c_L_print0 l D a K KS st1v_207 (rsH (rsH (svH (svH hs st) st1v_158))) sc1v_192 u_209c H.size) hl.1 rfl (Nat.le_of_ble_eq_true rfl) rfl dL_draws_266 ⟨⟨Nat.le_of_ble_eq_true rfl, Nat.le_of_ble_eq_true rfl⟩, Nat.le_of_ble_eq_true rfl, Nat.le_of_ble_eq_true rfl⟩) rfl rfl (fun r_211 sc1v_212 H locs hw_213 hP hD hK hS => ?_)
          have hK : va_K D vwCl [(K, .int), (KS, .object "BarcodeWand$State")] s := hK
          have hP : va_P D vwCl ((WW a K KS st1v_207 (rsH (rsH (svH (svH hs st) st1v_158))) sc1v_212)) H := hP
          have hD : va_D A ((WW a K KS st1v_207 (rsH (rsH (svH (svH hs st) st1v_158))) sc1v_212)) := hD
          have hw_213 : r_211 = (P0 st1v_207) := hw_213
          have hw_213 := hw_213.symm
          subst hw_213
          refine k_nrml (y := (P0 st1v_207)) rfl ?_
          refine lv_lload hx hb dL_draws_269 (lv_at hl 9 rfl) ?_
          refine W.lcmp hx hb dL_draws_271 ?_
          refine k_nrm (y := 0) ((by rw [P0_view u_209v u_209c]; exact lgc _)) ?_
          refine lv_if_ne (tgt := 279) hx hb dL_draws_272 (by decide) (fun c9 => absurd (by decide) c9) (fun _ => ?_)
          refine lv_iconst (v := 1) hx hb dL_draws_275 (by decide) ?_
          refine lv_goto (tgt := 280) hx hb dL_draws_276 (by decide) ?_
          have hP9 : va_P D vwCl ((WW a K KS st1v_207 (rsH (rsH (svH (svH hs st) st1v_158))) sc1v_212)) H := k_subP (wp := []) (wp' := []) (T := (WW a K KS st1v_207 (rsH (rsH (svH (svH hs st) st1v_158))) sc1v_212)) hP [] rfl
          have hD9 : va_D A ((WW a K KS st1v_207 (rsH (rsH (svH (svH hs st) st1v_158))) sc1v_212)) := k_subD (wp := []) (wp' := []) (T := (WW a K KS st1v_207 (rsH (rsH (svH (svH hs st) st1v_158))) sc1v_212)) hD [] (by decide) rfl
          have hP9 : va_P D vwCl ((WW a K KS st1v_207 (rsH (rsH (svH (svH hs st) st1v_158))) sc1v_212)) H := hP9
          have hD9 : va_D A ((WW a K KS st1v_207 (rsH (rsH (svH (svH hs st) st1v_158))) sc1v_212)) := hD9
          have hK9 : va_K D vwCl [] s := hK.sub [] rfl
          exact W.zret (v := 1) hx hb hr (rfl) (fun t ht9 hW9 => ⟨⟨1, (st1v_207, (rsH (rsH (svH (svH hs st) st1v_158))), sc1v_212), rfl, by (exact ⟨rfl, u_209h, u_209v⟩), ⟨by rw [ht9]; exact hP9, va_K.moved hW9.alike hK9, hD9⟩⟩, hS.F ht9⟩) hS.2.2 dL_draws_280
        · have hc9 := c_200
          refine lv_iload hx hb dL_draws_234 (lv_at hl 0 rfl) ?_
          refine lv_if_gt (tgt := 243) hx hb dL_draws_236 (by decide) (fun c9 => absurd c9 (hrv c_200)) (fun c_214 => ?_)
          refine lv_iconst (v := 1) hx hb dL_draws_239 (by decide) ?_
          refine lv_goto (tgt := 244) hx hb dL_draws_240 (by decide) ?_
          refine lv_istore (lv' := [(10, .int 1), (14, .int (resF (s_ns st1v_158) (s_drw st1v_158 lf rt 0) (s_tol st1v_158))), (13, .int (s_drw st lf rt 1 (s_ns st - 1))), (12, .int (s_drw st lf rt 1 0)), (11, .int (nI (s_tn st1v_158))), (9, .int (resF (s_ns st) (s_drw st lf rt 1) (s_tol st))), (8, .int (s_fai st)), (7, .int (s_suc st)), (6, .int (resF (s_ns st) (s_drw st lf rt 1) (s_tol st))), (4, .long (P0 st)), (0, .ref (a 0)), (1, .int lf), (2, .int rt), (3, .int 1)]) hx hb dL_draws_244 hl (by decide) rfl (fun ls hl => ?_)
          refine lv_iload hx hb dL_draws_246 (lv_at hl 0 rfl) ?_
          refine lv_if_eq (tgt := 279) hx hb dL_draws_248 (by decide) (fun c9 => absurd c9 (by decide)) (fun _ => ?_)
          refine lv_aload_n hx hb dL_draws_251 rfl (lv_at hl 10 rfl) ?_
          have ct := k_cut_TT (wp := []) (T := (WW a K KS st1v_191 (svH (svH hs st) st1v_158) sc1v_192)) (wc := []) (wr := []) (tc := [(K, .int), (KS, .object "BarcodeWand$State")]) hG hS hA hK hP hD [] [] [0, 1] rfl rfl (by decide) (by decide) (by decide) rfl
          refine k_endi (As := [.ref (a 0)]) ct (k_runSW (As := [.ref (a 0)]) (rest := []) S0 Ls_L_160 ct (c_L_undo l D a K KS st1v_191 (svH (svH hs st) st1v_158) sc1v_192 hj2.1 hh2 ((stk_pop K2).1) H.size) hl.1 rfl (Nat.le_of_ble_eq_true rfl) rfl dL_draws_252 ⟨⟨Nat.le_of_ble_eq_true rfl, Nat.le_of_ble_eq_true rfl⟩, Nat.le_of_ble_eq_true rfl, Nat.le_of_ble_eq_true rfl⟩) rfl rfl (fun r_215 st1v_216 H locs hw_217 hP hD hK hS => ?_)
          have hK : va_K D vwCl [(K, .int), (KS, .object "BarcodeWand$State")] s := hK
          have hP : va_P D vwCl ((WW a K KS st1v_216 (rsH (svH (svH hs st) st1v_158)) sc1v_192)) H := hP
          have hD : va_D A ((WW a K KS st1v_216 (rsH (svH (svH hs st) st1v_158)) sc1v_192)) := hD
          have hw_217 : r_215 = (nI (h_kp (svH (svH hs st) st1v_158) - 1)) ∧ st1v_216 = rsS (svH (svH hs st) st1v_158) st1v_191 := hw_217
          obtain ⟨u_218a, u_218b⟩ := hw_217
          refine k_nrm (y := (nI (h_kp (svH (svH hs st) st1v_158) - 1))) (u_218a) ?_
          have u_218h := okH_rs hh2
          have u_218c : bST st1v_216 := by rw [u_218b]; exact bST_rs _ hh2
          have u_218k := (stk_pop K2).2.1
          have u_218v := (stk_pop K2).2.2 st1v_191
          rw [← u_218b] at u_218v
          have u_218p : ¬ (nI (h_kp (svH (svH hs st) st1v_158) - 1)) < 0 := nI_pos (by have := kp_6 hh2; omega)
          refine lv_if_lt (tgt := 279) hx hb dL_draws_255 (by decide) (fun c9 => absurd c9 u_218p) (fun c_219 => ?_)
          refine lv_aload_n hx hb dL_draws_258 rfl (lv_at hl 10 rfl) ?_
          have ct := k_cut_TT (wp := []) (T := (WW a K KS st1v_216 (rsH (svH (svH hs st) st1v_158)) sc1v_192)) (wc := []) (wr := []) (tc := [(K, .int), (KS, .object "BarcodeWand$State")]) hG hS hA hK hP hD [] [] [0, 1] rfl rfl (by decide) (by decide) (by decide) rfl
          refine k_endi (As := [.ref (a 0)]) ct (k_runSW (As := [.ref (a 0)]) (rest := []) S0 Ls_L_160 ct (c_L_undo l D a K KS st1v_216 (rsH (svH (svH hs st) st1v_158)) sc1v_192 u_218c u_218h ((stk_pop u_218k).1) H.size) hl.1 rfl (Nat.le_of_ble_eq_true rfl) rfl dL_draws_259 ⟨⟨Nat.le_of_ble_eq_true rfl, Nat.le_of_ble_eq_true rfl⟩, Nat.le_of_ble_eq_true rfl, Nat.le_of_ble_eq_true rfl⟩) rfl rfl (fun r_220 st1v_221 H locs hw_222 hP hD hK hS => ?_)
          have hK : va_K D vwCl [(K, .int), (KS, .object "BarcodeWand$State")] s := hK
          have hP : va_P D vwCl ((WW a K KS st1v_221 (rsH (rsH (svH (svH hs st) st1v_158))) sc1v_192)) H := hP
          have hD : va_D A ((WW a K KS st1v_221 (rsH (rsH (svH (svH hs st) st1v_158))) sc1v_192)) := hD
          have hw_222 : r_220 = (nI (h_kp (rsH (svH (svH hs st) st1v_158)) - 1)) ∧ st1v_221 = rsS (rsH (svH (svH hs st) st1v_158)) st1v_216 := hw_222
          obtain ⟨u_223a, u_223b⟩ := hw_222
          refine k_nrm (y := (nI (h_kp (rsH (svH (svH hs st) st1v_158)) - 1))) (u_223a) ?_
          have u_223h := okH_rs u_218h
          have u_223c : bST st1v_221 := by rw [u_223b]; exact bST_rs _ u_218h
          have u_223k := (stk_pop u_218k).2.1
          have u_223v := (stk_pop u_218k).2.2 st1v_216
          rw [← u_223b] at u_223v
          have u_223p : ¬ (nI (h_kp (rsH (svH (svH hs st) st1v_158)) - 1)) < 0 := nI_pos (by have := kp_6 u_218h; omega)
          refine lv_if_lt (tgt := 279) hx hb dL_draws_262 (by decide) (fun c9 => absurd c9 u_223p) (fun c_224 => ?_)
          refine lv_aload_n hx hb dL_draws_265 rfl (lv_at hl 10 rfl) ?_
          have ct := k_cut_TT (wp := []) (T := (WW a K KS st1v_221 (rsH (rsH (svH (svH hs st) st1v_158))) sc1v_192)) (wc := []) (wr := []) (tc := [(K, .int), (KS, .object "BarcodeWand$State")]) hG hS hA hK hP hD [] [] [0, 1] rfl rfl (by decide) (by decide) (by decide) rfl
          refine k_endl (As := [.ref (a 0)]) ct (k_runS (As := [.ref (a 0)]) (rest := []) S0 Ls_L_153 ct (c_L_print0 l D a K KS st1v_221 (rsH (rsH (svH (svH hs st) st1v_158))) sc1v_192 u_223c H.size) hl.1 rfl (Nat.le_of_ble_eq_true rfl) rfl dL_draws_266 ⟨⟨Nat.le_of_ble_eq_true rfl, Nat.le_of_ble_eq_true rfl⟩, Nat.le_of_ble_eq_true rfl, Nat.le_of_ble_eq_true rfl⟩) rfl rfl (fun r_225 sc1v_226 H locs hw_227 hP hD hK hS => ?_)
          have hK : va_K D vwCl [(K, .int), (KS, .object "BarcodeWand$State")] s := hK
          have hP : va_P D vwCl ((WW a K KS st1v_221 (rsH (rsH (svH (svH hs st) st1v_158))) sc1v_226)) H := hP
          have hD : va_D A ((WW a K KS st1v_221 (rsH (rsH (svH (svH hs st) st1v_158))) sc1v_226)) := hD
          have hw_227 : r_225 = (P0 st1v_221) := hw_227
          have hw_227 := hw_227.symm
          subst hw_227
          refine k_nrml (y := (P0 st1v_221)) rfl ?_
          refine lv_lload hx hb dL_draws_269 (lv_at hl 9 rfl) ?_
          refine W.lcmp hx hb dL_draws_271 ?_
          refine k_nrm (y := 0) ((by rw [P0_view u_223v u_223c]; exact lgc _)) ?_
          refine lv_if_ne (tgt := 279) hx hb dL_draws_272 (by decide) (fun c9 => absurd (by decide) c9) (fun _ => ?_)
          refine lv_iconst (v := 1) hx hb dL_draws_275 (by decide) ?_
          refine lv_goto (tgt := 280) hx hb dL_draws_276 (by decide) ?_
          have hP9 : va_P D vwCl ((WW a K KS st1v_221 (rsH (rsH (svH (svH hs st) st1v_158))) sc1v_226)) H := k_subP (wp := []) (wp' := []) (T := (WW a K KS st1v_221 (rsH (rsH (svH (svH hs st) st1v_158))) sc1v_226)) hP [] rfl
          have hD9 : va_D A ((WW a K KS st1v_221 (rsH (rsH (svH (svH hs st) st1v_158))) sc1v_226)) := k_subD (wp := []) (wp' := []) (T := (WW a K KS st1v_221 (rsH (rsH (svH (svH hs st) st1v_158))) sc1v_226)) hD [] (by decide) rfl
          have hP9 : va_P D vwCl ((WW a K KS st1v_221 (rsH (rsH (svH (svH hs st) st1v_158))) sc1v_226)) H := hP9
          have hD9 : va_D A ((WW a K KS st1v_221 (rsH (rsH (svH (svH hs st) st1v_158))) sc1v_226)) := hD9
          have hK9 : va_K D vwCl [] s := hK.sub [] rfl
          exact W.zret (v := 1) hx hb hr (rfl) (fun t ht9 hW9 => ⟨⟨1, (st1v_221, (rsH (rsH (svH (svH hs st) st1v_158))), sc1v_226), rfl, by (exact ⟨rfl, u_223h, u_223v⟩), ⟨by rw [ht9]; exact hP9, va_K.moved hW9.alike hK9, hD9⟩⟩, hS.F ht9⟩) hS.2.2 dL_draws_280
      · have hc9 := c_179
        refine lv_iconst (v := 0) hx hb dL_draws_138 (by decide) ?_
        refine lv_goto (tgt := 143) hx hb dL_draws_139 (by decide) ?_
        refine lv_iadd hx hb dL_draws_143 ?_
        refine k_nrm (y := ((s_suc st) + 0)) (rfl) ?_
        refine lv_icmp_ne (tgt := 158) hx hb dL_draws_144 (by decide) (fun c9 => absurd (hs3.2.1 c_179) c9) (fun c_228 => ?_)
        refine lv_aload_n hx hb dL_draws_147 rfl (lv_at hl 5 rfl) ?_
        have ct := k_cut_TT (wp := []) (T := (WW a K KS st1v_158 (svH hs st) sc1v_169)) (wc := []) (wr := []) (tc := [(K, .int), (KS, .object "BarcodeWand$State")]) hG hS hA hK hP hD [] [] [0, 1] rfl rfl (by decide) (by decide) (by decide) rfl
        refine k_endi (As := [.ref (a 0)]) ct (k_runS (As := [.ref (a 0)]) (rest := []) S0 Ls_L_157 ct (c_L_hangs l hst D a K KS st1v_158 (svH hs st) sc1v_169 (N + 1) hj1 (by omega) H.size) hl.1 rfl (Nat.le_of_ble_eq_true rfl) rfl dL_draws_148 ⟨⟨Nat.le_of_ble_eq_true rfl, Nat.le_of_ble_eq_true rfl⟩, Nat.le_of_ble_eq_true rfl, Nat.le_of_ble_eq_true rfl⟩) rfl rfl (fun r_229 sc1v_230 H locs hw_231 hP hD hK hS => ?_)
        have hK : va_K D vwCl [(K, .int), (KS, .object "BarcodeWand$State")] s := hK
        have hP : va_P D vwCl ((WW a K KS st1v_158 (svH hs st) sc1v_230)) H := hP
        have hD : va_D A ((WW a K KS st1v_158 (svH hs st) sc1v_230)) := hD
        have hw_231 : r_229 = 1 := hw_231
        have hw_231 := hw_231.symm
        subst hw_231
        refine k_nrm (y := 1) rfl ?_
        refine lv_if_eq (tgt := 158) hx hb dL_draws_151 (by decide) (fun c9 => absurd c9 (by decide)) (fun _ => ?_)
        refine lv_iconst (v := 1) hx hb dL_draws_154 (by decide) ?_
        refine lv_goto (tgt := 159) hx hb dL_draws_155 (by decide) ?_
        refine lv_istore (lv' := [(10, .int 1), (9, .int (resF (s_ns st) (s_drw st lf rt 1) (s_tol st))), (8, .int (s_fai st)), (7, .int (s_suc st)), (6, .int (resF (s_ns st) (s_drw st lf rt 1) (s_tol st))), (4, .long (P0 st)), (0, .ref (a 0)), (1, .int lf), (2, .int rt), (3, .int 1)]) hx hb dL_draws_159 hl (by decide) rfl (fun ls hl => ?_)
        refine lv_aload_n hx hb dL_draws_161 rfl (lv_at hl 6 rfl) ?_
        have ct := k_cut_TT (wp := []) (T := (WW a K KS st1v_158 (svH hs st) sc1v_230)) (wc := []) (wr := []) (tc := [(K, .int), (KS, .object "BarcodeWand$State")]) hG hS hA hK hP hD [] [] [0, 1] rfl rfl (by decide) (by decide) (by decide) rfl
        refine k_endi (As := [.ref (a 0)]) ct (k_runV (As := []) (rest := []) S0 Lv_L_113 rfl (ci := 7) (q0 := 0) rfl (WW_0 a K KS st1v_158 (svH hs st) sc1v_230) ct (c_B_times l D a K KS st1v_158 (svH hs st) sc1v_230 H.size) hl.1 rfl (Nat.le_of_ble_eq_true rfl) rfl dL_draws_162 ⟨⟨Nat.le_of_ble_eq_true rfl, Nat.le_of_ble_eq_true rfl⟩, Nat.le_of_ble_eq_true rfl, Nat.le_of_ble_eq_true rfl⟩) rfl rfl (fun r_232 _ H locs hw_233 hP hD hK hS => ?_)
        have hK : va_K D vwCl [(K, .int), (KS, .object "BarcodeWand$State")] s := hK
        have hP : va_P D vwCl ((WW a K KS st1v_158 (svH hs st) sc1v_230)) H := hP
        have hD : va_D A ((WW a K KS st1v_158 (svH hs st) sc1v_230)) := hD
        have hw_233 : r_232 = (nI (s_tn st1v_158)) := hw_233
        have hw_233 := hw_233.symm
        subst hw_233
        refine k_nrm (y := (nI (s_tn st1v_158))) rfl ?_
        refine lv_istore (lv' := [(11, .int (nI (s_tn st1v_158))), (10, .int 1), (9, .int (resF (s_ns st) (s_drw st lf rt 1) (s_tol st))), (8, .int (s_fai st)), (7, .int (s_suc st)), (6, .int (resF (s_ns st) (s_drw st lf rt 1) (s_tol st))), (4, .long (P0 st)), (0, .ref (a 0)), (1, .int lf), (2, .int rt), (3, .int 1)]) hx hb dL_draws_165 hl (by decide) rfl (fun ls hl => ?_)
        refine lv_aload_n hx hb dL_draws_167 rfl (lv_at hl 7 rfl) ?_
        refine lv_iconst (v := 0) hx hb dL_draws_168 (by decide) ?_
        have ct := k_cut_TT (wp := []) (T := (WW a K KS st1v_158 (svH hs st) sc1v_230)) (wc := []) (wr := []) (tc := [(K, .int), (KS, .object "BarcodeWand$State")]) hG hS hA hK hP hD [] [] [0, 1] rfl rfl (by decide) (by decide) (by decide) rfl
        refine k_endi (As := [.ref (a 0), .int 0]) ct (k_runSW (As := [.ref (a 0), .int 0]) (rest := []) S0 Ls_L_147 ct (c_L_time l D a K KS st1v_158 (svH hs st) sc1v_230 0 (inR_in (x := 0) (by omega) (by omega)) H.size) hl.1 rfl (Nat.le_of_ble_eq_true rfl) rfl dL_draws_169 ⟨⟨Nat.le_of_ble_eq_true rfl, Nat.le_of_ble_eq_true rfl⟩, Nat.le_of_ble_eq_true rfl, Nat.le_of_ble_eq_true rfl⟩) rfl rfl (fun r_234 _ H locs hw_235 hP hD hK hS => ?_)
        have hK : va_K D vwCl [(K, .int), (KS, .object "BarcodeWand$State")] s := hK
        have hP : va_P D vwCl ((WW a K KS st1v_158 (svH hs st) sc1v_230)) H := hP
        have hD : va_D A ((WW a K KS st1v_158 (svH hs st) sc1v_230)) := hD
        have hw_235 : r_234 = (rowAt 41 (nI (s_tn st1v_158)) (s_tf st1v_158) 0) := hw_235
        have hw_235 := hw_235.symm
        subst hw_235
        refine k_nrm (y := (rowAt 41 (nI (s_tn st1v_158)) (s_tf st1v_158) 0)) rfl ?_
        refine k_nrm (y := (s_drw st lf rt 1 0)) ((rowAt_lt (i := 0) (by omega) ha3 (by decide)).trans (d6 0 (by omega))) ?_
        refine lv_istore (lv' := [(12, .int (s_drw st lf rt 1 0)), (11, .int (nI (s_tn st1v_158))), (10, .int 1), (9, .int (resF (s_ns st) (s_drw st lf rt 1) (s_tol st))), (8, .int (s_fai st)), (7, .int (s_suc st)), (6, .int (resF (s_ns st) (s_drw st lf rt 1) (s_tol st))), (4, .long (P0 st)), (0, .ref (a 0)), (1, .int lf), (2, .int rt), (3, .int 1)]) hx hb dL_draws_172 hl (by decide) rfl (fun ls hl => ?_)
        refine lv_aload_n hx hb dL_draws_174 rfl (lv_at hl 8 rfl) ?_
        refine lv_iload hx hb dL_draws_175 (lv_at hl 1 rfl) ?_
        refine lv_iconst (v := 1) hx hb dL_draws_177 (by decide) ?_
        refine lv_isub hx hb dL_draws_178 ?_
        refine k_nrm (y := (nI (s_ns st - 1))) (by rw [d5]; exact pk_sub (b := 1) (by omega)) ?_
        have ct := k_cut_TT (wp := []) (T := (WW a K KS st1v_158 (svH hs st) sc1v_230)) (wc := []) (wr := []) (tc := [(K, .int), (KS, .object "BarcodeWand$State")]) hG hS hA hK hP hD [] [] [0, 1] rfl rfl (by decide) (by decide) (by decide) rfl
        refine k_endi (As := [.ref (a 0), .int (nI (s_ns st - 1))]) ct (k_runSW (As := [.ref (a 0), .int (nI (s_ns st - 1))]) (rest := []) S0 Ls_L_147 ct (c_L_time l D a K KS st1v_158 (svH hs st) sc1v_230 (nI (s_ns st - 1)) (inR_in (by omega) (by omega)) H.size) hl.1 rfl (Nat.le_of_ble_eq_true rfl) rfl dL_draws_179 ⟨⟨Nat.le_of_ble_eq_true rfl, Nat.le_of_ble_eq_true rfl⟩, Nat.le_of_ble_eq_true rfl, Nat.le_of_ble_eq_true rfl⟩) rfl rfl (fun r_236 _ H locs hw_237 hP hD hK hS => ?_)
        have hK : va_K D vwCl [(K, .int), (KS, .object "BarcodeWand$State")] s := hK
        have hP : va_P D vwCl ((WW a K KS st1v_158 (svH hs st) sc1v_230)) H := hP
        have hD : va_D A ((WW a K KS st1v_158 (svH hs st) sc1v_230)) := hD
        have hw_237 : r_236 = (rowAt 41 (nI (s_tn st1v_158)) (s_tf st1v_158) (nI (s_ns st - 1))) := hw_237
        have hw_237 := hw_237.symm
        subst hw_237
        refine k_nrm (y := (rowAt 41 (nI (s_tn st1v_158)) (s_tf st1v_158) (nI (s_ns st - 1)))) rfl ?_
        refine k_nrm (y := (s_drw st lf rt 1 (s_ns st - 1))) ((rowAt_lt (by omega) ha3 (by decide)).trans (d6 _ (by omega))) ?_
        refine lv_istore (lv' := [(13, .int (s_drw st lf rt 1 (s_ns st - 1))), (12, .int (s_drw st lf rt 1 0)), (11, .int (nI (s_tn st1v_158))), (10, .int 1), (9, .int (resF (s_ns st) (s_drw st lf rt 1) (s_tol st))), (8, .int (s_fai st)), (7, .int (s_suc st)), (6, .int (resF (s_ns st) (s_drw st lf rt 1) (s_tol st))), (4, .long (P0 st)), (0, .ref (a 0)), (1, .int lf), (2, .int rt), (3, .int 1)]) hx hb dL_draws_182 hl (by decide) rfl (fun ls hl => ?_)
        refine lv_aload_n hx hb dL_draws_184 rfl (lv_at hl 9 rfl) ?_
        refine lv_iload_n hx hb dL_draws_185 rfl (lv_at hl 10 rfl) ?_
        refine lv_iload_n hx hb dL_draws_186 rfl (lv_at hl 11 rfl) ?_
        refine lv_iload_n hx hb dL_draws_187 rfl (lv_at hl 12 rfl) ?_
        refine lv_if_ne (tgt := 195) hx hb dL_draws_188 (by decide) (fun _ => ?_) (fun c9 => absurd c9 (by decide))
        refine lv_iconst (v := 0) hx hb dL_draws_195 (by decide) ?_
        have ct := k_cut_TT (wp := []) (T := (WW a K KS st1v_158 (svH hs st) sc1v_230)) (wc := []) (wr := []) (tc := [(K, .int), (KS, .object "BarcodeWand$State")]) hG hS hA hK hP hD [] [] [0, 1] rfl rfl (by decide) (by decide) (by decide) rfl
        refine k_endi (As := [.ref (a 0), .int lf, .int rt, .int 0]) ct (k_runSW (As := [.ref (a 0), .int lf, .int rt, .int 0]) (rest := []) S0 Ls_L_93 ct (c_L_draw l D a K KS st1v_158 (svH hs st) sc1v_230 lf rt 0 hj1.1 hh1 hp hne1 H.size) hl.1 rfl (Nat.le_of_ble_eq_true rfl) rfl dL_draws_196 ⟨⟨Nat.le_of_ble_eq_true rfl, Nat.le_of_ble_eq_true rfl⟩, Nat.le_of_ble_eq_true rfl, Nat.le_of_ble_eq_true rfl⟩) rfl rfl (fun r_238 u H locs hw_241 hP hD hK hS => ?_)
        obtain ⟨st1v_239, sc1v_240⟩ := u
        have hK : va_K D vwCl [(K, .int), (KS, .object "BarcodeWand$State")] s := hK
        have hP : va_P D vwCl ((WW a K KS st1v_239 (svH (svH hs st) st1v_158) sc1v_240)) H := hP
        have hD : va_D A ((WW a K KS st1v_239 (svH (svH hs st) st1v_158) sc1v_240)) := hD
        have hw_241 : RC (setT (s_ns st1v_158) (cpy (s_drw st1v_158 lf rt 0) (s_tf st1v_158) (s_ns st1v_158)) st1v_158) st1v_239 r_238 := hw_241
        obtain ⟨e0, e1, e2, e3, e4, e5, e6, e7, e8⟩ := drw_out hj1.1 hw_241
        have hj2 := drw_inv hj1 hw_241
        refine k_nrm (y := (resF (s_ns st1v_158) (s_drw st1v_158 lf rt 0) (s_tol st1v_158))) (e0) ?_
        obtain ⟨hc1, hc2, hc3, hc4⟩ := bST_le hj2.1
        have hh2 := okH_sv hh1 hj1.1
        have K2 := stk_push st1v_158 hh1 (Nat.le_of_ble_eq_true rfl) K1
        have hsw : ∀ j, j < s_ns st → s_tf st1v_239 j = s_drw st lf rt 0 j := fun j hj => by rw [e6 j (by omega), hsd]
        have hrv : (resF (s_ns st) (s_drw st lf rt 1) (s_tol st)) = 0 → ¬ 0 < (resF (s_ns st1v_158) (s_drw st1v_158 lf rt 0) (s_tol st1v_158)) := fun q9 => by rw [d3, hsd, d7]; exact res_rev hb2 (fun j hj => drw_rev2 hb2 hj) q9
        refine lv_istore (lv' := [(14, .int (resF (s_ns st1v_158) (s_drw st1v_158 lf rt 0) (s_tol st1v_158))), (13, .int (s_drw st lf rt 1 (s_ns st - 1))), (12, .int (s_drw st lf rt 1 0)), (11, .int (nI (s_tn st1v_158))), (10, .int 1), (9, .int (resF (s_ns st) (s_drw st lf rt 1) (s_tol st))), (8, .int (s_fai st)), (7, .int (s_suc st)), (6, .int (resF (s_ns st) (s_drw st lf rt 1) (s_tol st))), (4, .long (P0 st)), (0, .ref (a 0)), (1, .int lf), (2, .int rt), (3, .int 1)]) hx hb dL_draws_199 hl (by decide) rfl (fun ls hl => ?_)
        refine lv_iload hx hb dL_draws_201 (lv_at hl 4 rfl) ?_
        refine lv_if_eq (tgt := 243) hx hb dL_draws_203 (by decide) (fun c9 => absurd c9 (by decide)) (fun _ => ?_)
        refine lv_aload_n hx hb dL_draws_206 rfl (lv_at hl 10 rfl) ?_
        refine lv_iconst (v := 0) hx hb dL_draws_207 (by decide) ?_
        have ct := k_cut_TT (wp := []) (T := (WW a K KS st1v_239 (svH (svH hs st) st1v_158) sc1v_240)) (wc := []) (wr := []) (tc := [(K, .int), (KS, .object "BarcodeWand$State")]) hG hS hA hK hP hD [] [] [0, 1] rfl rfl (by decide) (by decide) (by decide) rfl
        refine k_endi (As := [.ref (a 0), .int 0]) ct (k_runSW (As := [.ref (a 0), .int 0]) (rest := []) S0 Ls_L_147 ct (c_L_time l D a K KS st1v_239 (svH (svH hs st) st1v_158) sc1v_240 0 (inR_in (x := 0) (by omega) (by omega)) H.size) hl.1 rfl (Nat.le_of_ble_eq_true rfl) rfl dL_draws_208 ⟨⟨Nat.le_of_ble_eq_true rfl, Nat.le_of_ble_eq_true rfl⟩, Nat.le_of_ble_eq_true rfl, Nat.le_of_ble_eq_true rfl⟩) rfl rfl (fun r_242 _ H locs hw_243 hP hD hK hS => ?_)
        have hK : va_K D vwCl [(K, .int), (KS, .object "BarcodeWand$State")] s := hK
        have hP : va_P D vwCl ((WW a K KS st1v_239 (svH (svH hs st) st1v_158) sc1v_240)) H := hP
        have hD : va_D A ((WW a K KS st1v_239 (svH (svH hs st) st1v_158) sc1v_240)) := hD
        have hw_243 : r_242 = (rowAt 41 (nI (s_tn st1v_239)) (s_tf st1v_239) 0) := hw_243
        have hw_243 := hw_243.symm
        subst hw_243
        refine k_nrm (y := (rowAt 41 (nI (s_tn st1v_239)) (s_tf st1v_239) 0)) rfl ?_
        refine k_nrm (y := (s_drw st lf rt 0 0)) ((rowAt_lt (i := 0) (by omega) hc3 (by decide)).trans (hsw 0 (by omega))) ?_
        refine lv_iload hx hb dL_draws_211 (lv_at hl 1 rfl) ?_
        refine lv_icmp_ne (tgt := 243) hx hb dL_draws_213 (by decide) (fun c9 => absurd ((drw_e hb2 (by omega)).2) c9) (fun c_244 => ?_)
        refine lv_aload_n hx hb dL_draws_216 rfl (lv_at hl 10 rfl) ?_
        refine lv_iload hx hb dL_draws_217 (lv_at hl 3 rfl) ?_
        refine lv_iconst (v := 1) hx hb dL_draws_219 (by decide) ?_
        refine lv_isub hx hb dL_draws_220 ?_
        refine k_nrm (y := (nI (s_ns st - 1))) (by rw [d5]; exact pk_sub (b := 1) (by omega)) ?_
        have ct := k_cut_TT (wp := []) (T := (WW a K KS st1v_239 (svH (svH hs st) st1v_158) sc1v_240)) (wc := []) (wr := []) (tc := [(K, .int), (KS, .object "BarcodeWand$State")]) hG hS hA hK hP hD [] [] [0, 1] rfl rfl (by decide) (by decide) (by decide) rfl
        refine k_endi (As := [.ref (a 0), .int (nI (s_ns st - 1))]) ct (k_runSW (As := [.ref (a 0), .int (nI (s_ns st - 1))]) (rest := []) S0 Ls_L_147 ct (c_L_time l D a K KS st1v_239 (svH (svH hs st) st1v_158) sc1v_240 (nI (s_ns st - 1)) (inR_in (by omega) (by omega)) H.size) hl.1 rfl (Nat.le_of_ble_eq_true rfl) rfl dL_draws_221 ⟨⟨Nat.le_of_ble_eq_true rfl, Nat.le_of_ble_eq_true rfl⟩, Nat.le_of_ble_eq_true rfl, Nat.le_of_ble_eq_true rfl⟩) rfl rfl (fun r_245 _ H locs hw_246 hP hD hK hS => ?_)
        have hK : va_K D vwCl [(K, .int), (KS, .object "BarcodeWand$State")] s := hK
        have hP : va_P D vwCl ((WW a K KS st1v_239 (svH (svH hs st) st1v_158) sc1v_240)) H := hP
        have hD : va_D A ((WW a K KS st1v_239 (svH (svH hs st) st1v_158) sc1v_240)) := hD
        have hw_246 : r_245 = (rowAt 41 (nI (s_tn st1v_239)) (s_tf st1v_239) (nI (s_ns st - 1))) := hw_246
        have hw_246 := hw_246.symm
        subst hw_246
        refine k_nrm (y := (rowAt 41 (nI (s_tn st1v_239)) (s_tf st1v_239) (nI (s_ns st - 1)))) rfl ?_
        refine k_nrm (y := (s_drw st lf rt 0 (s_ns st - 1))) ((rowAt_lt (by omega) hc3 (by decide)).trans (hsw _ (by omega))) ?_
        refine lv_iload hx hb dL_draws_224 (lv_at hl 2 rfl) ?_
        refine lv_icmp_ne (tgt := 243) hx hb dL_draws_226 (by decide) (fun c9 => absurd ((drw_e hb2 (by omega)).1.symm) c9) (fun c_247 => ?_)
        refine lv_iload hx hb dL_draws_229 (lv_at hl 5 rfl) ?_
        refine lv_if_ne (tgt := 239) hx hb dL_draws_231 (by decide) (fun c_248 => ?_) (fun c_248 => ?_)
        · have hc9 := c_248
          refine lv_iconst (v := 1) hx hb dL_draws_239 (by decide) ?_
          refine lv_goto (tgt := 244) hx hb dL_draws_240 (by decide) ?_
          refine lv_istore (lv' := [(10, .int 1), (14, .int (resF (s_ns st1v_158) (s_drw st1v_158 lf rt 0) (s_tol st1v_158))), (13, .int (s_drw st lf rt 1 (s_ns st - 1))), (12, .int (s_drw st lf rt 1 0)), (11, .int (nI (s_tn st1v_158))), (9, .int (resF (s_ns st) (s_drw st lf rt 1) (s_tol st))), (8, .int (s_fai st)), (7, .int (s_suc st)), (6, .int (resF (s_ns st) (s_drw st lf rt 1) (s_tol st))), (4, .long (P0 st)), (0, .ref (a 0)), (1, .int lf), (2, .int rt), (3, .int 1)]) hx hb dL_draws_244 hl (by decide) rfl (fun ls hl => ?_)
          refine lv_iload hx hb dL_draws_246 (lv_at hl 0 rfl) ?_
          refine lv_if_eq (tgt := 279) hx hb dL_draws_248 (by decide) (fun c9 => absurd c9 (by decide)) (fun _ => ?_)
          refine lv_aload_n hx hb dL_draws_251 rfl (lv_at hl 10 rfl) ?_
          have ct := k_cut_TT (wp := []) (T := (WW a K KS st1v_239 (svH (svH hs st) st1v_158) sc1v_240)) (wc := []) (wr := []) (tc := [(K, .int), (KS, .object "BarcodeWand$State")]) hG hS hA hK hP hD [] [] [0, 1] rfl rfl (by decide) (by decide) (by decide) rfl
          refine k_endi (As := [.ref (a 0)]) ct (k_runSW (As := [.ref (a 0)]) (rest := []) S0 Ls_L_160 ct (c_L_undo l D a K KS st1v_239 (svH (svH hs st) st1v_158) sc1v_240 hj2.1 hh2 ((stk_pop K2).1) H.size) hl.1 rfl (Nat.le_of_ble_eq_true rfl) rfl dL_draws_252 ⟨⟨Nat.le_of_ble_eq_true rfl, Nat.le_of_ble_eq_true rfl⟩, Nat.le_of_ble_eq_true rfl, Nat.le_of_ble_eq_true rfl⟩) rfl rfl (fun r_249 st1v_250 H locs hw_251 hP hD hK hS => ?_)
          have hK : va_K D vwCl [(K, .int), (KS, .object "BarcodeWand$State")] s := hK
          have hP : va_P D vwCl ((WW a K KS st1v_250 (rsH (svH (svH hs st) st1v_158)) sc1v_240)) H := hP
          have hD : va_D A ((WW a K KS st1v_250 (rsH (svH (svH hs st) st1v_158)) sc1v_240)) := hD
          have hw_251 : r_249 = (nI (h_kp (svH (svH hs st) st1v_158) - 1)) ∧ st1v_250 = rsS (svH (svH hs st) st1v_158) st1v_239 := hw_251
          obtain ⟨u_252a, u_252b⟩ := hw_251
          refine k_nrm (y := (nI (h_kp (svH (svH hs st) st1v_158) - 1))) (u_252a) ?_
          have u_252h := okH_rs hh2
          have u_252c : bST st1v_250 := by rw [u_252b]; exact bST_rs _ hh2
          have u_252k := (stk_pop K2).2.1
          have u_252v := (stk_pop K2).2.2 st1v_239
          rw [← u_252b] at u_252v
          have u_252p : ¬ (nI (h_kp (svH (svH hs st) st1v_158) - 1)) < 0 := nI_pos (by have := kp_6 hh2; omega)
          refine lv_if_lt (tgt := 279) hx hb dL_draws_255 (by decide) (fun c9 => absurd c9 u_252p) (fun c_253 => ?_)
          refine lv_aload_n hx hb dL_draws_258 rfl (lv_at hl 10 rfl) ?_
          have ct := k_cut_TT (wp := []) (T := (WW a K KS st1v_250 (rsH (svH (svH hs st) st1v_158)) sc1v_240)) (wc := []) (wr := []) (tc := [(K, .int), (KS, .object "BarcodeWand$State")]) hG hS hA hK hP hD [] [] [0, 1] rfl rfl (by decide) (by decide) (by decide) rfl
          refine k_endi (As := [.ref (a 0)]) ct (k_runSW (As := [.ref (a 0)]) (rest := []) S0 Ls_L_160 ct (c_L_undo l D a K KS st1v_250 (rsH (svH (svH hs st) st1v_158)) sc1v_240 u_252c u_252h ((stk_pop u_252k).1) H.size) hl.1 rfl (Nat.le_of_ble_eq_true rfl) rfl dL_draws_259 ⟨⟨Nat.le_of_ble_eq_true rfl, Nat.le_of_ble_eq_true rfl⟩, Nat.le_of_ble_eq_true rfl, Nat.le_of_ble_eq_true rfl⟩) rfl rfl (fun r_254 st1v_255 H locs hw_256 hP hD hK hS => ?_)
          have hK : va_K D vwCl [(K, .int), (KS, .object "BarcodeWand$State")] s := hK
          have hP : va_P D vwCl ((WW a K KS st1v_255 (rsH (rsH (svH (svH hs st) st1v_158))) sc1v_240)) H := hP
          have hD : va_D A ((WW a K KS st1v_255 (rsH (rsH (svH (svH hs st) st1v_158))) sc1v_240)) := hD
          have hw_256 : r_254 = (nI (h_kp (rsH (svH (svH hs st) st1v_158)) - 1)) ∧ st1v_255 = rsS (rsH (svH (svH hs st) st1v_158)) st1v_250 := hw_256
          obtain ⟨u_257a, u_257b⟩ := hw_256
          refine k_nrm (y := (nI (h_kp (rsH (svH (svH hs st) st1v_158)) - 1))) (u_257a) ?_
          have u_257h := okH_rs u_252h
          have u_257c : bST st1v_255 := by rw [u_257b]; exact bST_rs _ u_252h
          have u_257k := (stk_pop u_252k).2.1
          have u_257v := (stk_pop u_252k).2.2 st1v_250
          rw [← u_257b] at u_257v
          have u_257p : ¬ (nI (h_kp (rsH (svH (svH hs st) st1v_158)) - 1)) < 0 := nI_pos (by have := kp_6 u_252h; omega)
          refine lv_if_lt (tgt := 279) hx hb dL_draws_262 (by decide) (fun c9 => absurd c9 u_257p) (fun c_258 => ?_)
          refine lv_aload_n hx hb dL_draws_265 rfl (lv_at hl 10 rfl) ?_
          have ct := k_cut_TT (wp := []) (T := (WW a K KS st1v_255 (rsH (rsH (svH (svH hs st) st1v_158))) sc1v_240)) (wc := []) (wr := []) (tc := [(K, .int), (KS, .object "BarcodeWand$State")]) hG hS hA hK hP hD [] [] [0, 1] rfl rfl (by decide) (by decide) (by decide) rfl
          refine k_endl (As := [.ref (a 0)]) ct (k_runS (As := [.ref (a 0)]) (rest := []) S0 Ls_L_153 ct (c_L_print0 l D a K KS st1v_255 (rsH (rsH (svH (svH hs st) st1v_158))) sc1v_240 u_257c H.size) hl.1 rfl (Nat.le_of_ble_eq_true rfl) rfl dL_draws_266 ⟨⟨Nat.le_of_ble_eq_true rfl, Nat.le_of_ble_eq_true rfl⟩, Nat.le_of_ble_eq_true rfl, Nat.le_of_ble_eq_true rfl⟩) rfl rfl (fun r_259 sc1v_260 H locs hw_261 hP hD hK hS => ?_)
          have hK : va_K D vwCl [(K, .int), (KS, .object "BarcodeWand$State")] s := hK
          have hP : va_P D vwCl ((WW a K KS st1v_255 (rsH (rsH (svH (svH hs st) st1v_158))) sc1v_260)) H := hP
          have hD : va_D A ((WW a K KS st1v_255 (rsH (rsH (svH (svH hs st) st1v_158))) sc1v_260)) := hD
          have hw_261 : r_259 = (P0 st1v_255) := hw_261
          have hw_261 := hw_261.symm
          subst hw_261
          refine k_nrml (y := (P0 st1v_255)) rfl ?_
          refine lv_lload hx hb dL_draws_269 (lv_at hl 9 rfl) ?_
          refine W.lcmp hx hb dL_draws_271 ?_
          refine k_nrm (y := 0) ((by rw [P0_view u_257v u_257c]; exact lgc _)) ?_
          refine lv_if_ne (tgt := 279) hx hb dL_draws_272 (by decide) (fun c9 => absurd (by decide) c9) (fun _ => ?_)
          refine lv_iconst (v := 1) hx hb dL_draws_275 (by decide) ?_
          refine lv_goto (tgt := 280) hx hb dL_draws_276 (by decide) ?_
          have hP9 : va_P D vwCl ((WW a K KS st1v_255 (rsH (rsH (svH (svH hs st) st1v_158))) sc1v_260)) H := k_subP (wp := []) (wp' := []) (T := (WW a K KS st1v_255 (rsH (rsH (svH (svH hs st) st1v_158))) sc1v_260)) hP [] rfl
          have hD9 : va_D A ((WW a K KS st1v_255 (rsH (rsH (svH (svH hs st) st1v_158))) sc1v_260)) := k_subD (wp := []) (wp' := []) (T := (WW a K KS st1v_255 (rsH (rsH (svH (svH hs st) st1v_158))) sc1v_260)) hD [] (by decide) rfl
          have hP9 : va_P D vwCl ((WW a K KS st1v_255 (rsH (rsH (svH (svH hs st) st1v_158))) sc1v_260)) H := hP9
          have hD9 : va_D A ((WW a K KS st1v_255 (rsH (rsH (svH (svH hs st) st1v_158))) sc1v_260)) := hD9
          have hK9 : va_K D vwCl [] s := hK.sub [] rfl
          exact W.zret (v := 1) hx hb hr (rfl) (fun t ht9 hW9 => ⟨⟨1, (st1v_255, (rsH (rsH (svH (svH hs st) st1v_158))), sc1v_260), rfl, by (exact ⟨rfl, u_257h, u_257v⟩), ⟨by rw [ht9]; exact hP9, va_K.moved hW9.alike hK9, hD9⟩⟩, hS.F ht9⟩) hS.2.2 dL_draws_280
        · have hc9 := c_248
          refine lv_iload hx hb dL_draws_234 (lv_at hl 0 rfl) ?_
          refine lv_if_gt (tgt := 243) hx hb dL_draws_236 (by decide) (fun c9 => absurd c9 (hrv c_248)) (fun c_262 => ?_)
          refine lv_iconst (v := 1) hx hb dL_draws_239 (by decide) ?_
          refine lv_goto (tgt := 244) hx hb dL_draws_240 (by decide) ?_
          refine lv_istore (lv' := [(10, .int 1), (14, .int (resF (s_ns st1v_158) (s_drw st1v_158 lf rt 0) (s_tol st1v_158))), (13, .int (s_drw st lf rt 1 (s_ns st - 1))), (12, .int (s_drw st lf rt 1 0)), (11, .int (nI (s_tn st1v_158))), (9, .int (resF (s_ns st) (s_drw st lf rt 1) (s_tol st))), (8, .int (s_fai st)), (7, .int (s_suc st)), (6, .int (resF (s_ns st) (s_drw st lf rt 1) (s_tol st))), (4, .long (P0 st)), (0, .ref (a 0)), (1, .int lf), (2, .int rt), (3, .int 1)]) hx hb dL_draws_244 hl (by decide) rfl (fun ls hl => ?_)
          refine lv_iload hx hb dL_draws_246 (lv_at hl 0 rfl) ?_
          refine lv_if_eq (tgt := 279) hx hb dL_draws_248 (by decide) (fun c9 => absurd c9 (by decide)) (fun _ => ?_)
          refine lv_aload_n hx hb dL_draws_251 rfl (lv_at hl 10 rfl) ?_
          have ct := k_cut_TT (wp := []) (T := (WW a K KS st1v_239 (svH (svH hs st) st1v_158) sc1v_240)) (wc := []) (wr := []) (tc := [(K, .int), (KS, .object "BarcodeWand$State")]) hG hS hA hK hP hD [] [] [0, 1] rfl rfl (by decide) (by decide) (by decide) rfl
          refine k_endi (As := [.ref (a 0)]) ct (k_runSW (As := [.ref (a 0)]) (rest := []) S0 Ls_L_160 ct (c_L_undo l D a K KS st1v_239 (svH (svH hs st) st1v_158) sc1v_240 hj2.1 hh2 ((stk_pop K2).1) H.size) hl.1 rfl (Nat.le_of_ble_eq_true rfl) rfl dL_draws_252 ⟨⟨Nat.le_of_ble_eq_true rfl, Nat.le_of_ble_eq_true rfl⟩, Nat.le_of_ble_eq_true rfl, Nat.le_of_ble_eq_true rfl⟩) rfl rfl (fun r_263 st1v_264 H locs hw_265 hP hD hK hS => ?_)
          have hK : va_K D vwCl [(K, .int), (KS, .object "BarcodeWand$State")] s := hK
          have hP : va_P D vwCl ((WW a K KS st1v_264 (rsH (svH (svH hs st) st1v_158)) sc1v_240)) H := hP
          have hD : va_D A ((WW a K KS st1v_264 (rsH (svH (svH hs st) st1v_158)) sc1v_240)) := hD
          have hw_265 : r_263 = (nI (h_kp (svH (svH hs st) st1v_158) - 1)) ∧ st1v_264 = rsS (svH (svH hs st) st1v_158) st1v_239 := hw_265
          obtain ⟨u_266a, u_266b⟩ := hw_265
          refine k_nrm (y := (nI (h_kp (svH (svH hs st) st1v_158) - 1))) (u_266a) ?_
          have u_266h := okH_rs hh2
          have u_266c : bST st1v_264 := by rw [u_266b]; exact bST_rs _ hh2
          have u_266k := (stk_pop K2).2.1
          have u_266v := (stk_pop K2).2.2 st1v_239
          rw [← u_266b] at u_266v
          have u_266p : ¬ (nI (h_kp (svH (svH hs st) st1v_158) - 1)) < 0 := nI_pos (by have := kp_6 hh2; omega)
          refine lv_if_lt (tgt := 279) hx hb dL_draws_255 (by decide) (fun c9 => absurd c9 u_266p) (fun c_267 => ?_)
          refine lv_aload_n hx hb dL_draws_258 rfl (lv_at hl 10 rfl) ?_
          have ct := k_cut_TT (wp := []) (T := (WW a K KS st1v_264 (rsH (svH (svH hs st) st1v_158)) sc1v_240)) (wc := []) (wr := []) (tc := [(K, .int), (KS, .object "BarcodeWand$State")]) hG hS hA hK hP hD [] [] [0, 1] rfl rfl (by decide) (by decide) (by decide) rfl
          refine k_endi (As := [.ref (a 0)]) ct (k_runSW (As := [.ref (a 0)]) (rest := []) S0 Ls_L_160 ct (c_L_undo l D a K KS st1v_264 (rsH (svH (svH hs st) st1v_158)) sc1v_240 u_266c u_266h ((stk_pop u_266k).1) H.size) hl.1 rfl (Nat.le_of_ble_eq_true rfl) rfl dL_draws_259 ⟨⟨Nat.le_of_ble_eq_true rfl, Nat.le_of_ble_eq_true rfl⟩, Nat.le_of_ble_eq_true rfl, Nat.le_of_ble_eq_true rfl⟩) rfl rfl (fun r_268 st1v_269 H locs hw_270 hP hD hK hS => ?_)
          have hK : va_K D vwCl [(K, .int), (KS, .object "BarcodeWand$State")] s := hK
          have hP : va_P D vwCl ((WW a K KS st1v_269 (rsH (rsH (svH (svH hs st) st1v_158))) sc1v_240)) H := hP
          have hD : va_D A ((WW a K KS st1v_269 (rsH (rsH (svH (svH hs st) st1v_158))) sc1v_240)) := hD
          have hw_270 : r_268 = (nI (h_kp (rsH (svH (svH hs st) st1v_158)) - 1)) ∧ st1v_269 = rsS (rsH (svH (svH hs st) st1v_158)) st1v_264 := hw_270
          obtain ⟨u_271a, u_271b⟩ := hw_270
          refine k_nrm (y := (nI (h_kp (rsH (svH (svH hs st) st1v_158)) - 1))) (u_271a) ?_
          have u_271h := okH_rs u_266h
          have u_271c : bST st1v_269 := by rw [u_271b]; exact bST_rs _ u_266h
          have u_271k := (stk_pop u_266k).2.1
          have u_271v := (stk_pop u_266k).2.2 st1v_264
          rw [← u_271b] at u_271v
          have u_271p : ¬ (nI (h_kp (rsH (svH (svH hs st) st1v_158)) - 1)) < 0 := nI_pos (by have := kp_6 u_266h; omega)
          refine lv_if_lt (tgt := 279) hx hb dL_draws_262 (by decide) (fun c9 => absurd c9 u_271p) (fun c_272 => ?_)
          refine lv_aload_n hx hb dL_draws_265 rfl (lv_at hl 10 rfl) ?_
          have ct := k_cut_TT (wp := []) (T := (WW a K KS st1v_269 (rsH (rsH (svH (svH hs st) st1v_158))) sc1v_240)) (wc := []) (wr := []) (tc := [(K, .int), (KS, .object "BarcodeWand$State")]) hG hS hA hK hP hD [] [] [0, 1] rfl rfl (by decide) (by decide) (by decide) rfl
          refine k_endl (As := [.ref (a 0)]) ct (k_runS (As := [.ref (a 0)]) (rest := []) S0 Ls_L_153 ct (c_L_print0 l D a K KS st1v_269 (rsH (rsH (svH (svH hs st) st1v_158))) sc1v_240 u_271c H.size) hl.1 rfl (Nat.le_of_ble_eq_true rfl) rfl dL_draws_266 ⟨⟨Nat.le_of_ble_eq_true rfl, Nat.le_of_ble_eq_true rfl⟩, Nat.le_of_ble_eq_true rfl, Nat.le_of_ble_eq_true rfl⟩) rfl rfl (fun r_273 sc1v_274 H locs hw_275 hP hD hK hS => ?_)
          have hK : va_K D vwCl [(K, .int), (KS, .object "BarcodeWand$State")] s := hK
          have hP : va_P D vwCl ((WW a K KS st1v_269 (rsH (rsH (svH (svH hs st) st1v_158))) sc1v_274)) H := hP
          have hD : va_D A ((WW a K KS st1v_269 (rsH (rsH (svH (svH hs st) st1v_158))) sc1v_274)) := hD
          have hw_275 : r_273 = (P0 st1v_269) := hw_275
          have hw_275 := hw_275.symm
          subst hw_275
          refine k_nrml (y := (P0 st1v_269)) rfl ?_
          refine lv_lload hx hb dL_draws_269 (lv_at hl 9 rfl) ?_
          refine W.lcmp hx hb dL_draws_271 ?_
          refine k_nrm (y := 0) ((by rw [P0_view u_271v u_271c]; exact lgc _)) ?_
          refine lv_if_ne (tgt := 279) hx hb dL_draws_272 (by decide) (fun c9 => absurd (by decide) c9) (fun _ => ?_)
          refine lv_iconst (v := 1) hx hb dL_draws_275 (by decide) ?_
          refine lv_goto (tgt := 280) hx hb dL_draws_276 (by decide) ?_
          have hP9 : va_P D vwCl ((WW a K KS st1v_269 (rsH (rsH (svH (svH hs st) st1v_158))) sc1v_274)) H := k_subP (wp := []) (wp' := []) (T := (WW a K KS st1v_269 (rsH (rsH (svH (svH hs st) st1v_158))) sc1v_274)) hP [] rfl
          have hD9 : va_D A ((WW a K KS st1v_269 (rsH (rsH (svH (svH hs st) st1v_158))) sc1v_274)) := k_subD (wp := []) (wp' := []) (T := (WW a K KS st1v_269 (rsH (rsH (svH (svH hs st) st1v_158))) sc1v_274)) hD [] (by decide) rfl
          have hP9 : va_P D vwCl ((WW a K KS st1v_269 (rsH (rsH (svH (svH hs st) st1v_158))) sc1v_274)) H := hP9
          have hD9 : va_D A ((WW a K KS st1v_269 (rsH (rsH (svH (svH hs st) st1v_158))) sc1v_274)) := hD9
          have hK9 : va_K D vwCl [] s := hK.sub [] rfl
          exact W.zret (v := 1) hx hb hr (rfl) (fun t ht9 hW9 => ⟨⟨1, (st1v_269, (rsH (rsH (svH (svH hs st) st1v_158))), sc1v_274), rfl, by (exact ⟨rfl, u_271h, u_271v⟩), ⟨by rw [ht9]; exact hP9, va_K.moved hW9.alike hK9, hD9⟩⟩, hS.F ht9⟩) hS.2.2 dL_draws_280
