
theorem dL_clean_0 : decode cL_clean 0 = .ok (.aload_n 0, 1) := by decide +kernel
theorem dL_clean_1 : decode cL_clean 1 = .ok (.invokestatic 153, 3) := by decide +kernel
theorem dL_clean_4 : decode cL_clean 4 = .ok (.lstore 4, 2) := by decide +kernel
theorem dL_clean_6 : decode cL_clean 6 = .ok (.aload_n 0, 1) := by decide +kernel
theorem dL_clean_7 : decode cL_clean 7 = .ok (.iload_n 1, 1) := by decide +kernel
theorem dL_clean_8 : decode cL_clean 8 = .ok (.iload_n 2, 1) := by decide +kernel
theorem dL_clean_9 : decode cL_clean 9 = .ok (.invokestatic 77, 3) := by decide +kernel
theorem dL_clean_12 : decode cL_clean 12 = .ok (.istore 6, 2) := by decide +kernel
theorem dL_clean_14 : decode cL_clean 14 = .ok (.iload 6, 2) := by decide +kernel
theorem dL_clean_16 : decode cL_clean 16 = .ok (.ifCond .lt 54, 3) := by decide +kernel
theorem dL_clean_19 : decode cL_clean 19 = .ok (.iload 6, 2) := by decide +kernel
theorem dL_clean_21 : decode cL_clean 21 = .ok (.bipush 10, 2) := by decide +kernel
theorem dL_clean_23 : decode cL_clean 23 = .ok (.if_icmp .ge 47, 3) := by decide +kernel
theorem dL_clean_26 : decode cL_clean 26 = .ok (.aload_n 0, 1) := by decide +kernel
theorem dL_clean_27 : decode cL_clean 27 = .ok (.invokevirtual 96, 3) := by decide +kernel
theorem dL_clean_30 : decode cL_clean 30 = .ok (.iconst 4, 1) := by decide +kernel
theorem dL_clean_31 : decode cL_clean 31 = .ok (.iload_n 2, 1) := by decide +kernel
theorem dL_clean_32 : decode cL_clean 32 = .ok (.imul, 1) := by decide +kernel
theorem dL_clean_33 : decode cL_clean 33 = .ok (.bipush 9, 2) := by decide +kernel
theorem dL_clean_35 : decode cL_clean 35 = .ok (.iadd, 1) := by decide +kernel
theorem dL_clean_36 : decode cL_clean 36 = .ok (.if_icmp .ne 34, 3) := by decide +kernel
theorem dL_clean_39 : decode cL_clean 39 = .ok (.aload_n 0, 1) := by decide +kernel
theorem dL_clean_40 : decode cL_clean 40 = .ok (.iload_n 2, 1) := by decide +kernel
theorem dL_clean_41 : decode cL_clean 41 = .ok (.invokestatic 99, 3) := by decide +kernel
theorem dL_clean_44 : decode cL_clean 44 = .ok (.iload 6, 2) := by decide +kernel
theorem dL_clean_46 : decode cL_clean 46 = .ok (.if_icmp .ne 24, 3) := by decide +kernel
theorem dL_clean_49 : decode cL_clean 49 = .ok (.aload_n 0, 1) := by decide +kernel
theorem dL_clean_50 : decode cL_clean 50 = .ok (.invokestatic 132, 3) := by decide +kernel
theorem dL_clean_53 : decode cL_clean 53 = .ok (.ifCond .eq 17, 3) := by decide +kernel
theorem dL_clean_56 : decode cL_clean 56 = .ok (.aload_n 0, 1) := by decide +kernel
theorem dL_clean_57 : decode cL_clean 57 = .ok (.iload_n 3, 1) := by decide +kernel
theorem dL_clean_58 : decode cL_clean 58 = .ok (.iload_n 3, 1) := by decide +kernel
theorem dL_clean_59 : decode cL_clean 59 = .ok (.iconst 0, 1) := by decide +kernel
theorem dL_clean_60 : decode cL_clean 60 = .ok (.invokestatic 93, 3) := by decide +kernel
theorem dL_clean_63 : decode cL_clean 63 = .ok (.ifCond .ne 7, 3) := by decide +kernel
theorem dL_clean_66 : decode cL_clean 66 = .ok (.iconst 1, 1) := by decide +kernel
theorem dL_clean_67 : decode cL_clean 67 = .ok (.goto 4, 3) := by decide +kernel
theorem dL_clean_70 : decode cL_clean 70 = .ok (.iconst 0, 1) := by decide +kernel
theorem dL_clean_71 : decode cL_clean 71 = .ok (.istore 7, 2) := by decide +kernel
theorem dL_clean_73 : decode cL_clean 73 = .ok (.iconst 0, 1) := by decide +kernel
theorem dL_clean_74 : decode cL_clean 74 = .ok (.istore 8, 2) := by decide +kernel
theorem dL_clean_76 : decode cL_clean 76 = .ok (.iconst 0, 1) := by decide +kernel
theorem dL_clean_77 : decode cL_clean 77 = .ok (.istore 9, 2) := by decide +kernel
theorem dL_clean_79 : decode cL_clean 79 = .ok (.iload 9, 2) := by decide +kernel
theorem dL_clean_81 : decode cL_clean 81 = .ok (.iload_n 2, 1) := by decide +kernel
theorem dL_clean_82 : decode cL_clean 82 = .ok (.if_icmp .gt 50, 3) := by decide +kernel
theorem dL_clean_85 : decode cL_clean 85 = .ok (.iload 7, 2) := by decide +kernel
theorem dL_clean_87 : decode cL_clean 87 = .ok (.ifCond .eq 22, 3) := by decide +kernel
theorem dL_clean_90 : decode cL_clean 90 = .ok (.aload_n 0, 1) := by decide +kernel
theorem dL_clean_91 : decode cL_clean 91 = .ok (.iload 9, 2) := by decide +kernel
theorem dL_clean_93 : decode cL_clean 93 = .ok (.invokestatic 116, 3) := by decide +kernel
theorem dL_clean_96 : decode cL_clean 96 = .ok (.aload_n 0, 1) := by decide +kernel
theorem dL_clean_97 : decode cL_clean 97 = .ok (.iload 9, 2) := by decide +kernel
theorem dL_clean_99 : decode cL_clean 99 = .ok (.invokestatic 99, 3) := by decide +kernel
theorem dL_clean_102 : decode cL_clean 102 = .ok (.if_icmp .ne 7, 3) := by decide +kernel
theorem dL_clean_105 : decode cL_clean 105 = .ok (.iconst 1, 1) := by decide +kernel
theorem dL_clean_106 : decode cL_clean 106 = .ok (.goto 4, 3) := by decide +kernel
theorem dL_clean_109 : decode cL_clean 109 = .ok (.iconst 0, 1) := by decide +kernel
theorem dL_clean_110 : decode cL_clean 110 = .ok (.istore 7, 2) := by decide +kernel
theorem dL_clean_112 : decode cL_clean 112 = .ok (.bipush 10, 2) := by decide +kernel
theorem dL_clean_114 : decode cL_clean 114 = .ok (.iload 8, 2) := by decide +kernel
theorem dL_clean_116 : decode cL_clean 116 = .ok (.imul, 1) := by decide +kernel
theorem dL_clean_117 : decode cL_clean 117 = .ok (.aload_n 0, 1) := by decide +kernel
theorem dL_clean_118 : decode cL_clean 118 = .ok (.iload 9, 2) := by decide +kernel
theorem dL_clean_120 : decode cL_clean 120 = .ok (.invokestatic 99, 3) := by decide +kernel
theorem dL_clean_123 : decode cL_clean 123 = .ok (.iadd, 1) := by decide +kernel
theorem dL_clean_124 : decode cL_clean 124 = .ok (.istore 8, 2) := by decide +kernel
theorem dL_clean_126 : decode cL_clean 126 = .ok (.iinc 9 1, 3) := by decide +kernel
theorem dL_clean_129 : decode cL_clean 129 = .ok (.goto (-50), 3) := by decide +kernel
theorem dL_clean_132 : decode cL_clean 132 = .ok (.iload 7, 2) := by decide +kernel
theorem dL_clean_134 : decode cL_clean 134 = .ok (.ifCond .eq 48, 3) := by decide +kernel
theorem dL_clean_137 : decode cL_clean 137 = .ok (.iload 8, 2) := by decide +kernel
theorem dL_clean_139 : decode cL_clean 139 = .ok (.bipush 10, 2) := by decide +kernel
theorem dL_clean_141 : decode cL_clean 141 = .ok (.iload_n 1, 1) := by decide +kernel
theorem dL_clean_142 : decode cL_clean 142 = .ok (.imul, 1) := by decide +kernel
theorem dL_clean_143 : decode cL_clean 143 = .ok (.iload 6, 2) := by decide +kernel
theorem dL_clean_145 : decode cL_clean 145 = .ok (.iadd, 1) := by decide +kernel
theorem dL_clean_146 : decode cL_clean 146 = .ok (.if_icmp .ne 36, 3) := by decide +kernel
theorem dL_clean_149 : decode cL_clean 149 = .ok (.aload_n 0, 1) := by decide +kernel
theorem dL_clean_150 : decode cL_clean 150 = .ok (.iload_n 3, 1) := by decide +kernel
theorem dL_clean_151 : decode cL_clean 151 = .ok (.iload_n 3, 1) := by decide +kernel
theorem dL_clean_152 : decode cL_clean 152 = .ok (.iconst 1, 1) := by decide +kernel
theorem dL_clean_153 : decode cL_clean 153 = .ok (.invokestatic 93, 3) := by decide +kernel
theorem dL_clean_156 : decode cL_clean 156 = .ok (.iconst (-1), 1) := by decide +kernel
theorem dL_clean_157 : decode cL_clean 157 = .ok (.if_icmp .ne 25, 3) := by decide +kernel
theorem dL_clean_160 : decode cL_clean 160 = .ok (.aload_n 0, 1) := by decide +kernel
theorem dL_clean_161 : decode cL_clean 161 = .ok (.iload_n 2, 1) := by decide +kernel
theorem dL_clean_162 : decode cL_clean 162 = .ok (.invokestatic 116, 3) := by decide +kernel
theorem dL_clean_165 : decode cL_clean 165 = .ok (.iload 6, 2) := by decide +kernel
theorem dL_clean_167 : decode cL_clean 167 = .ok (.if_icmp .ne 15, 3) := by decide +kernel
theorem dL_clean_170 : decode cL_clean 170 = .ok (.aload_n 0, 1) := by decide +kernel
theorem dL_clean_171 : decode cL_clean 171 = .ok (.invokevirtual 110, 3) := by decide +kernel
theorem dL_clean_174 : decode cL_clean 174 = .ok (.iconst 1, 1) := by decide +kernel
theorem dL_clean_175 : decode cL_clean 175 = .ok (.if_icmp .ne 7, 3) := by decide +kernel
theorem dL_clean_178 : decode cL_clean 178 = .ok (.iconst 1, 1) := by decide +kernel
theorem dL_clean_179 : decode cL_clean 179 = .ok (.goto 4, 3) := by decide +kernel
theorem dL_clean_182 : decode cL_clean 182 = .ok (.iconst 0, 1) := by decide +kernel
theorem dL_clean_183 : decode cL_clean 183 = .ok (.istore 7, 2) := by decide +kernel
theorem dL_clean_185 : decode cL_clean 185 = .ok (.iload 7, 2) := by decide +kernel
theorem dL_clean_187 : decode cL_clean 187 = .ok (.ifCond .eq 38, 3) := by decide +kernel
theorem dL_clean_190 : decode cL_clean 190 = .ok (.aload_n 0, 1) := by decide +kernel
theorem dL_clean_191 : decode cL_clean 191 = .ok (.invokestatic 160, 3) := by decide +kernel
theorem dL_clean_194 : decode cL_clean 194 = .ok (.ifCond .lt 31, 3) := by decide +kernel
theorem dL_clean_197 : decode cL_clean 197 = .ok (.aload_n 0, 1) := by decide +kernel
theorem dL_clean_198 : decode cL_clean 198 = .ok (.invokestatic 160, 3) := by decide +kernel
theorem dL_clean_201 : decode cL_clean 201 = .ok (.ifCond .lt 24, 3) := by decide +kernel
theorem dL_clean_204 : decode cL_clean 204 = .ok (.aload_n 0, 1) := by decide +kernel
theorem dL_clean_205 : decode cL_clean 205 = .ok (.invokestatic 160, 3) := by decide +kernel
theorem dL_clean_208 : decode cL_clean 208 = .ok (.ifCond .lt 17, 3) := by decide +kernel
theorem dL_clean_211 : decode cL_clean 211 = .ok (.aload_n 0, 1) := by decide +kernel
theorem dL_clean_212 : decode cL_clean 212 = .ok (.invokestatic 153, 3) := by decide +kernel
theorem dL_clean_215 : decode cL_clean 215 = .ok (.lload 4, 2) := by decide +kernel
theorem dL_clean_217 : decode cL_clean 217 = .ok (.lcmp, 1) := by decide +kernel
theorem dL_clean_218 : decode cL_clean 218 = .ok (.ifCond .ne 7, 3) := by decide +kernel
theorem dL_clean_221 : decode cL_clean 221 = .ok (.iconst 1, 1) := by decide +kernel
theorem dL_clean_222 : decode cL_clean 222 = .ok (.goto 4, 3) := by decide +kernel
theorem dL_clean_225 : decode cL_clean 225 = .ok (.iconst 0, 1) := by decide +kernel
theorem dL_clean_226 : decode cL_clean 226 = .ok (.ireturn, 1) := by decide +kernel
set_option maxHeartbeats 4000000 in
set_option maxRecDepth 100000 in
theorem c_L_clean (l : Launch) (hst : l.stackTraces = false) (D : va_G) (a : Nat → Nat) (K : ClassId) (KS : ClassId) (st : ST) (hs : HT) (sc : SCT) (N : Nat) (dn : Nat) (pp : Nat) (hii : invS N st) (hN : N + 3 < 2 ^ 30) (hh : okH hs) (hdn : dn < 10000) (hp1 : 1 ≤ pp) (hp50 : pp ≤ 50) (sz : Nat) : k_Mi (S := ST × HT × SCT) l D yL_clean cL_clean 10 (some .boolean) 10 2 12 187 [.ref (a 0), .int (nI dn), .int 4, .int (nI pp)] ((WW a K KS st hs sc)) [(K, .int), (KS, .object "BarcodeWand$State")] (fun (r : Int32) (u : ST × HT × SCT) => match u with | (st1, hs1, sc1) => r = 1 ∧ okH hs1 ∧ nrm st1 = nrm st) (fun u => match u with | (st1, hs1, sc1) => ((WW a K KS st1 hs1 sc1))) (fun u => match u with | (st1, hs1, sc1) => []) sz := by
  refine Met.ofW (cc := cL_clean) (maxL := 10) (ret := (some .boolean)) (by decide) rfl ?_
  intro p e s m args below meth c s₁ B hml hv
  obtain ⟨rfl, hsz, hP, hK, hD0, hG⟩ := hv
  have hx := B.exec
  have hb := B.bytes
  have hr := B.returns
  have ht : ∀ v9 ∈ wsA, v9.before ([.ref (a 0), .int (nI dn), .int 4, .int (nI pp)] : List Value).toArray s = true := fun v9 h9 => atoms_spec (ws := k_ws yL_clean cL_clean 10 (some .boolean)) B.pre v9 (List.mem_cons_of_mem _ h9)
  have hown : s.vm.findClass RL = some m.cls := findClass_of_methodNamed B.named
  have S0 : k_C p s m ([.ref (a 0), .int (nI dn), .int 4, .int (nI pp)] : List Value).toArray c cL_clean 10 RL := ⟨hx, hb, hml, hown, ht⟩
  have hlocks := B.notSynchronized
  subst hsz
  have hD := hD0.self (sz := s.heap.size)
  generalize hAe : va_A ((WW a K KS st hs sc)) s.heap.size = A at hD hG ⊢
  have hA : ∀ q : Nat, s.heap.size ≤ q → A q := fun q h => by rw [← hAe]; exact Or.inr h
  have hS : va_S A s.heap s.heap [] := va_S.rf
  have hl := lv_entry ([.ref (a 0), .int (nI dn), .int 4, .int (nI pp)]) (n := 10) (Nat.le_of_ble_eq_true rfl)
  rw [lg_entry_eq]
  generalize (lg_sl ([.ref (a 0), .int (nI dn), .int 4, .int (nI pp)]) ++ List.replicate (10 - (lg_sl ([.ref (a 0), .int (nI dn), .int 4, .int (nI pp)])).length) Slot.unset).toArray = ls at hl ⊢
  have hl : lv_has ls 10 [(0, .ref (a 0)), (1, .int (nI dn)), (2, .int 4), (3, .int (nI pp))] := hl
  have hP : va_P D vwCl ((WW a K KS st hs sc)) s.heap := hP
  obtain ⟨hb1, hb2, hb3, hb4⟩ := bST_le hii.1
  have hl : lv_has ls 10 [(0, .ref (a 0)), (1, .int (nI dn)), (2, .int (nI 4)), (3, .int (nI pp))] := hl
  refine lv_aload_n hx hb dL_clean_0 rfl (lv_at hl 0 rfl) ?_
  have ct := k_cut_TT (wp := []) (T := (WW a K KS st hs sc)) (wc := []) (wr := []) (tc := [(K, .int), (KS, .object "BarcodeWand$State")]) hG hS hA hK hP hD [] [] [0, 1] rfl rfl (by decide) (by decide) (by decide) rfl
  refine k_endl (As := [.ref (a 0)]) ct (k_runS (As := [.ref (a 0)]) (rest := []) S0 Ls_L_153 ct (c_L_print0 l D a K KS st hs sc hii.1 s.heap.size) hl.1 rfl (Nat.le_of_ble_eq_true rfl) rfl dL_clean_1 ⟨⟨Nat.le_of_ble_eq_true rfl, Nat.le_of_ble_eq_true rfl⟩, Nat.le_of_ble_eq_true rfl, Nat.le_of_ble_eq_true rfl⟩) rfl rfl (fun r_1 sc1v_2 H locs hw_3 hP hD hK hS => ?_)
  have hK : va_K D vwCl [(K, .int), (KS, .object "BarcodeWand$State")] s := hK
  have hP : va_P D vwCl ((WW a K KS st hs sc1v_2)) H := hP
  have hD : va_D A ((WW a K KS st hs sc1v_2)) := hD
  have hw_3 : r_1 = (P0 st) := hw_3
  have hw_3 := hw_3.symm
  subst hw_3
  refine k_nrml (y := (P0 st)) rfl ?_
  refine lv_lstore (lv' := [(4, .long (P0 st)), (0, .ref (a 0)), (1, .int (nI dn)), (2, .int (nI 4)), (3, .int (nI pp))]) hx hb dL_clean_4 hl (by decide) rfl (fun ls hl => ?_)
  refine lv_aload_n hx hb dL_clean_6 rfl (lv_at hl 1 rfl) ?_
  refine lv_iload_n hx hb dL_clean_7 rfl (lv_at hl 2 rfl) ?_
  refine lv_iload_n hx hb dL_clean_8 rfl (lv_at hl 3 rfl) ?_
  have ct := k_cut_TT (wp := []) (T := (WW a K KS st hs sc1v_2)) (wc := []) (wr := []) (tc := [(K, .int), (KS, .object "BarcodeWand$State")]) hG hS hA hK hP hD [] [] [0, 1] rfl rfl (by decide) (by decide) (by decide) rfl
  refine k_endi (As := [.ref (a 0), .int (nI dn), .int (nI 4)]) ct (k_runSW (As := [.ref (a 0), .int (nI dn), .int (nI 4)]) (rest := []) S0 Ls_L_77 ct (c_L_print l D a K KS st hs sc1v_2 (nI dn) 4 hii.1 hh (by decide) (by decide) (nI_pos (by omega)) (pw_lt (k := 4) hdn (by decide) (by decide)) H.size) hl.1 rfl (Nat.le_of_ble_eq_true rfl) rfl dL_clean_9 ⟨⟨Nat.le_of_ble_eq_true rfl, Nat.le_of_ble_eq_true rfl⟩, Nat.le_of_ble_eq_true rfl, Nat.le_of_ble_eq_true rfl⟩) rfl rfl (fun r_4 _ H locs hw_5 hP hD hK hS => ?_)
  have hK : va_K D vwCl [(K, .int), (KS, .object "BarcodeWand$State")] s := hK
  have hP : va_P D vwCl ((WW a K KS (setP (nI dn) 4 st) (svH hs st) sc1v_2)) H := hP
  have hD : va_D A ((WW a K KS (setP (nI dn) 4 st) (svH hs st) sc1v_2)) := hD
  have hw_5 : r_4 = (chkd (cS (nI dn) 4)) := hw_5
  have hw_5 := hw_5.symm
  subst hw_5
  refine k_nrm (y := (chkd (cS (nI dn) 4))) rfl ?_
  obtain ⟨k1, k2, k3, k4, k5, k6, k7⟩ := setP_k (n := dn) (j := 4) (x := st)
  have hcl := cl_P (x := st) (show dn < 2 ^ 31 by omega)
  obtain ⟨ck, hck9, hcke⟩ := lbD_all (df := s_df st) (show dn < 2 ^ 31 by omega) (show 4 ≤ 8 by decide) 4 (by decide)
  refine k_nrm (y := (nI ck)) (lbD_c.symm.trans hcke) ?_
  have hj1 := setP_inv (j := 4) hii (show dn < 2 ^ 31 by omega) (by decide) (by decide)
  have hh1 := okH_sv hh hii.1
  have K1 := stk_push st hh (Nat.le_of_ble_eq_true rfl) (stk_nil hs)
  refine lv_istore (lv' := [(6, .int (nI ck)), (4, .long (P0 st)), (0, .ref (a 0)), (1, .int (nI dn)), (2, .int (nI 4)), (3, .int (nI pp))]) hx hb dL_clean_12 hl (by decide) rfl (fun ls hl => ?_)
  refine lv_iload hx hb dL_clean_14 (lv_at hl 0 rfl) ?_
  refine lv_if_lt (tgt := 70) hx hb dL_clean_16 (by decide) (fun c9 => absurd c9 (nI_pos (by omega))) (fun c_6 => ?_)
  refine lv_iload hx hb dL_clean_19 (lv_at hl 0 rfl) ?_
  refine lv_bipush (v := 10) hx hb dL_clean_21 (by decide) ?_
  refine lv_icmp_ge (tgt := 70) hx hb dL_clean_23 (by decide) (fun c9 => absurd c9 (nI_ge (a := ck) (b := 10) (by omega) (by decide))) (fun c_7 => ?_)
  refine lv_aload_n hx hb dL_clean_26 rfl (lv_at hl 2 rfl) ?_
  have ct := k_cut_TT (wp := []) (T := (WW a K KS (setP (nI dn) 4 st) (svH hs st) sc1v_2)) (wc := []) (wr := []) (tc := [(K, .int), (KS, .object "BarcodeWand$State")]) hG hS hA hK hP hD [] [] [0, 1] rfl rfl (by decide) (by decide) (by decide) rfl
  refine k_endi (As := [.ref (a 0)]) ct (k_runV (As := []) (rest := []) S0 Lv_L_96 rfl (ci := 7) (q0 := 0) rfl (WW_0 a K KS (setP (nI dn) 4 st) (svH hs st) sc1v_2) ct (c_B_elements l D a K KS (setP (nI dn) 4 st) (svH hs st) sc1v_2 H.size) hl.1 rfl (Nat.le_of_ble_eq_true rfl) rfl dL_clean_27 ⟨⟨Nat.le_of_ble_eq_true rfl, Nat.le_of_ble_eq_true rfl⟩, Nat.le_of_ble_eq_true rfl, Nat.le_of_ble_eq_true rfl⟩) rfl rfl (fun r_8 _ H locs hw_9 hP hD hK hS => ?_)
  have hK : va_K D vwCl [(K, .int), (KS, .object "BarcodeWand$State")] s := hK
  have hP : va_P D vwCl ((WW a K KS (setP (nI dn) 4 st) (svH hs st) sc1v_2)) H := hP
  have hD : va_D A ((WW a K KS (setP (nI dn) 4 st) (svH hs st) sc1v_2)) := hD
  have hw_9 : r_8 = (nI (s_ns (setP (nI dn) 4 st))) := hw_9
  have hw_9 := hw_9.symm
  subst hw_9
  refine k_nrm (y := (nI (s_ns (setP (nI dn) 4 st)))) rfl ?_
  refine lv_iconst (v := 4) hx hb dL_clean_30 (by decide) ?_
  refine lv_iload_n hx hb dL_clean_31 rfl (lv_at hl 4 rfl) ?_
  refine lv_imul hx hb dL_clean_32 ?_
  refine k_nrm (y := (nI 16)) (pk_mul 4 4) ?_
  refine lv_bipush (v := 9) hx hb dL_clean_33 (by decide) ?_
  refine lv_iadd hx hb dL_clean_35 ?_
  refine k_nrm (y := (nI 25)) (nI_add 16 9) ?_
  refine lv_icmp_ne (tgt := 70) hx hb dL_clean_36 (by decide) (fun c9 => absurd (congrArg nI k3) c9) (fun c_10 => ?_)
  refine lv_aload_n hx hb dL_clean_39 rfl (lv_at hl 2 rfl) ?_
  refine lv_iload_n hx hb dL_clean_40 rfl (lv_at hl 4 rfl) ?_
  have ct := k_cut_TT (wp := []) (T := (WW a K KS (setP (nI dn) 4 st) (svH hs st) sc1v_2)) (wc := []) (wr := []) (tc := [(K, .int), (KS, .object "BarcodeWand$State")]) hG hS hA hK hP hD [] [] [0, 1] rfl rfl (by decide) (by decide) (by decide) rfl
  refine k_endi (As := [.ref (a 0), .int (nI 4)]) ct (k_runSW (As := [.ref (a 0), .int (nI 4)]) (rest := []) S0 Ls_L_99 ct (c_L_labelDigit l D a K KS (setP (nI dn) 4 st) (svH hs st) sc1v_2 (nI 4) (inR_in (x := 4) (by rw [k1]; decide) (by rw [k1]; decide)) H.size) hl.1 rfl (Nat.le_of_ble_eq_true rfl) rfl dL_clean_41 ⟨⟨Nat.le_of_ble_eq_true rfl, Nat.le_of_ble_eq_true rfl⟩, Nat.le_of_ble_eq_true rfl, Nat.le_of_ble_eq_true rfl⟩) rfl rfl (fun r_11 _ H locs hw_12 hP hD hK hS => ?_)
  have hK : va_K D vwCl [(K, .int), (KS, .object "BarcodeWand$State")] s := hK
  have hP : va_P D vwCl ((WW a K KS (setP (nI dn) 4 st) (svH hs st) sc1v_2)) H := hP
  have hD : va_D A ((WW a K KS (setP (nI dn) 4 st) (svH hs st) sc1v_2)) := hD
  have hw_12 : r_11 = (rowAt 9 (nI (s_nd (setP (nI dn) 4 st))) (s_df (setP (nI dn) 4 st)) (nI 4)) := hw_12
  have hw_12 := hw_12.symm
  subst hw_12
  refine k_nrm (y := (rowAt 9 (nI (s_nd (setP (nI dn) 4 st))) (s_df (setP (nI dn) 4 st)) (nI 4))) rfl ?_
  refine k_nrm (y := (nI ck)) ((rowAt_lt (i := 4) (by rw [k1]; decide) (by rw [k1]; decide) (by decide)).trans ((congrFun k2 4).trans hcke)) ?_
  refine lv_iload hx hb dL_clean_44 (lv_at hl 0 rfl) ?_
  refine lv_icmp_ne (tgt := 70) hx hb dL_clean_46 (by decide) (fun c9 => absurd rfl c9) (fun c_13 => ?_)
  refine lv_aload_n hx hb dL_clean_49 rfl (lv_at hl 2 rfl) ?_
  have ct := k_cut_TT (wp := []) (T := (WW a K KS (setP (nI dn) 4 st) (svH hs st) sc1v_2)) (wc := []) (wr := []) (tc := [(K, .int), (KS, .object "BarcodeWand$State")]) hG hS hA hK hP hD [] [] [0, 1] rfl rfl (by decide) (by decide) (by decide) rfl
  refine k_endi (As := [.ref (a 0)]) ct (k_runS (As := [.ref (a 0)]) (rest := []) S0 Ls_L_132 ct (c_L_label l hst D a K KS (setP (nI dn) 4 st) (svH hs st) sc1v_2 hj1.1 hj1.2.1 H.size) hl.1 rfl (Nat.le_of_ble_eq_true rfl) rfl dL_clean_50 ⟨⟨Nat.le_of_ble_eq_true rfl, Nat.le_of_ble_eq_true rfl⟩, Nat.le_of_ble_eq_true rfl, Nat.le_of_ble_eq_true rfl⟩) rfl rfl (fun r_14 _ H locs hw_15 hP hD hK hS => ?_)
  have hK : va_K D vwCl [(K, .int), (KS, .object "BarcodeWand$State")] s := hK
  have hP : va_P D vwCl ((WW a K KS (setP (nI dn) 4 st) (svH hs st) sc1v_2)) H := hP
  have hD : va_D A ((WW a K KS (setP (nI dn) 4 st) (svH hs st) sc1v_2)) := hD
  have hw_15 : r_14 = 1 := hw_15
  have hw_15 := hw_15.symm
  subst hw_15
  refine k_nrm (y := 1) rfl ?_
  refine lv_if_eq (tgt := 70) hx hb dL_clean_53 (by decide) (fun c9 => absurd c9 (by decide)) (fun _ => ?_)
  refine lv_aload_n hx hb dL_clean_56 rfl (lv_at hl 2 rfl) ?_
  refine lv_iload_n hx hb dL_clean_57 rfl (lv_at hl 5 rfl) ?_
  refine lv_iload_n hx hb dL_clean_58 rfl (lv_at hl 5 rfl) ?_
  refine lv_iconst (v := 0) hx hb dL_clean_59 (by decide) ?_
  have ct := k_cut_TT (wp := []) (T := (WW a K KS (setP (nI dn) 4 st) (svH hs st) sc1v_2)) (wc := []) (wr := []) (tc := [(K, .int), (KS, .object "BarcodeWand$State")]) hG hS hA hK hP hD [] [] [0, 1] rfl rfl (by decide) (by decide) (by decide) rfl
  refine k_endi (As := [.ref (a 0), .int (nI pp), .int (nI pp), .int 0]) ct (k_runSW (As := [.ref (a 0), .int (nI pp), .int (nI pp), .int 0]) (rest := []) S0 Ls_L_93 ct (c_L_draw l D a K KS (setP (nI dn) 4 st) (svH hs st) sc1v_2 (nI pp) (nI pp) 0 hj1.1 hh1 (per_nI hp1 hp50) (by rw [k3]; decide) H.size) hl.1 rfl (Nat.le_of_ble_eq_true rfl) rfl dL_clean_60 ⟨⟨Nat.le_of_ble_eq_true rfl, Nat.le_of_ble_eq_true rfl⟩, Nat.le_of_ble_eq_true rfl, Nat.le_of_ble_eq_true rfl⟩) rfl rfl (fun r_16 u H locs hw_19 hP hD hK hS => ?_)
  obtain ⟨st1v_17, sc1v_18⟩ := u
  have hK : va_K D vwCl [(K, .int), (KS, .object "BarcodeWand$State")] s := hK
  have hP : va_P D vwCl ((WW a K KS st1v_17 (svH (svH hs st) (setP (nI dn) 4 st)) sc1v_18)) H := hP
  have hD : va_D A ((WW a K KS st1v_17 (svH (svH hs st) (setP (nI dn) 4 st)) sc1v_18)) := hD
  have hw_19 : RC (setT (s_ns (setP (nI dn) 4 st)) (cpy (s_drw (setP (nI dn) 4 st) (nI pp) (nI pp) 0) (s_tf (setP (nI dn) 4 st)) (s_ns (setP (nI dn) 4 st))) (setP (nI dn) 4 st)) st1v_17 r_16 := hw_19
  obtain ⟨d0, d1, d2, d3, d4, d5, d6, d7, d8⟩ := drw_out hj1.1 hw_19
  have hj2 := drw_inv hj1 hw_19
  obtain ⟨t, t1, t8, te⟩ := hj1.2.2.1
  refine k_nrm (y := 0) (d0.trans (by rw [k3, te]; exact (cl_0 hcl hp1 hp50 t8 (fun _ _ => rfl)).1)) ?_
  have hC0 := cl_0 hcl hp1 hp50 t8 (T := s_tf st1v_17) (fun j hj => d6 j (by rw [k3]; exact hj))
  have htn2 : s_tn st1v_17 = 25 := d5.trans k3
  have hto2 : s_tol st1v_17 = nI t := d7.trans te
  have hnd2 : s_nd st1v_17 = 5 := d1.trans k1
  have hdf2 : s_df st1v_17 = lbD dn 4 (s_df st) := d2.trans k2
  have hns2 : s_ns st1v_17 = 25 := d3.trans k3
  have hsd2 : s_drw st1v_17 = s_drw (setP (nI dn) 4 st) := by unfold s_drw; rw [d1, d2, d3, d4]
  have hdg2 : ∀ k, k < 5 → digR (s_tn st1v_17) (s_tf st1v_17) (s_tol st1v_17) k = lbD dn 4 (s_df st) k := fun k hk => by rw [htn2, hto2, hC0.2 k hk, k2]
  have hh2 := okH_sv hh1 hj1.1
  have K2 := stk_push (setP (nI dn) 4 st) hh1 (Nat.le_of_ble_eq_true rfl) K1
  refine lv_if_ne (tgt := 70) hx hb dL_clean_63 (by decide) (fun c9 => absurd (by decide) c9) (fun _ => ?_)
  refine lv_iconst (v := 1) hx hb dL_clean_66 (by decide) ?_
  refine lv_goto (tgt := 71) hx hb dL_clean_67 (by decide) ?_
  refine lv_istore (lv' := [(7, .int 1), (6, .int (nI ck)), (4, .long (P0 st)), (0, .ref (a 0)), (1, .int (nI dn)), (2, .int (nI 4)), (3, .int (nI pp))]) hx hb dL_clean_71 hl (by decide) rfl (fun ls hl => ?_)
  refine lv_iconst (v := 0) hx hb dL_clean_73 (by decide) ?_
  refine lv_istore (lv' := [(8, .int 0), (7, .int 1), (6, .int (nI ck)), (4, .long (P0 st)), (0, .ref (a 0)), (1, .int (nI dn)), (2, .int (nI 4)), (3, .int (nI pp))]) hx hb dL_clean_74 hl (by decide) rfl (fun ls hl => ?_)
  refine lv_iconst (v := 0) hx hb dL_clean_76 (by decide) ?_
  refine lv_istore (lv' := [(9, .int 0), (8, .int 0), (7, .int 1), (6, .int (nI ck)), (4, .long (P0 st)), (0, .ref (a 0)), (1, .int (nI dn)), (2, .int (nI 4)), (3, .int (nI pp))]) hx hb dL_clean_77 hl (by decide) rfl (fun ls hl => ?_)
  have hl : lv_has ls 10 [(9, .int (nI 0)), (8, .int 0), (7, .int 1), (6, .int (nI ck)), (4, .long (P0 st)), (0, .ref (a 0)), (1, .int (nI dn)), (2, .int (nI 4)), (3, .int (nI pp))] := hl
  have hl : lv_has ls 10 [(9, .int (nI 0)), (8, .int (numF (lbD dn 4 (s_df st)) 0)), (7, .int 1), (6, .int (nI ck)), (4, .long (P0 st)), (0, .ref (a 0)), (1, .int (nI dn)), (2, .int (nI 4)), (3, .int (nI pp))] := hl
  refine k_loop (ι := Nat × SCT) (fun (x9 : Nat × SCT) H9 locs9 ls9 => match x9 with | (i, z) => (i ≤ 5) ∧ va_P D vwCl ((WW a K KS st1v_17 (svH (svH hs st) (setP (nI dn) 4 st)) z)) H9 ∧ va_D A ((WW a K KS st1v_17 (svH (svH hs st) (setP (nI dn) 4 st)) z)) ∧ va_S A s.heap H9 locs9 ∧ lv_has ls9 10 [(9, .int (nI i)), (8, .int (numF (lbD dn 4 (s_df st)) i)), (7, .int 1), (6, .int (nI ck)), (4, .long (P0 st)), (3, .int (nI pp)), (2, .int (nI 4)), (1, .int (nI dn)), (0, .ref (a 0))]) (fun (x9 : Nat × SCT) => match x9 with | (i, z) => 5 - i) ?_ ((0, sc1v_18)) ⟨(Nat.zero_le _), k_subP (wp := []) (wp' := []) (T := (WW a K KS st1v_17 (svH (svH hs st) (setP (nI dn) 4 st)) sc1v_18)) hP [] rfl, k_subD (wp := []) (wp' := []) (T := (WW a K KS st1v_17 (svH (svH hs st) (setP (nI dn) 4 st)) sc1v_18)) hD [] (by decide) rfl, hS, lv_sub hl [0, 1, 2, 3, 4, 8, 7, 6, 5] rfl⟩
  intro x9 H locs ls hF9 ih9
  obtain ⟨i, z⟩ := x9
  obtain ⟨hi, hP, hD, hS, hl⟩ := hF9
  try dsimp only at ih9
  have hP : va_P D vwCl ((WW a K KS st1v_17 (svH (svH hs st) (setP (nI dn) 4 st)) z)) H := hP
  have hD : va_D A ((WW a K KS st1v_17 (svH (svH hs st) (setP (nI dn) 4 st)) z)) := hD
  have hl : lv_has ls 10 [(9, .int (nI i)), (8, .int (numF (lbD dn 4 (s_df st)) i)), (7, .int 1), (6, .int (nI ck)), (4, .long (P0 st)), (3, .int (nI pp)), (2, .int (nI 4)), (1, .int (nI dn)), (0, .ref (a 0))] := hl
  refine lv_iload hx hb dL_clean_79 (lv_at hl 0 rfl) ?_
  refine lv_iload_n hx hb dL_clean_81 rfl (lv_at hl 6 rfl) ?_
  refine lv_icmp_gt (tgt := 132) hx hb dL_clean_82 (by decide) (fun c_20 => ?_) (fun c_20 => ?_)
  · have hc9 := c_20
    obtain rfl : 5 = i := by rcases Nat.lt_or_ge 4 i with q9 | q9; omega; exact absurd c_20 (nI_nlt q9 (by decide))
    refine lv_iload hx hb dL_clean_132 (lv_at hl 2 rfl) ?_
    refine lv_if_eq (tgt := 182) hx hb dL_clean_134 (by decide) (fun c9 => absurd c9 (by decide)) (fun _ => ?_)
    refine lv_iload hx hb dL_clean_137 (lv_at hl 1 rfl) ?_
    refine lv_bipush (v := 10) hx hb dL_clean_139 (by decide) ?_
    refine lv_iload_n hx hb dL_clean_141 rfl (lv_at hl 7 rfl) ?_
    refine lv_imul hx hb dL_clean_142 ?_
    refine k_nrm (y := (nI (10 * dn))) (pk_mul 10 dn) ?_
    refine lv_iload hx hb dL_clean_143 (lv_at hl 3 rfl) ?_
    refine lv_iadd hx hb dL_clean_145 ?_
    refine k_nrm (y := (nI (10 * dn + ck))) (nI_add _ _) ?_
    refine lv_icmp_ne (tgt := 182) hx hb dL_clean_146 (by decide) (fun c9 => absurd (num_cl hdn hcke) c9) (fun c_21 => ?_)
    refine lv_aload_n hx hb dL_clean_149 rfl (lv_at hl 8 rfl) ?_
    refine lv_iload_n hx hb dL_clean_150 rfl (lv_at hl 5 rfl) ?_
    refine lv_iload_n hx hb dL_clean_151 rfl (lv_at hl 5 rfl) ?_
    refine lv_iconst (v := 1) hx hb dL_clean_152 (by decide) ?_
    have ct := k_cut_TT (wp := []) (T := (WW a K KS st1v_17 (svH (svH hs st) (setP (nI dn) 4 st)) z)) (wc := []) (wr := []) (tc := [(K, .int), (KS, .object "BarcodeWand$State")]) hG hS hA hK hP hD [] [] [0, 1] rfl rfl (by decide) (by decide) (by decide) rfl
    refine k_endi (As := [.ref (a 0), .int (nI pp), .int (nI pp), .int 1]) ct (k_runSW (As := [.ref (a 0), .int (nI pp), .int (nI pp), .int 1]) (rest := []) S0 Ls_L_93 ct (c_L_draw l D a K KS st1v_17 (svH (svH hs st) (setP (nI dn) 4 st)) z (nI pp) (nI pp) 1 hj2.1 hh2 (per_nI hp1 hp50) (by rw [hns2]; decide) H.size) hl.1 rfl (Nat.le_of_ble_eq_true rfl) rfl dL_clean_153 ⟨⟨Nat.le_of_ble_eq_true rfl, Nat.le_of_ble_eq_true rfl⟩, Nat.le_of_ble_eq_true rfl, Nat.le_of_ble_eq_true rfl⟩) rfl rfl (fun r_22 u H locs hw_25 hP hD hK hS => ?_)
    obtain ⟨st1v_23, sc1v_24⟩ := u
    have hK : va_K D vwCl [(K, .int), (KS, .object "BarcodeWand$State")] s := hK
    have hP : va_P D vwCl ((WW a K KS st1v_23 (svH (svH (svH hs st) (setP (nI dn) 4 st)) st1v_17) sc1v_24)) H := hP
    have hD : va_D A ((WW a K KS st1v_23 (svH (svH (svH hs st) (setP (nI dn) 4 st)) st1v_17) sc1v_24)) := hD
    have hw_25 : RC (setT (s_ns st1v_17) (cpy (s_drw st1v_17 (nI pp) (nI pp) 1) (s_tf st1v_17) (s_ns st1v_17)) st1v_17) st1v_23 r_22 := hw_25
    obtain ⟨e0, e1, e2, e3, e4, e5, e6, e7, e8⟩ := drw_out hj2.1 hw_25
    have hj3 := drw_inv hj2 hw_25
    refine k_nrm (y := (-1)) (e0.trans (by rw [hns2, hsd2, hto2]; exact (cl_1 hcl hp1 hp50 t8 (fun _ _ => rfl)).1)) ?_
    have hC1 := cl_1 hcl hp1 hp50 t8 (T := s_tf st1v_23) (fun j hj => by rw [e6 j (by rw [hns2]; exact hj), hsd2])
    have hL := cl_lea hcl hp1 hp50 (T := s_tf st1v_23) (fun j hj => by rw [e6 j (by rw [hns2]; exact hj), hsd2])
    have htn3 : s_tn st1v_23 = 25 := e5.trans hns2
    have hto3 : s_tol st1v_23 = nI t := e7.trans hto2
    have hh3 := okH_sv hh2 hj2.1
    have K3 := stk_push st1v_17 hh2 (Nat.le_of_ble_eq_true rfl) K2
    refine lv_iconst (v := (-1)) hx hb dL_clean_156 (by decide) ?_
    refine lv_icmp_ne (tgt := 182) hx hb dL_clean_157 (by decide) (fun c9 => absurd (by decide) c9) (fun _ => ?_)
    refine lv_aload_n hx hb dL_clean_160 rfl (lv_at hl 8 rfl) ?_
    refine lv_iload_n hx hb dL_clean_161 rfl (lv_at hl 6 rfl) ?_
    have ct := k_cut_TT (wp := []) (T := (WW a K KS st1v_23 (svH (svH (svH hs st) (setP (nI dn) 4 st)) st1v_17) sc1v_24)) (wc := []) (wr := []) (tc := [(K, .int), (KS, .object "BarcodeWand$State")]) hG hS hA hK hP hD [] [] [0, 1] rfl rfl (by decide) (by decide) (by decide) rfl
    refine k_endi (As := [.ref (a 0), .int (nI 4)]) ct (k_runSW (As := [.ref (a 0), .int (nI 4)]) (rest := []) S0 Ls_L_116 ct (c_L_digit l D a K KS st1v_23 (svH (svH (svH hs st) (setP (nI dn) 4 st)) st1v_17) sc1v_24 4 hj3.1 (by decide) H.size) hl.1 rfl (Nat.le_of_ble_eq_true rfl) rfl dL_clean_162 ⟨⟨Nat.le_of_ble_eq_true rfl, Nat.le_of_ble_eq_true rfl⟩, Nat.le_of_ble_eq_true rfl, Nat.le_of_ble_eq_true rfl⟩) rfl rfl (fun r_26 sc1v_27 H locs hw_28 hP hD hK hS => ?_)
    have hK : va_K D vwCl [(K, .int), (KS, .object "BarcodeWand$State")] s := hK
    have hP : va_P D vwCl ((WW a K KS st1v_23 (svH (svH (svH hs st) (setP (nI dn) 4 st)) st1v_17) sc1v_27)) H := hP
    have hD : va_D A ((WW a K KS st1v_23 (svH (svH (svH hs st) (setP (nI dn) 4 st)) st1v_17) sc1v_27)) := hD
    have hw_28 : r_26 = digR (s_tn st1v_23) (s_tf st1v_23) (s_tol st1v_23) 4 := hw_28
    have hw_28 := hw_28.symm
    subst hw_28
    refine k_nrm (y := digR (s_tn st1v_23) (s_tf st1v_23) (s_tol st1v_23) 4) rfl ?_
    refine k_nrm (y := (nI ck)) (by rw [htn3, hto3, hC1.2 4 (by decide), k2]; exact hcke) ?_
    refine lv_iload hx hb dL_clean_165 (lv_at hl 3 rfl) ?_
    refine lv_icmp_ne (tgt := 182) hx hb dL_clean_167 (by decide) (fun c9 => absurd rfl c9) (fun c_29 => ?_)
    refine lv_aload_n hx hb dL_clean_170 rfl (lv_at hl 8 rfl) ?_
    have ct := k_cut_TT (wp := []) (T := (WW a K KS st1v_23 (svH (svH (svH hs st) (setP (nI dn) 4 st)) st1v_17) sc1v_27)) (wc := []) (wr := []) (tc := [(K, .int), (KS, .object "BarcodeWand$State")]) hG hS hA hK hP hD [] [] [0, 1] rfl rfl (by decide) (by decide) (by decide) rfl
    refine k_endi (As := [.ref (a 0)]) ct (k_runV (As := []) (rest := []) S0 Lv_L_110 rfl (ci := 7) (q0 := 0) rfl (WW_0 a K KS st1v_23 (svH (svH (svH hs st) (setP (nI dn) 4 st)) st1v_17) sc1v_27) ct (c_B_least l D a K KS st1v_23 (svH (svH (svH hs st) (setP (nI dn) 4 st)) st1v_17) sc1v_27 hj3.1 H.size) hl.1 rfl (Nat.le_of_ble_eq_true rfl) rfl dL_clean_171 ⟨⟨Nat.le_of_ble_eq_true rfl, Nat.le_of_ble_eq_true rfl⟩, Nat.le_of_ble_eq_true rfl, Nat.le_of_ble_eq_true rfl⟩) rfl rfl (fun r_30 sc1v_31 H locs hw_32 hP hD hK hS => ?_)
    have hK : va_K D vwCl [(K, .int), (KS, .object "BarcodeWand$State")] s := hK
    have hP : va_P D vwCl ((WW a K KS st1v_23 (svH (svH (svH hs st) (setP (nI dn) 4 st)) st1v_17) sc1v_31)) H := hP
    have hD : va_D A ((WW a K KS st1v_23 (svH (svH (svH hs st) (setP (nI dn) 4 st)) st1v_17) sc1v_31)) := hD
    have hw_32 : r_30 = leaF (s_tn st1v_23) (s_tf st1v_23) := hw_32
    have hw_32 := hw_32.symm
    subst hw_32
    refine k_nrm (y := leaF (s_tn st1v_23) (s_tf st1v_23)) rfl ?_
    refine k_nrm (y := 1) (by rw [htn3]; exact hL) ?_
    refine lv_iconst (v := 1) hx hb dL_clean_174 (by decide) ?_
    refine lv_icmp_ne (tgt := 182) hx hb dL_clean_175 (by decide) (fun c9 => absurd (by decide) c9) (fun _ => ?_)
    refine lv_iconst (v := 1) hx hb dL_clean_178 (by decide) ?_
    refine lv_goto (tgt := 183) hx hb dL_clean_179 (by decide) ?_
    refine lv_istore (lv' := [(7, .int 1), (9, .int (nI 5)), (8, .int (numF (lbD dn 4 (s_df st)) 5)), (6, .int (nI ck)), (4, .long (P0 st)), (3, .int (nI pp)), (2, .int (nI 4)), (1, .int (nI dn)), (0, .ref (a 0))]) hx hb dL_clean_183 hl (by decide) rfl (fun ls hl => ?_)
    refine lv_iload hx hb dL_clean_185 (lv_at hl 0 rfl) ?_
    refine lv_if_eq (tgt := 225) hx hb dL_clean_187 (by decide) (fun c9 => absurd c9 (by decide)) (fun _ => ?_)
    refine lv_aload_n hx hb dL_clean_190 rfl (lv_at hl 8 rfl) ?_
    have ct := k_cut_TT (wp := []) (T := (WW a K KS st1v_23 (svH (svH (svH hs st) (setP (nI dn) 4 st)) st1v_17) sc1v_31)) (wc := []) (wr := []) (tc := [(K, .int), (KS, .object "BarcodeWand$State")]) hG hS hA hK hP hD [] [] [0, 1] rfl rfl (by decide) (by decide) (by decide) rfl
    refine k_endi (As := [.ref (a 0)]) ct (k_runSW (As := [.ref (a 0)]) (rest := []) S0 Ls_L_160 ct (c_L_undo l D a K KS st1v_23 (svH (svH (svH hs st) (setP (nI dn) 4 st)) st1v_17) sc1v_31 hj3.1 hh3 ((stk_pop K3).1) H.size) hl.1 rfl (Nat.le_of_ble_eq_true rfl) rfl dL_clean_191 ⟨⟨Nat.le_of_ble_eq_true rfl, Nat.le_of_ble_eq_true rfl⟩, Nat.le_of_ble_eq_true rfl, Nat.le_of_ble_eq_true rfl⟩) rfl rfl (fun r_33 st1v_34 H locs hw_35 hP hD hK hS => ?_)
    have hK : va_K D vwCl [(K, .int), (KS, .object "BarcodeWand$State")] s := hK
    have hP : va_P D vwCl ((WW a K KS st1v_34 (rsH (svH (svH (svH hs st) (setP (nI dn) 4 st)) st1v_17)) sc1v_31)) H := hP
    have hD : va_D A ((WW a K KS st1v_34 (rsH (svH (svH (svH hs st) (setP (nI dn) 4 st)) st1v_17)) sc1v_31)) := hD
    have hw_35 : r_33 = (nI (h_kp (svH (svH (svH hs st) (setP (nI dn) 4 st)) st1v_17) - 1)) ∧ st1v_34 = rsS (svH (svH (svH hs st) (setP (nI dn) 4 st)) st1v_17) st1v_23 := hw_35
    obtain ⟨u_36a, u_36b⟩ := hw_35
    refine k_nrm (y := (nI (h_kp (svH (svH (svH hs st) (setP (nI dn) 4 st)) st1v_17) - 1))) (u_36a) ?_
    have u_36h := okH_rs hh3
    have u_36c : bST st1v_34 := by rw [u_36b]; exact bST_rs _ hh3
    have u_36k := (stk_pop K3).2.1
    have u_36v := (stk_pop K3).2.2 st1v_23
    rw [← u_36b] at u_36v
    have u_36p : ¬ (nI (h_kp (svH (svH (svH hs st) (setP (nI dn) 4 st)) st1v_17) - 1)) < 0 := nI_pos (by have := kp_6 hh3; omega)
    refine lv_if_lt (tgt := 225) hx hb dL_clean_194 (by decide) (fun c9 => absurd c9 u_36p) (fun c_37 => ?_)
    refine lv_aload_n hx hb dL_clean_197 rfl (lv_at hl 8 rfl) ?_
    have ct := k_cut_TT (wp := []) (T := (WW a K KS st1v_34 (rsH (svH (svH (svH hs st) (setP (nI dn) 4 st)) st1v_17)) sc1v_31)) (wc := []) (wr := []) (tc := [(K, .int), (KS, .object "BarcodeWand$State")]) hG hS hA hK hP hD [] [] [0, 1] rfl rfl (by decide) (by decide) (by decide) rfl
    refine k_endi (As := [.ref (a 0)]) ct (k_runSW (As := [.ref (a 0)]) (rest := []) S0 Ls_L_160 ct (c_L_undo l D a K KS st1v_34 (rsH (svH (svH (svH hs st) (setP (nI dn) 4 st)) st1v_17)) sc1v_31 u_36c u_36h ((stk_pop u_36k).1) H.size) hl.1 rfl (Nat.le_of_ble_eq_true rfl) rfl dL_clean_198 ⟨⟨Nat.le_of_ble_eq_true rfl, Nat.le_of_ble_eq_true rfl⟩, Nat.le_of_ble_eq_true rfl, Nat.le_of_ble_eq_true rfl⟩) rfl rfl (fun r_38 st1v_39 H locs hw_40 hP hD hK hS => ?_)
    have hK : va_K D vwCl [(K, .int), (KS, .object "BarcodeWand$State")] s := hK
    have hP : va_P D vwCl ((WW a K KS st1v_39 (rsH (rsH (svH (svH (svH hs st) (setP (nI dn) 4 st)) st1v_17))) sc1v_31)) H := hP
    have hD : va_D A ((WW a K KS st1v_39 (rsH (rsH (svH (svH (svH hs st) (setP (nI dn) 4 st)) st1v_17))) sc1v_31)) := hD
    have hw_40 : r_38 = (nI (h_kp (rsH (svH (svH (svH hs st) (setP (nI dn) 4 st)) st1v_17)) - 1)) ∧ st1v_39 = rsS (rsH (svH (svH (svH hs st) (setP (nI dn) 4 st)) st1v_17)) st1v_34 := hw_40
    obtain ⟨u_41a, u_41b⟩ := hw_40
    refine k_nrm (y := (nI (h_kp (rsH (svH (svH (svH hs st) (setP (nI dn) 4 st)) st1v_17)) - 1))) (u_41a) ?_
    have u_41h := okH_rs u_36h
    have u_41c : bST st1v_39 := by rw [u_41b]; exact bST_rs _ u_36h
    have u_41k := (stk_pop u_36k).2.1
    have u_41v := (stk_pop u_36k).2.2 st1v_34
    rw [← u_41b] at u_41v
    have u_41p : ¬ (nI (h_kp (rsH (svH (svH (svH hs st) (setP (nI dn) 4 st)) st1v_17)) - 1)) < 0 := nI_pos (by have := kp_6 u_36h; omega)
    refine lv_if_lt (tgt := 225) hx hb dL_clean_201 (by decide) (fun c9 => absurd c9 u_41p) (fun c_42 => ?_)
    refine lv_aload_n hx hb dL_clean_204 rfl (lv_at hl 8 rfl) ?_
    have ct := k_cut_TT (wp := []) (T := (WW a K KS st1v_39 (rsH (rsH (svH (svH (svH hs st) (setP (nI dn) 4 st)) st1v_17))) sc1v_31)) (wc := []) (wr := []) (tc := [(K, .int), (KS, .object "BarcodeWand$State")]) hG hS hA hK hP hD [] [] [0, 1] rfl rfl (by decide) (by decide) (by decide) rfl
    refine k_endi (As := [.ref (a 0)]) ct (k_runSW (As := [.ref (a 0)]) (rest := []) S0 Ls_L_160 ct (c_L_undo l D a K KS st1v_39 (rsH (rsH (svH (svH (svH hs st) (setP (nI dn) 4 st)) st1v_17))) sc1v_31 u_41c u_41h ((stk_pop u_41k).1) H.size) hl.1 rfl (Nat.le_of_ble_eq_true rfl) rfl dL_clean_205 ⟨⟨Nat.le_of_ble_eq_true rfl, Nat.le_of_ble_eq_true rfl⟩, Nat.le_of_ble_eq_true rfl, Nat.le_of_ble_eq_true rfl⟩) rfl rfl (fun r_43 st1v_44 H locs hw_45 hP hD hK hS => ?_)
    have hK : va_K D vwCl [(K, .int), (KS, .object "BarcodeWand$State")] s := hK
    have hP : va_P D vwCl ((WW a K KS st1v_44 (rsH (rsH (rsH (svH (svH (svH hs st) (setP (nI dn) 4 st)) st1v_17)))) sc1v_31)) H := hP
    have hD : va_D A ((WW a K KS st1v_44 (rsH (rsH (rsH (svH (svH (svH hs st) (setP (nI dn) 4 st)) st1v_17)))) sc1v_31)) := hD
    have hw_45 : r_43 = (nI (h_kp (rsH (rsH (svH (svH (svH hs st) (setP (nI dn) 4 st)) st1v_17))) - 1)) ∧ st1v_44 = rsS (rsH (rsH (svH (svH (svH hs st) (setP (nI dn) 4 st)) st1v_17))) st1v_39 := hw_45
    obtain ⟨u_46a, u_46b⟩ := hw_45
    refine k_nrm (y := (nI (h_kp (rsH (rsH (svH (svH (svH hs st) (setP (nI dn) 4 st)) st1v_17))) - 1))) (u_46a) ?_
    have u_46h := okH_rs u_41h
    have u_46c : bST st1v_44 := by rw [u_46b]; exact bST_rs _ u_41h
    have u_46k := (stk_pop u_41k).2.1
    have u_46v := (stk_pop u_41k).2.2 st1v_39
    rw [← u_46b] at u_46v
    have u_46p : ¬ (nI (h_kp (rsH (rsH (svH (svH (svH hs st) (setP (nI dn) 4 st)) st1v_17))) - 1)) < 0 := nI_pos (by have := kp_6 u_41h; omega)
    refine lv_if_lt (tgt := 225) hx hb dL_clean_208 (by decide) (fun c9 => absurd c9 u_46p) (fun c_47 => ?_)
    refine lv_aload_n hx hb dL_clean_211 rfl (lv_at hl 8 rfl) ?_
    have ct := k_cut_TT (wp := []) (T := (WW a K KS st1v_44 (rsH (rsH (rsH (svH (svH (svH hs st) (setP (nI dn) 4 st)) st1v_17)))) sc1v_31)) (wc := []) (wr := []) (tc := [(K, .int), (KS, .object "BarcodeWand$State")]) hG hS hA hK hP hD [] [] [0, 1] rfl rfl (by decide) (by decide) (by decide) rfl
    refine k_endl (As := [.ref (a 0)]) ct (k_runS (As := [.ref (a 0)]) (rest := []) S0 Ls_L_153 ct (c_L_print0 l D a K KS st1v_44 (rsH (rsH (rsH (svH (svH (svH hs st) (setP (nI dn) 4 st)) st1v_17)))) sc1v_31 u_46c H.size) hl.1 rfl (Nat.le_of_ble_eq_true rfl) rfl dL_clean_212 ⟨⟨Nat.le_of_ble_eq_true rfl, Nat.le_of_ble_eq_true rfl⟩, Nat.le_of_ble_eq_true rfl, Nat.le_of_ble_eq_true rfl⟩) rfl rfl (fun r_48 sc1v_49 H locs hw_50 hP hD hK hS => ?_)
    have hK : va_K D vwCl [(K, .int), (KS, .object "BarcodeWand$State")] s := hK
    have hP : va_P D vwCl ((WW a K KS st1v_44 (rsH (rsH (rsH (svH (svH (svH hs st) (setP (nI dn) 4 st)) st1v_17)))) sc1v_49)) H := hP
    have hD : va_D A ((WW a K KS st1v_44 (rsH (rsH (rsH (svH (svH (svH hs st) (setP (nI dn) 4 st)) st1v_17)))) sc1v_49)) := hD
    have hw_50 : r_48 = (P0 st1v_44) := hw_50
    have hw_50 := hw_50.symm
    subst hw_50
    refine k_nrml (y := (P0 st1v_44)) rfl ?_
    refine lv_lload hx hb dL_clean_215 (lv_at hl 4 rfl) ?_
    refine W.lcmp hx hb dL_clean_217 ?_
    refine k_nrm (y := 0) ((by rw [P0_view u_46v u_46c]; exact lgc _)) ?_
    refine lv_if_ne (tgt := 225) hx hb dL_clean_218 (by decide) (fun c9 => absurd (by decide) c9) (fun _ => ?_)
    refine lv_iconst (v := 1) hx hb dL_clean_221 (by decide) ?_
    refine lv_goto (tgt := 226) hx hb dL_clean_222 (by decide) ?_
    have hP9 : va_P D vwCl ((WW a K KS st1v_44 (rsH (rsH (rsH (svH (svH (svH hs st) (setP (nI dn) 4 st)) st1v_17)))) sc1v_49)) H := k_subP (wp := []) (wp' := []) (T := (WW a K KS st1v_44 (rsH (rsH (rsH (svH (svH (svH hs st) (setP (nI dn) 4 st)) st1v_17)))) sc1v_49)) hP [] rfl
    have hD9 : va_D A ((WW a K KS st1v_44 (rsH (rsH (rsH (svH (svH (svH hs st) (setP (nI dn) 4 st)) st1v_17)))) sc1v_49)) := k_subD (wp := []) (wp' := []) (T := (WW a K KS st1v_44 (rsH (rsH (rsH (svH (svH (svH hs st) (setP (nI dn) 4 st)) st1v_17)))) sc1v_49)) hD [] (by decide) rfl
    have hP9 : va_P D vwCl ((WW a K KS st1v_44 (rsH (rsH (rsH (svH (svH (svH hs st) (setP (nI dn) 4 st)) st1v_17)))) sc1v_49)) H := hP9
    have hD9 : va_D A ((WW a K KS st1v_44 (rsH (rsH (rsH (svH (svH (svH hs st) (setP (nI dn) 4 st)) st1v_17)))) sc1v_49)) := hD9
    have hK9 : va_K D vwCl [] s := hK.sub [] rfl
    exact W.zret (v := 1) hx hb hr (rfl) (fun t ht9 hW9 => ⟨⟨1, (st1v_44, (rsH (rsH (rsH (svH (svH (svH hs st) (setP (nI dn) 4 st)) st1v_17)))), sc1v_49), rfl, by (exact ⟨rfl, u_46h, u_46v⟩), ⟨by rw [ht9]; exact hP9, va_K.moved hW9.alike hK9, hD9⟩⟩, hS.F ht9⟩) hS.2.2 dL_clean_226
  · have hc9 := c_20
    have hik : i + 1 ≤ 5 := by rcases Nat.lt_or_ge 4 i with q9 | q9; exact absurd (nI_lt q9 (by omega)) c_20; omega
    refine lv_iload hx hb dL_clean_85 (lv_at hl 2 rfl) ?_
    refine lv_if_eq (tgt := 109) hx hb dL_clean_87 (by decide) (fun c9 => absurd c9 (by decide)) (fun _ => ?_)
    refine lv_aload_n hx hb dL_clean_90 rfl (lv_at hl 8 rfl) ?_
    refine lv_iload hx hb dL_clean_91 (lv_at hl 0 rfl) ?_
    have ct := k_cut_TT (wp := []) (T := (WW a K KS st1v_17 (svH (svH hs st) (setP (nI dn) 4 st)) z)) (wc := []) (wr := []) (tc := [(K, .int), (KS, .object "BarcodeWand$State")]) hG hS hA hK hP hD [] [] [0, 1] rfl rfl (by decide) (by decide) (by decide) rfl
    refine k_endi (As := [.ref (a 0), .int (nI i)]) ct (k_runSW (As := [.ref (a 0), .int (nI i)]) (rest := []) S0 Ls_L_116 ct (c_L_digit l D a K KS st1v_17 (svH (svH hs st) (setP (nI dn) 4 st)) z i hj2.1 (by omega) H.size) hl.1 rfl (Nat.le_of_ble_eq_true rfl) rfl dL_clean_93 ⟨⟨Nat.le_of_ble_eq_true rfl, Nat.le_of_ble_eq_true rfl⟩, Nat.le_of_ble_eq_true rfl, Nat.le_of_ble_eq_true rfl⟩) rfl rfl (fun r_51 sc1v_52 H locs hw_53 hP hD hK hS => ?_)
    have hK : va_K D vwCl [(K, .int), (KS, .object "BarcodeWand$State")] s := hK
    have hP : va_P D vwCl ((WW a K KS st1v_17 (svH (svH hs st) (setP (nI dn) 4 st)) sc1v_52)) H := hP
    have hD : va_D A ((WW a K KS st1v_17 (svH (svH hs st) (setP (nI dn) 4 st)) sc1v_52)) := hD
    have hw_53 : r_51 = digR (s_tn st1v_17) (s_tf st1v_17) (s_tol st1v_17) i := hw_53
    have hw_53 := hw_53.symm
    subst hw_53
    refine k_nrm (y := digR (s_tn st1v_17) (s_tf st1v_17) (s_tol st1v_17) i) rfl ?_
    refine k_nrm (y := (lbD dn 4 (s_df st) i)) (hdg2 i (by omega)) ?_
    refine lv_aload_n hx hb dL_clean_96 rfl (lv_at hl 8 rfl) ?_
    refine lv_iload hx hb dL_clean_97 (lv_at hl 0 rfl) ?_
    have ct := k_cut_TT (wp := []) (T := (WW a K KS st1v_17 (svH (svH hs st) (setP (nI dn) 4 st)) sc1v_52)) (wc := []) (wr := []) (tc := [(K, .int), (KS, .object "BarcodeWand$State")]) hG hS hA hK hP hD [] [] [0, 1] rfl rfl (by decide) (by decide) (by decide) rfl
    refine k_endi (As := [.ref (a 0), .int (nI i)]) ct (k_runSW (As := [.ref (a 0), .int (nI i)]) (rest := [.int (lbD dn 4 (s_df st) i)]) S0 Ls_L_99 ct (c_L_labelDigit l D a K KS st1v_17 (svH (svH hs st) (setP (nI dn) 4 st)) sc1v_52 (nI i) (inR_in (by rw [hnd2]; omega) (by rw [hnd2]; decide)) H.size) hl.1 rfl (Nat.le_of_ble_eq_true rfl) rfl dL_clean_99 ⟨⟨Nat.le_of_ble_eq_true rfl, Nat.le_of_ble_eq_true rfl⟩, Nat.le_of_ble_eq_true rfl, Nat.le_of_ble_eq_true rfl⟩) rfl rfl (fun r_54 _ H locs hw_55 hP hD hK hS => ?_)
    have hK : va_K D vwCl [(K, .int), (KS, .object "BarcodeWand$State")] s := hK
    have hP : va_P D vwCl ((WW a K KS st1v_17 (svH (svH hs st) (setP (nI dn) 4 st)) sc1v_52)) H := hP
    have hD : va_D A ((WW a K KS st1v_17 (svH (svH hs st) (setP (nI dn) 4 st)) sc1v_52)) := hD
    have hw_55 : r_54 = (rowAt 9 (nI (s_nd st1v_17)) (s_df st1v_17) (nI i)) := hw_55
    have hw_55 := hw_55.symm
    subst hw_55
    refine k_nrm (y := (rowAt 9 (nI (s_nd st1v_17)) (s_df st1v_17) (nI i))) rfl ?_
    refine k_nrm (y := (lbD dn 4 (s_df st) i)) ((rowAt_lt (by rw [hnd2]; omega) (by rw [hnd2]; decide) (by decide)).trans (congrFun hdf2 i)) ?_
    refine lv_icmp_ne (tgt := 109) hx hb dL_clean_102 (by decide) (fun c9 => absurd rfl c9) (fun c_56 => ?_)
    refine lv_iconst (v := 1) hx hb dL_clean_105 (by decide) ?_
    refine lv_goto (tgt := 110) hx hb dL_clean_106 (by decide) ?_
    refine lv_istore (lv' := [(7, .int 1), (9, .int (nI i)), (8, .int (numF (lbD dn 4 (s_df st)) i)), (6, .int (nI ck)), (4, .long (P0 st)), (3, .int (nI pp)), (2, .int (nI 4)), (1, .int (nI dn)), (0, .ref (a 0))]) hx hb dL_clean_110 hl (by decide) rfl (fun ls hl => ?_)
    refine lv_bipush (v := 10) hx hb dL_clean_112 (by decide) ?_
    refine lv_iload hx hb dL_clean_114 (lv_at hl 2 rfl) ?_
    refine lv_imul hx hb dL_clean_116 ?_
    refine k_nrm (y := (10 * numF (lbD dn 4 (s_df st)) i)) (rfl) ?_
    refine lv_aload_n hx hb dL_clean_117 rfl (lv_at hl 8 rfl) ?_
    refine lv_iload hx hb dL_clean_118 (lv_at hl 1 rfl) ?_
    have ct := k_cut_TT (wp := []) (T := (WW a K KS st1v_17 (svH (svH hs st) (setP (nI dn) 4 st)) sc1v_52)) (wc := []) (wr := []) (tc := [(K, .int), (KS, .object "BarcodeWand$State")]) hG hS hA hK hP hD [] [] [0, 1] rfl rfl (by decide) (by decide) (by decide) rfl
    refine k_endi (As := [.ref (a 0), .int (nI i)]) ct (k_runSW (As := [.ref (a 0), .int (nI i)]) (rest := [.int (10 * numF (lbD dn 4 (s_df st)) i)]) S0 Ls_L_99 ct (c_L_labelDigit l D a K KS st1v_17 (svH (svH hs st) (setP (nI dn) 4 st)) sc1v_52 (nI i) (inR_in (by rw [hnd2]; omega) (by rw [hnd2]; decide)) H.size) hl.1 rfl (Nat.le_of_ble_eq_true rfl) rfl dL_clean_120 ⟨⟨Nat.le_of_ble_eq_true rfl, Nat.le_of_ble_eq_true rfl⟩, Nat.le_of_ble_eq_true rfl, Nat.le_of_ble_eq_true rfl⟩) rfl rfl (fun r_57 _ H locs hw_58 hP hD hK hS => ?_)
    have hK : va_K D vwCl [(K, .int), (KS, .object "BarcodeWand$State")] s := hK
    have hP : va_P D vwCl ((WW a K KS st1v_17 (svH (svH hs st) (setP (nI dn) 4 st)) sc1v_52)) H := hP
    have hD : va_D A ((WW a K KS st1v_17 (svH (svH hs st) (setP (nI dn) 4 st)) sc1v_52)) := hD
    have hw_58 : r_57 = (rowAt 9 (nI (s_nd st1v_17)) (s_df st1v_17) (nI i)) := hw_58
    have hw_58 := hw_58.symm
    subst hw_58
    refine k_nrm (y := (rowAt 9 (nI (s_nd st1v_17)) (s_df st1v_17) (nI i))) rfl ?_
    refine k_nrm (y := (lbD dn 4 (s_df st) i)) ((rowAt_lt (by rw [hnd2]; omega) (by rw [hnd2]; decide) (by decide)).trans (congrFun hdf2 i)) ?_
    refine lv_iadd hx hb dL_clean_123 ?_
    refine k_nrm (y := (numF (lbD dn 4 (s_df st)) (i + 1))) (rfl) ?_
    refine lv_istore (lv' := [(8, .int (numF (lbD dn 4 (s_df st)) (i + 1))), (7, .int 1), (9, .int (nI i)), (6, .int (nI ck)), (4, .long (P0 st)), (3, .int (nI pp)), (2, .int (nI 4)), (1, .int (nI dn)), (0, .ref (a 0))]) hx hb dL_clean_124 hl (by decide) rfl (fun ls hl => ?_)
    obtain ⟨x_59, ex_59⟩ : ∃ z : Int32, z = (nI i) + 1 := ⟨_, rfl⟩
    refine lv_iinc (v := x_59) (lv' := [(9, .int x_59), (8, .int (numF (lbD dn 4 (s_df st)) (i + 1))), (7, .int 1), (6, .int (nI ck)), (4, .long (P0 st)), (3, .int (nI pp)), (2, .int (nI 4)), (1, .int (nI dn)), (0, .ref (a 0))]) hx hb dL_clean_126 hl (k := 2) rfl (by rw [ex_59]; rfl) (by decide) rfl (fun ls hl => ?_)
    refine lv_goto (tgt := 79) hx hb dL_clean_129 (by decide) ?_
    have he9 : x_59 = (nI (i + 1)) := by rw [ex_59]; exact nI_1 i
    rw [he9] at hl
    have hl : lv_has ls 10 [(9, .int (nI (i + 1))), (8, .int (numF (lbD dn 4 (s_df st)) (i + 1))), (7, .int 1), (6, .int (nI ck)), (4, .long (P0 st)), (3, .int (nI pp)), (2, .int (nI 4)), (1, .int (nI dn)), (0, .ref (a 0))] := hl
    exact ih9 ((i + 1, sc1v_52)) H locs ls (by omega) ⟨hik, k_subP (wp := []) (wp' := []) (T := (WW a K KS st1v_17 (svH (svH hs st) (setP (nI dn) 4 st)) sc1v_52)) hP [] rfl, k_subD (wp := []) (wp' := []) (T := (WW a K KS st1v_17 (svH (svH hs st) (setP (nI dn) 4 st)) sc1v_52)) hD [] (by decide) rfl, hS, lv_sub hl [0, 1, 2, 3, 4, 5, 6, 7, 8] rfl⟩
