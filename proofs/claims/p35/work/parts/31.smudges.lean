theorem ly_L_greatestSmudge : k_y yL_greatestSmudge 2 := ⟨by decide +kernel, by decide +kernel, by decide +kernel⟩
set_option maxRecDepth 20000 in
theorem ls_L_greatestSmudge : Cond.static yL_greatestSmudge ∈ wsA := mA 699 rfl rfl
set_option maxRecDepth 20000 in
theorem Ls_L_163 : k_LW RL 163 yL_greatestSmudge cL_greatestSmudge 3 (some .int) [(0, 5, 6, 22)] 2 := ⟨mA 698 rfl rfl, ls_L_greatestSmudge, li_BarcodeWandLaw, mA 700 rfl rfl, ly_L_greatestSmudge⟩
theorem dL_smudges_0 : decode cL_smudges 0 = .ok (.aload_n 0, 1) := by decide +kernel
theorem dL_smudges_1 : decode cL_smudges 1 = .ok (.iload_n 1, 1) := by decide +kernel
theorem dL_smudges_2 : decode cL_smudges 2 = .ok (.invokestatic 163, 3) := by decide +kernel
theorem dL_smudges_5 : decode cL_smudges 5 = .ok (.istore_n 2, 1) := by decide +kernel
theorem dL_smudges_6 : decode cL_smudges 6 = .ok (.iload_n 1, 1) := by decide +kernel
theorem dL_smudges_7 : decode cL_smudges 7 = .ok (.aload_n 0, 1) := by decide +kernel
theorem dL_smudges_8 : decode cL_smudges 8 = .ok (.invokevirtual 96, 3) := by decide +kernel
theorem dL_smudges_11 : decode cL_smudges 11 = .ok (.if_icmp .lt 15, 3) := by decide +kernel
theorem dL_smudges_14 : decode cL_smudges 14 = .ok (.iload_n 2, 1) := by decide +kernel
theorem dL_smudges_15 : decode cL_smudges 15 = .ok (.ldc 18, 2) := by decide +kernel
theorem dL_smudges_17 : decode cL_smudges 17 = .ok (.if_icmp .ne 7, 3) := by decide +kernel
theorem dL_smudges_20 : decode cL_smudges 20 = .ok (.iconst 1, 1) := by decide +kernel
theorem dL_smudges_21 : decode cL_smudges 21 = .ok (.goto 4, 3) := by decide +kernel
theorem dL_smudges_24 : decode cL_smudges 24 = .ok (.iconst 0, 1) := by decide +kernel
theorem dL_smudges_25 : decode cL_smudges 25 = .ok (.ireturn, 1) := by decide +kernel
theorem dL_smudges_26 : decode cL_smudges 26 = .ok (.aload_n 0, 1) := by decide +kernel
theorem dL_smudges_27 : decode cL_smudges 27 = .ok (.invokestatic 153, 3) := by decide +kernel
theorem dL_smudges_30 : decode cL_smudges 30 = .ok (.lstore_n 3, 1) := by decide +kernel
theorem dL_smudges_31 : decode cL_smudges 31 = .ok (.aload_n 0, 1) := by decide +kernel
theorem dL_smudges_32 : decode cL_smudges 32 = .ok (.iload_n 1, 1) := by decide +kernel
theorem dL_smudges_33 : decode cL_smudges 33 = .ok (.bipush 9, 2) := by decide +kernel
theorem dL_smudges_35 : decode cL_smudges 35 = .ok (.invokestatic 80, 3) := by decide +kernel
theorem dL_smudges_38 : decode cL_smudges 38 = .ok (.istore 5, 2) := by decide +kernel
theorem dL_smudges_40 : decode cL_smudges 40 = .ok (.iload 5, 2) := by decide +kernel
theorem dL_smudges_42 : decode cL_smudges 42 = .ok (.bipush (-9), 2) := by decide +kernel
theorem dL_smudges_44 : decode cL_smudges 44 = .ok (.if_icmp .lt 45, 3) := by decide +kernel
theorem dL_smudges_47 : decode cL_smudges 47 = .ok (.iload 5, 2) := by decide +kernel
theorem dL_smudges_49 : decode cL_smudges 49 = .ok (.bipush 9, 2) := by decide +kernel
theorem dL_smudges_51 : decode cL_smudges 51 = .ok (.if_icmp .gt 38, 3) := by decide +kernel
theorem dL_smudges_54 : decode cL_smudges 54 = .ok (.iload_n 2, 1) := by decide +kernel
theorem dL_smudges_55 : decode cL_smudges 55 = .ok (.bipush 109, 2) := by decide +kernel
theorem dL_smudges_57 : decode cL_smudges 57 = .ok (.if_icmp .ne 7, 3) := by decide +kernel
theorem dL_smudges_60 : decode cL_smudges 60 = .ok (.iconst 1, 1) := by decide +kernel
theorem dL_smudges_61 : decode cL_smudges 61 = .ok (.goto 4, 3) := by decide +kernel
theorem dL_smudges_64 : decode cL_smudges 64 = .ok (.iconst 0, 1) := by decide +kernel
theorem dL_smudges_65 : decode cL_smudges 65 = .ok (.aload_n 0, 1) := by decide +kernel
theorem dL_smudges_66 : decode cL_smudges 66 = .ok (.bipush 20, 2) := by decide +kernel
theorem dL_smudges_68 : decode cL_smudges 68 = .ok (.bipush 20, 2) := by decide +kernel
theorem dL_smudges_70 : decode cL_smudges 70 = .ok (.iconst 0, 1) := by decide +kernel
theorem dL_smudges_71 : decode cL_smudges 71 = .ok (.invokestatic 151, 3) := by decide +kernel
theorem dL_smudges_74 : decode cL_smudges 74 = .ok (.ifCond .ne 7, 3) := by decide +kernel
theorem dL_smudges_77 : decode cL_smudges 77 = .ok (.iconst 1, 1) := by decide +kernel
theorem dL_smudges_78 : decode cL_smudges 78 = .ok (.goto 4, 3) := by decide +kernel
theorem dL_smudges_81 : decode cL_smudges 81 = .ok (.iconst 0, 1) := by decide +kernel
theorem dL_smudges_82 : decode cL_smudges 82 = .ok (.if_icmp .ne 7, 3) := by decide +kernel
theorem dL_smudges_85 : decode cL_smudges 85 = .ok (.iconst 1, 1) := by decide +kernel
theorem dL_smudges_86 : decode cL_smudges 86 = .ok (.goto 4, 3) := by decide +kernel
theorem dL_smudges_89 : decode cL_smudges 89 = .ok (.iconst 0, 1) := by decide +kernel
theorem dL_smudges_90 : decode cL_smudges 90 = .ok (.istore 6, 2) := by decide +kernel
theorem dL_smudges_92 : decode cL_smudges 92 = .ok (.iload_n 2, 1) := by decide +kernel
theorem dL_smudges_93 : decode cL_smudges 93 = .ok (.iconst (-1), 1) := by decide +kernel
theorem dL_smudges_94 : decode cL_smudges 94 = .ok (.if_icmp .eq 95, 3) := by decide +kernel
theorem dL_smudges_97 : decode cL_smudges 97 = .ok (.iload_n 2, 1) := by decide +kernel
theorem dL_smudges_98 : decode cL_smudges 98 = .ok (.bipush 109, 2) := by decide +kernel
theorem dL_smudges_100 : decode cL_smudges 100 = .ok (.if_icmp .ge 89, 3) := by decide +kernel
theorem dL_smudges_103 : decode cL_smudges 103 = .ok (.iload 6, 2) := by decide +kernel
theorem dL_smudges_105 : decode cL_smudges 105 = .ok (.ifCond .eq 81, 3) := by decide +kernel
theorem dL_smudges_108 : decode cL_smudges 108 = .ok (.iload_n 2, 1) := by decide +kernel
theorem dL_smudges_109 : decode cL_smudges 109 = .ok (.bipush 91, 2) := by decide +kernel
theorem dL_smudges_111 : decode cL_smudges 111 = .ok (.if_icmp .lt 75, 3) := by decide +kernel
theorem dL_smudges_114 : decode cL_smudges 114 = .ok (.aload_n 0, 1) := by decide +kernel
theorem dL_smudges_115 : decode cL_smudges 115 = .ok (.iload_n 1, 1) := by decide +kernel
theorem dL_smudges_116 : decode cL_smudges 116 = .ok (.iload_n 2, 1) := by decide +kernel
theorem dL_smudges_117 : decode cL_smudges 117 = .ok (.bipush 100, 2) := by decide +kernel
theorem dL_smudges_119 : decode cL_smudges 119 = .ok (.isub, 1) := by decide +kernel
theorem dL_smudges_120 : decode cL_smudges 120 = .ok (.invokestatic 80, 3) := by decide +kernel
theorem dL_smudges_123 : decode cL_smudges 123 = .ok (.bipush 9, 2) := by decide +kernel
theorem dL_smudges_125 : decode cL_smudges 125 = .ok (.if_icmp .ne 61, 3) := by decide +kernel
theorem dL_smudges_128 : decode cL_smudges 128 = .ok (.aload_n 0, 1) := by decide +kernel
theorem dL_smudges_129 : decode cL_smudges 129 = .ok (.bipush 20, 2) := by decide +kernel
theorem dL_smudges_131 : decode cL_smudges 131 = .ok (.bipush 20, 2) := by decide +kernel
theorem dL_smudges_133 : decode cL_smudges 133 = .ok (.iconst 0, 1) := by decide +kernel
theorem dL_smudges_134 : decode cL_smudges 134 = .ok (.invokestatic 151, 3) := by decide +kernel
theorem dL_smudges_137 : decode cL_smudges 137 = .ok (.ifCond .ne 49, 3) := by decide +kernel
theorem dL_smudges_140 : decode cL_smudges 140 = .ok (.aload_n 0, 1) := by decide +kernel
theorem dL_smudges_141 : decode cL_smudges 141 = .ok (.iload_n 1, 1) := by decide +kernel
theorem dL_smudges_142 : decode cL_smudges 142 = .ok (.iload_n 2, 1) := by decide +kernel
theorem dL_smudges_143 : decode cL_smudges 143 = .ok (.bipush 99, 2) := by decide +kernel
theorem dL_smudges_145 : decode cL_smudges 145 = .ok (.isub, 1) := by decide +kernel
theorem dL_smudges_146 : decode cL_smudges 146 = .ok (.invokestatic 80, 3) := by decide +kernel
theorem dL_smudges_149 : decode cL_smudges 149 = .ok (.iload_n 2, 1) := by decide +kernel
theorem dL_smudges_150 : decode cL_smudges 150 = .ok (.bipush 100, 2) := by decide +kernel
theorem dL_smudges_152 : decode cL_smudges 152 = .ok (.isub, 1) := by decide +kernel
theorem dL_smudges_153 : decode cL_smudges 153 = .ok (.if_icmp .ne 33, 3) := by decide +kernel
theorem dL_smudges_156 : decode cL_smudges 156 = .ok (.aload_n 0, 1) := by decide +kernel
theorem dL_smudges_157 : decode cL_smudges 157 = .ok (.bipush 20, 2) := by decide +kernel
theorem dL_smudges_159 : decode cL_smudges 159 = .ok (.bipush 20, 2) := by decide +kernel
theorem dL_smudges_161 : decode cL_smudges 161 = .ok (.iconst 0, 1) := by decide +kernel
theorem dL_smudges_162 : decode cL_smudges 162 = .ok (.invokestatic 151, 3) := by decide +kernel
theorem dL_smudges_165 : decode cL_smudges 165 = .ok (.ifCond .eq 21, 3) := by decide +kernel
theorem dL_smudges_168 : decode cL_smudges 168 = .ok (.aload_n 0, 1) := by decide +kernel
theorem dL_smudges_169 : decode cL_smudges 169 = .ok (.invokestatic 160, 3) := by decide +kernel
theorem dL_smudges_172 : decode cL_smudges 172 = .ok (.ifCond .lt 14, 3) := by decide +kernel
theorem dL_smudges_175 : decode cL_smudges 175 = .ok (.aload_n 0, 1) := by decide +kernel
theorem dL_smudges_176 : decode cL_smudges 176 = .ok (.invokestatic 160, 3) := by decide +kernel
theorem dL_smudges_179 : decode cL_smudges 179 = .ok (.ifCond .lt 7, 3) := by decide +kernel
theorem dL_smudges_182 : decode cL_smudges 182 = .ok (.iconst 1, 1) := by decide +kernel
theorem dL_smudges_183 : decode cL_smudges 183 = .ok (.goto 4, 3) := by decide +kernel
theorem dL_smudges_186 : decode cL_smudges 186 = .ok (.iconst 0, 1) := by decide +kernel
theorem dL_smudges_187 : decode cL_smudges 187 = .ok (.istore 6, 2) := by decide +kernel
theorem dL_smudges_189 : decode cL_smudges 189 = .ok (.iload 6, 2) := by decide +kernel
theorem dL_smudges_191 : decode cL_smudges 191 = .ok (.ifCond .eq 23, 3) := by decide +kernel
theorem dL_smudges_194 : decode cL_smudges 194 = .ok (.aload_n 0, 1) := by decide +kernel
theorem dL_smudges_195 : decode cL_smudges 195 = .ok (.invokestatic 160, 3) := by decide +kernel
theorem dL_smudges_198 : decode cL_smudges 198 = .ok (.ifCond .lt 16, 3) := by decide +kernel
theorem dL_smudges_201 : decode cL_smudges 201 = .ok (.aload_n 0, 1) := by decide +kernel
theorem dL_smudges_202 : decode cL_smudges 202 = .ok (.invokestatic 153, 3) := by decide +kernel
theorem dL_smudges_205 : decode cL_smudges 205 = .ok (.lload_n 3, 1) := by decide +kernel
theorem dL_smudges_206 : decode cL_smudges 206 = .ok (.lcmp, 1) := by decide +kernel
theorem dL_smudges_207 : decode cL_smudges 207 = .ok (.ifCond .ne 7, 3) := by decide +kernel
theorem dL_smudges_210 : decode cL_smudges 210 = .ok (.iconst 1, 1) := by decide +kernel
theorem dL_smudges_211 : decode cL_smudges 211 = .ok (.goto 4, 3) := by decide +kernel
theorem dL_smudges_214 : decode cL_smudges 214 = .ok (.iconst 0, 1) := by decide +kernel
theorem dL_smudges_215 : decode cL_smudges 215 = .ok (.ireturn, 1) := by decide +kernel
set_option maxHeartbeats 4000000 in
set_option maxRecDepth 100000 in
theorem c_L_smudges (l : Launch) (hst : l.stackTraces = false) (D : va_G) (a : Nat → Nat) (K : ClassId) (KS : ClassId) (st : ST) (hs : HT) (sc : SCT) (N : Nat) (en : Nat) (hii : invS N st) (hN : N + 3 < 2 ^ 30) (hh : okH hs) (he99 : en < 100) (sz : Nat) : k_Mi (S := ST × HT × SCT) l D yL_smudges cL_smudges 7 (some .boolean) 9 1 6 187 [.ref (a 0), .int (nI en)] ((WW a K KS st hs sc)) [(K, .int), (KS, .object "BarcodeWand$State")] (fun (r : Int32) (u : ST × HT × SCT) => match u with | (st1, hs1, sc1) => r = 1 ∧ okH hs1 ∧ nrm st1 = nrm st) (fun u => match u with | (st1, hs1, sc1) => ((WW a K KS st1 hs1 sc1))) (fun u => match u with | (st1, hs1, sc1) => []) sz := by
  refine Met.ofW (cc := cL_smudges) (maxL := 7) (ret := (some .boolean)) (by decide) rfl ?_
  intro p e s m args below meth c s₁ B hml hv
  obtain ⟨rfl, hsz, hP, hK, hD0, hG⟩ := hv
  have hx := B.exec
  have hb := B.bytes
  have hr := B.returns
  have ht : ∀ v9 ∈ wsA, v9.before ([.ref (a 0), .int (nI en)] : List Value).toArray s = true := fun v9 h9 => atoms_spec (ws := k_ws yL_smudges cL_smudges 7 (some .boolean)) B.pre v9 (List.mem_cons_of_mem _ h9)
  have hown : s.vm.findClass RL = some m.cls := findClass_of_methodNamed B.named
  have S0 : k_C p s m ([.ref (a 0), .int (nI en)] : List Value).toArray c cL_smudges 7 RL := ⟨hx, hb, hml, hown, ht⟩
  have hlocks := B.notSynchronized
  subst hsz
  have hD := hD0.self (sz := s.heap.size)
  generalize hAe : va_A ((WW a K KS st hs sc)) s.heap.size = A at hD hG ⊢
  have hA : ∀ q : Nat, s.heap.size ≤ q → A q := fun q h => by rw [← hAe]; exact Or.inr h
  have hS : va_S A s.heap s.heap [] := va_S.rf
  have hl := lv_entry ([.ref (a 0), .int (nI en)]) (n := 7) (Nat.le_of_ble_eq_true rfl)
  rw [lg_entry_eq]
  generalize (lg_sl ([.ref (a 0), .int (nI en)]) ++ List.replicate (7 - (lg_sl ([.ref (a 0), .int (nI en)])).length) Slot.unset).toArray = ls at hl ⊢
  have hl : lv_has ls 7 [(0, .ref (a 0)), (1, .int (nI en))] := hl
  have hP : va_P D vwCl ((WW a K KS st hs sc)) s.heap := hP
  obtain ⟨hb1, hb2, hb3, hb4⟩ := bST_le hii.1
  rcases Nat.lt_or_ge en (s_ns st) with hen | hen
  · have hzm := lab_z hii.2.1 hen
    refine lv_aload_n hx hb dL_smudges_0 rfl (lv_at hl 0 rfl) ?_
    refine lv_iload_n hx hb dL_smudges_1 rfl (lv_at hl 1 rfl) ?_
    have ct := k_cut_TT (wp := []) (T := (WW a K KS st hs sc)) (wc := []) (wr := []) (tc := [(K, .int), (KS, .object "BarcodeWand$State")]) hG hS hA hK hP hD [] [] [0, 1] rfl rfl (by decide) (by decide) (by decide) rfl
    refine k_endi (As := [.ref (a 0), .int (nI en)]) ct (k_runSW (As := [.ref (a 0), .int (nI en)]) (rest := []) S0 Ls_L_163 ct (c_L_greatest l D a K KS st hs sc en hii.1 hen s.heap.size) hl.1 rfl (Nat.le_of_ble_eq_true rfl) rfl dL_smudges_2 ⟨⟨Nat.le_of_ble_eq_true rfl, Nat.le_of_ble_eq_true rfl⟩, Nat.le_of_ble_eq_true rfl, Nat.le_of_ble_eq_true rfl⟩) rfl rfl (fun gg sc1v_1 H locs hw_2 hP hD hK hS => ?_)
    have hK : va_K D vwCl [(K, .int), (KS, .object "BarcodeWand$State")] s := hK
    have hP : va_P D vwCl ((WW a K KS st hs sc1v_1)) H := hP
    have hD : va_D A ((WW a K KS st hs sc1v_1)) := hD
    have hw_2 : GS st en gg := hw_2
    rcases hw_2 with ⟨rfl, hg9⟩ | ⟨i, hi18, rfl, hgi, hno⟩
    · skip
      refine k_nrm (y := (-1)) (rfl) ?_
      refine lv_istore_n (lv' := [(2, .int (-1)), (0, .ref (a 0)), (1, .int (nI en))]) hx hb dL_smudges_5 rfl hl (by decide) rfl (fun ls hl => ?_)
      refine lv_iload_n hx hb dL_smudges_6 rfl (lv_at hl 2 rfl) ?_
      refine lv_aload_n hx hb dL_smudges_7 rfl (lv_at hl 1 rfl) ?_
      have ct := k_cut_TT (wp := []) (T := (WW a K KS st hs sc1v_1)) (wc := []) (wr := []) (tc := [(K, .int), (KS, .object "BarcodeWand$State")]) hG hS hA hK hP hD [] [] [0, 1] rfl rfl (by decide) (by decide) (by decide) rfl
      refine k_endi (As := [.ref (a 0)]) ct (k_runV (As := []) (rest := [.int (nI en)]) S0 Lv_L_96 rfl (ci := 7) (q0 := 0) rfl (WW_0 a K KS st hs sc1v_1) ct (c_B_elements l D a K KS st hs sc1v_1 H.size) hl.1 rfl (Nat.le_of_ble_eq_true rfl) rfl dL_smudges_8 ⟨⟨Nat.le_of_ble_eq_true rfl, Nat.le_of_ble_eq_true rfl⟩, Nat.le_of_ble_eq_true rfl, Nat.le_of_ble_eq_true rfl⟩) rfl rfl (fun r_3 _ H locs hw_4 hP hD hK hS => ?_)
      have hK : va_K D vwCl [(K, .int), (KS, .object "BarcodeWand$State")] s := hK
      have hP : va_P D vwCl ((WW a K KS st hs sc1v_1)) H := hP
      have hD : va_D A ((WW a K KS st hs sc1v_1)) := hD
      have hw_4 : r_3 = (nI (s_ns st)) := hw_4
      have hw_4 := hw_4.symm
      subst hw_4
      refine k_nrm (y := (nI (s_ns st))) rfl ?_
      refine lv_icmp_lt (tgt := 26) hx hb dL_smudges_11 (by decide) (fun c_5 => ?_) (fun c9 => absurd (nI_lt hen (by omega)) c9)
      refine lv_aload_n hx hb dL_smudges_26 rfl (lv_at hl 1 rfl) ?_
      have ct := k_cut_TT (wp := []) (T := (WW a K KS st hs sc1v_1)) (wc := []) (wr := []) (tc := [(K, .int), (KS, .object "BarcodeWand$State")]) hG hS hA hK hP hD [] [] [0, 1] rfl rfl (by decide) (by decide) (by decide) rfl
      refine k_endl (As := [.ref (a 0)]) ct (k_runS (As := [.ref (a 0)]) (rest := []) S0 Ls_L_153 ct (c_L_print0 l D a K KS st hs sc1v_1 hii.1 H.size) hl.1 rfl (Nat.le_of_ble_eq_true rfl) rfl dL_smudges_27 ⟨⟨Nat.le_of_ble_eq_true rfl, Nat.le_of_ble_eq_true rfl⟩, Nat.le_of_ble_eq_true rfl, Nat.le_of_ble_eq_true rfl⟩) rfl rfl (fun r_6 sc1v_7 H locs hw_8 hP hD hK hS => ?_)
      have hK : va_K D vwCl [(K, .int), (KS, .object "BarcodeWand$State")] s := hK
      have hP : va_P D vwCl ((WW a K KS st hs sc1v_7)) H := hP
      have hD : va_D A ((WW a K KS st hs sc1v_7)) := hD
      have hw_8 : r_6 = (P0 st) := hw_8
      have hw_8 := hw_8.symm
      subst hw_8
      refine k_nrml (y := (P0 st)) rfl ?_
      refine lv_lstore_n (lv' := [(3, .long (P0 st)), (2, .int (-1)), (0, .ref (a 0)), (1, .int (nI en))]) hx hb dL_smudges_30 rfl hl (by decide) rfl (fun ls hl => ?_)
      refine lv_aload_n hx hb dL_smudges_31 rfl (lv_at hl 2 rfl) ?_
      refine lv_iload_n hx hb dL_smudges_32 rfl (lv_at hl 3 rfl) ?_
      refine lv_bipush (v := 9) hx hb dL_smudges_33 (by decide) ?_
      have ct := k_cut_TT (wp := []) (T := (WW a K KS st hs sc1v_7)) (wc := []) (wr := []) (tc := [(K, .int), (KS, .object "BarcodeWand$State")]) hG hS hA hK hP hD [] [] [0, 1] rfl rfl (by decide) (by decide) (by decide) rfl
      refine k_endi (As := [.ref (a 0), .int (nI en), .int 9]) ct (k_runSW (As := [.ref (a 0), .int (nI en), .int 9]) (rest := []) S0 Ls_L_80 ct (c_L_smudge l D a K KS st hs sc1v_7 en 9 hii.1 hh (by decide) (by decide) hen H.size) hl.1 rfl (Nat.le_of_ble_eq_true rfl) rfl dL_smudges_35 ⟨⟨Nat.le_of_ble_eq_true rfl, Nat.le_of_ble_eq_true rfl⟩, Nat.le_of_ble_eq_true rfl, Nat.le_of_ble_eq_true rfl⟩) rfl rfl (fun r_9 _ H locs hw_10 hP hD hK hS => ?_)
      have hK : va_K D vwCl [(K, .int), (KS, .object "BarcodeWand$State")] s := hK
      have hP : va_P D vwCl ((WW a K KS (setZ en 9 st) (svH hs st) sc1v_7)) H := hP
      have hD : va_D A ((WW a K KS (setZ en 9 st) (svH hs st) sc1v_7)) := hD
      have hw_10 : r_9 = (s_zf st en) := hw_10
      have hw_10 := hw_10.symm
      subst hw_10
      refine k_nrm (y := (s_zf st en)) rfl ?_
      have hj1 := setZ_inv (e := en) hii (show ¬ (9 : Int32) < (-9) by decide) (show (9 : Int32) ≤ 9 by decide)
      have Z1 := zat_1 st en 9
      have R1 := zat_res Z1 hb2 hen
      have hh1 := okH_sv hh hii.1
      have K1 := stk_push st hh (Nat.le_of_ble_eq_true rfl) (stk_nil hs)
      have hen1 : en < s_ns (setZ en 9 st) := by rw [Z1.2.2.1]; exact hen
      refine lv_istore (lv' := [(5, .int (s_zf st en)), (3, .long (P0 st)), (2, .int (-1)), (0, .ref (a 0)), (1, .int (nI en))]) hx hb dL_smudges_38 hl (by decide) rfl (fun ls hl => ?_)
      refine lv_iload hx hb dL_smudges_40 (lv_at hl 0 rfl) ?_
      refine lv_bipush (v := (-9)) hx hb dL_smudges_42 (by decide) ?_
      refine lv_icmp_lt (tgt := 89) hx hb dL_smudges_44 (by decide) (fun c9 => absurd c9 hzm.1) (fun c_11 => ?_)
      refine lv_iload hx hb dL_smudges_47 (lv_at hl 0 rfl) ?_
      refine lv_bipush (v := 9) hx hb dL_smudges_49 (by decide) ?_
      refine lv_icmp_gt (tgt := 89) hx hb dL_smudges_51 (by decide) (fun c9 => absurd c9 (Int32.not_lt.mpr hzm.2)) (fun c_12 => ?_)
      refine lv_iload_n hx hb dL_smudges_54 rfl (lv_at hl 2 rfl) ?_
      refine lv_bipush (v := 109) hx hb dL_smudges_55 (by decide) ?_
      refine lv_icmp_ne (tgt := 64) hx hb dL_smudges_57 (by decide) (fun _ => ?_) (fun c9 => absurd c9 (by decide))
      refine lv_iconst (v := 0) hx hb dL_smudges_64 (by decide) ?_
      refine lv_aload_n hx hb dL_smudges_65 rfl (lv_at hl 3 rfl) ?_
      refine lv_bipush (v := 20) hx hb dL_smudges_66 (by decide) ?_
      refine lv_bipush (v := 20) hx hb dL_smudges_68 (by decide) ?_
      refine lv_iconst (v := 0) hx hb dL_smudges_70 (by decide) ?_
      have ct := k_cut_TT (wp := []) (T := (WW a K KS (setZ en 9 st) (svH hs st) sc1v_7)) (wc := []) (wr := []) (tc := [(K, .int), (KS, .object "BarcodeWand$State")]) hG hS hA hK hP hD [] [] [0, 1] rfl rfl (by decide) (by decide) (by decide) rfl
      refine k_endi (As := [.ref (a 0), .int 20, .int 20, .int 0]) ct (k_runSW (As := [.ref (a 0), .int 20, .int 20, .int 0]) (rest := [.int 0]) S0 Ls_L_151 ct (c_L_ifDrawn l D a K KS (setZ en 9 st) (svH hs st) sc1v_7 20 20 0 hj1.1 (by unfold k_per; decide) (by omega) H.size) hl.1 rfl (Nat.le_of_ble_eq_true rfl) rfl dL_smudges_71 ⟨⟨Nat.le_of_ble_eq_true rfl, Nat.le_of_ble_eq_true rfl⟩, Nat.le_of_ble_eq_true rfl, Nat.le_of_ble_eq_true rfl⟩) rfl rfl (fun r_13 sc1v_14 H locs hw_15 hP hD hK hS => ?_)
      have hK : va_K D vwCl [(K, .int), (KS, .object "BarcodeWand$State")] s := hK
      have hP : va_P D vwCl ((WW a K KS (setZ en 9 st) (svH hs st) sc1v_14)) H := hP
      have hD : va_D A ((WW a K KS (setZ en 9 st) (svH hs st) sc1v_14)) := hD
      have hw_15 : r_13 = resF (s_ns (setZ en 9 st)) (s_drw (setZ en 9 st) 20 20 0) (s_tol (setZ en 9 st)) := hw_15
      have hw_15 := hw_15.symm
      subst hw_15
      refine k_nrm (y := resF (s_ns (setZ en 9 st)) (s_drw (setZ en 9 st) 20 20 0) (s_tol (setZ en 9 st))) rfl ?_
      refine lv_if_ne (tgt := 81) hx hb dL_smudges_74 (by decide) (fun c_16 => ?_) (fun c9 => absurd c9 (fun q9 => hg9 (R1.mp q9)))
      refine lv_iconst (v := 0) hx hb dL_smudges_81 (by decide) ?_
      refine lv_icmp_ne (tgt := 89) hx hb dL_smudges_82 (by decide) (fun c9 => absurd (by decide) c9) (fun _ => ?_)
      refine lv_iconst (v := 1) hx hb dL_smudges_85 (by decide) ?_
      refine lv_goto (tgt := 90) hx hb dL_smudges_86 (by decide) ?_
      refine lv_istore (lv' := [(6, .int 1), (5, .int (s_zf st en)), (3, .long (P0 st)), (2, .int (-1)), (0, .ref (a 0)), (1, .int (nI en))]) hx hb dL_smudges_90 hl (by decide) rfl (fun ls hl => ?_)
      refine lv_iload_n hx hb dL_smudges_92 rfl (lv_at hl 3 rfl) ?_
      refine lv_iconst (v := (-1)) hx hb dL_smudges_93 (by decide) ?_
      refine lv_icmp_eq (tgt := 189) hx hb dL_smudges_94 (by decide) (fun _ => ?_) (fun c9 => absurd (by decide) c9)
      refine lv_iload hx hb dL_smudges_189 (lv_at hl 0 rfl) ?_
      refine lv_if_eq (tgt := 214) hx hb dL_smudges_191 (by decide) (fun c9 => absurd c9 (by decide)) (fun _ => ?_)
      refine lv_aload_n hx hb dL_smudges_194 rfl (lv_at hl 4 rfl) ?_
      have ct := k_cut_TT (wp := []) (T := (WW a K KS (setZ en 9 st) (svH hs st) sc1v_14)) (wc := []) (wr := []) (tc := [(K, .int), (KS, .object "BarcodeWand$State")]) hG hS hA hK hP hD [] [] [0, 1] rfl rfl (by decide) (by decide) (by decide) rfl
      refine k_endi (As := [.ref (a 0)]) ct (k_runSW (As := [.ref (a 0)]) (rest := []) S0 Ls_L_160 ct (c_L_undo l D a K KS (setZ en 9 st) (svH hs st) sc1v_14 hj1.1 hh1 ((stk_pop K1).1) H.size) hl.1 rfl (Nat.le_of_ble_eq_true rfl) rfl dL_smudges_195 ⟨⟨Nat.le_of_ble_eq_true rfl, Nat.le_of_ble_eq_true rfl⟩, Nat.le_of_ble_eq_true rfl, Nat.le_of_ble_eq_true rfl⟩) rfl rfl (fun r_17 st1v_18 H locs hw_19 hP hD hK hS => ?_)
      have hK : va_K D vwCl [(K, .int), (KS, .object "BarcodeWand$State")] s := hK
      have hP : va_P D vwCl ((WW a K KS st1v_18 (rsH (svH hs st)) sc1v_14)) H := hP
      have hD : va_D A ((WW a K KS st1v_18 (rsH (svH hs st)) sc1v_14)) := hD
      have hw_19 : r_17 = (nI (h_kp (svH hs st) - 1)) ∧ st1v_18 = rsS (svH hs st) (setZ en 9 st) := hw_19
      obtain ⟨u_20a, u_20b⟩ := hw_19
      refine k_nrm (y := (nI (h_kp (svH hs st) - 1))) (u_20a) ?_
      have u_20h := okH_rs hh1
      have u_20c : bST st1v_18 := by rw [u_20b]; exact bST_rs _ hh1
      have u_20k := (stk_pop K1).2.1
      have u_20v := (stk_pop K1).2.2 (setZ en 9 st)
      rw [← u_20b] at u_20v
      have u_20p : ¬ (nI (h_kp (svH hs st) - 1)) < 0 := nI_pos (by have := kp_6 hh1; omega)
      refine lv_if_lt (tgt := 214) hx hb dL_smudges_198 (by decide) (fun c9 => absurd c9 u_20p) (fun c_21 => ?_)
      refine lv_aload_n hx hb dL_smudges_201 rfl (lv_at hl 4 rfl) ?_
      have ct := k_cut_TT (wp := []) (T := (WW a K KS st1v_18 (rsH (svH hs st)) sc1v_14)) (wc := []) (wr := []) (tc := [(K, .int), (KS, .object "BarcodeWand$State")]) hG hS hA hK hP hD [] [] [0, 1] rfl rfl (by decide) (by decide) (by decide) rfl
      refine k_endl (As := [.ref (a 0)]) ct (k_runS (As := [.ref (a 0)]) (rest := []) S0 Ls_L_153 ct (c_L_print0 l D a K KS st1v_18 (rsH (svH hs st)) sc1v_14 u_20c H.size) hl.1 rfl (Nat.le_of_ble_eq_true rfl) rfl dL_smudges_202 ⟨⟨Nat.le_of_ble_eq_true rfl, Nat.le_of_ble_eq_true rfl⟩, Nat.le_of_ble_eq_true rfl, Nat.le_of_ble_eq_true rfl⟩) rfl rfl (fun r_22 sc1v_23 H locs hw_24 hP hD hK hS => ?_)
      have hK : va_K D vwCl [(K, .int), (KS, .object "BarcodeWand$State")] s := hK
      have hP : va_P D vwCl ((WW a K KS st1v_18 (rsH (svH hs st)) sc1v_23)) H := hP
      have hD : va_D A ((WW a K KS st1v_18 (rsH (svH hs st)) sc1v_23)) := hD
      have hw_24 : r_22 = (P0 st1v_18) := hw_24
      have hw_24 := hw_24.symm
      subst hw_24
      refine k_nrml (y := (P0 st1v_18)) rfl ?_
      refine lv_lload_n hx hb dL_smudges_205 rfl (lv_at hl 2 rfl) ?_
      refine W.lcmp hx hb dL_smudges_206 ?_
      refine k_nrm (y := 0) ((by rw [P0_view u_20v u_20c]; exact lgc _)) ?_
      refine lv_if_ne (tgt := 214) hx hb dL_smudges_207 (by decide) (fun c9 => absurd (by decide) c9) (fun _ => ?_)
      refine lv_iconst (v := 1) hx hb dL_smudges_210 (by decide) ?_
      refine lv_goto (tgt := 215) hx hb dL_smudges_211 (by decide) ?_
      have hP9 : va_P D vwCl ((WW a K KS st1v_18 (rsH (svH hs st)) sc1v_23)) H := k_subP (wp := []) (wp' := []) (T := (WW a K KS st1v_18 (rsH (svH hs st)) sc1v_23)) hP [] rfl
      have hD9 : va_D A ((WW a K KS st1v_18 (rsH (svH hs st)) sc1v_23)) := k_subD (wp := []) (wp' := []) (T := (WW a K KS st1v_18 (rsH (svH hs st)) sc1v_23)) hD [] (by decide) rfl
      have hP9 : va_P D vwCl ((WW a K KS st1v_18 (rsH (svH hs st)) sc1v_23)) H := hP9
      have hD9 : va_D A ((WW a K KS st1v_18 (rsH (svH hs st)) sc1v_23)) := hD9
      have hK9 : va_K D vwCl [] s := hK.sub [] rfl
      refine W.widen (k := 1) (n := 6) (by first | exact Nat.le_of_ble_eq_true rfl | omega) (by first | exact Nat.le_of_ble_eq_true rfl | omega) ?_
      exact W.zret (v := 1) hx hb hr (rfl) (fun t ht9 hW9 => ⟨⟨1, (st1v_18, (rsH (svH hs st)), sc1v_23), rfl, by (exact ⟨rfl, u_20h, u_20v⟩), ⟨by rw [ht9]; exact hP9, va_K.moved hW9.alike hK9, hD9⟩⟩, hS.F ht9⟩) hS.2.2 dL_smudges_215
    · rcases Nat.eq_zero_or_pos i with rfl | hi1
      · skip
        refine k_nrm (y := 109) (by decide) ?_
        refine lv_istore_n (lv' := [(2, .int 109), (0, .ref (a 0)), (1, .int (nI en))]) hx hb dL_smudges_5 rfl hl (by decide) rfl (fun ls hl => ?_)
        refine lv_iload_n hx hb dL_smudges_6 rfl (lv_at hl 2 rfl) ?_
        refine lv_aload_n hx hb dL_smudges_7 rfl (lv_at hl 1 rfl) ?_
        have ct := k_cut_TT (wp := []) (T := (WW a K KS st hs sc1v_1)) (wc := []) (wr := []) (tc := [(K, .int), (KS, .object "BarcodeWand$State")]) hG hS hA hK hP hD [] [] [0, 1] rfl rfl (by decide) (by decide) (by decide) rfl
        refine k_endi (As := [.ref (a 0)]) ct (k_runV (As := []) (rest := [.int (nI en)]) S0 Lv_L_96 rfl (ci := 7) (q0 := 0) rfl (WW_0 a K KS st hs sc1v_1) ct (c_B_elements l D a K KS st hs sc1v_1 H.size) hl.1 rfl (Nat.le_of_ble_eq_true rfl) rfl dL_smudges_8 ⟨⟨Nat.le_of_ble_eq_true rfl, Nat.le_of_ble_eq_true rfl⟩, Nat.le_of_ble_eq_true rfl, Nat.le_of_ble_eq_true rfl⟩) rfl rfl (fun r_25 _ H locs hw_26 hP hD hK hS => ?_)
        have hK : va_K D vwCl [(K, .int), (KS, .object "BarcodeWand$State")] s := hK
        have hP : va_P D vwCl ((WW a K KS st hs sc1v_1)) H := hP
        have hD : va_D A ((WW a K KS st hs sc1v_1)) := hD
        have hw_26 : r_25 = (nI (s_ns st)) := hw_26
        have hw_26 := hw_26.symm
        subst hw_26
        refine k_nrm (y := (nI (s_ns st))) rfl ?_
        refine lv_icmp_lt (tgt := 26) hx hb dL_smudges_11 (by decide) (fun c_27 => ?_) (fun c9 => absurd (nI_lt hen (by omega)) c9)
        refine lv_aload_n hx hb dL_smudges_26 rfl (lv_at hl 1 rfl) ?_
        have ct := k_cut_TT (wp := []) (T := (WW a K KS st hs sc1v_1)) (wc := []) (wr := []) (tc := [(K, .int), (KS, .object "BarcodeWand$State")]) hG hS hA hK hP hD [] [] [0, 1] rfl rfl (by decide) (by decide) (by decide) rfl
        refine k_endl (As := [.ref (a 0)]) ct (k_runS (As := [.ref (a 0)]) (rest := []) S0 Ls_L_153 ct (c_L_print0 l D a K KS st hs sc1v_1 hii.1 H.size) hl.1 rfl (Nat.le_of_ble_eq_true rfl) rfl dL_smudges_27 ⟨⟨Nat.le_of_ble_eq_true rfl, Nat.le_of_ble_eq_true rfl⟩, Nat.le_of_ble_eq_true rfl, Nat.le_of_ble_eq_true rfl⟩) rfl rfl (fun r_28 sc1v_29 H locs hw_30 hP hD hK hS => ?_)
        have hK : va_K D vwCl [(K, .int), (KS, .object "BarcodeWand$State")] s := hK
        have hP : va_P D vwCl ((WW a K KS st hs sc1v_29)) H := hP
        have hD : va_D A ((WW a K KS st hs sc1v_29)) := hD
        have hw_30 : r_28 = (P0 st) := hw_30
        have hw_30 := hw_30.symm
        subst hw_30
        refine k_nrml (y := (P0 st)) rfl ?_
        refine lv_lstore_n (lv' := [(3, .long (P0 st)), (2, .int 109), (0, .ref (a 0)), (1, .int (nI en))]) hx hb dL_smudges_30 rfl hl (by decide) rfl (fun ls hl => ?_)
        refine lv_aload_n hx hb dL_smudges_31 rfl (lv_at hl 2 rfl) ?_
        refine lv_iload_n hx hb dL_smudges_32 rfl (lv_at hl 3 rfl) ?_
        refine lv_bipush (v := 9) hx hb dL_smudges_33 (by decide) ?_
        have ct := k_cut_TT (wp := []) (T := (WW a K KS st hs sc1v_29)) (wc := []) (wr := []) (tc := [(K, .int), (KS, .object "BarcodeWand$State")]) hG hS hA hK hP hD [] [] [0, 1] rfl rfl (by decide) (by decide) (by decide) rfl
        refine k_endi (As := [.ref (a 0), .int (nI en), .int 9]) ct (k_runSW (As := [.ref (a 0), .int (nI en), .int 9]) (rest := []) S0 Ls_L_80 ct (c_L_smudge l D a K KS st hs sc1v_29 en 9 hii.1 hh (by decide) (by decide) hen H.size) hl.1 rfl (Nat.le_of_ble_eq_true rfl) rfl dL_smudges_35 ⟨⟨Nat.le_of_ble_eq_true rfl, Nat.le_of_ble_eq_true rfl⟩, Nat.le_of_ble_eq_true rfl, Nat.le_of_ble_eq_true rfl⟩) rfl rfl (fun r_31 _ H locs hw_32 hP hD hK hS => ?_)
        have hK : va_K D vwCl [(K, .int), (KS, .object "BarcodeWand$State")] s := hK
        have hP : va_P D vwCl ((WW a K KS (setZ en 9 st) (svH hs st) sc1v_29)) H := hP
        have hD : va_D A ((WW a K KS (setZ en 9 st) (svH hs st) sc1v_29)) := hD
        have hw_32 : r_31 = (s_zf st en) := hw_32
        have hw_32 := hw_32.symm
        subst hw_32
        refine k_nrm (y := (s_zf st en)) rfl ?_
        have hj1 := setZ_inv (e := en) hii (show ¬ (9 : Int32) < (-9) by decide) (show (9 : Int32) ≤ 9 by decide)
        have Z1 := zat_1 st en 9
        have R1 := zat_res Z1 hb2 hen
        have hh1 := okH_sv hh hii.1
        have K1 := stk_push st hh (Nat.le_of_ble_eq_true rfl) (stk_nil hs)
        have hen1 : en < s_ns (setZ en 9 st) := by rw [Z1.2.2.1]; exact hen
        refine lv_istore (lv' := [(5, .int (s_zf st en)), (3, .long (P0 st)), (2, .int 109), (0, .ref (a 0)), (1, .int (nI en))]) hx hb dL_smudges_38 hl (by decide) rfl (fun ls hl => ?_)
        refine lv_iload hx hb dL_smudges_40 (lv_at hl 0 rfl) ?_
        refine lv_bipush (v := (-9)) hx hb dL_smudges_42 (by decide) ?_
        refine lv_icmp_lt (tgt := 89) hx hb dL_smudges_44 (by decide) (fun c9 => absurd c9 hzm.1) (fun c_33 => ?_)
        refine lv_iload hx hb dL_smudges_47 (lv_at hl 0 rfl) ?_
        refine lv_bipush (v := 9) hx hb dL_smudges_49 (by decide) ?_
        refine lv_icmp_gt (tgt := 89) hx hb dL_smudges_51 (by decide) (fun c9 => absurd c9 (Int32.not_lt.mpr hzm.2)) (fun c_34 => ?_)
        refine lv_iload_n hx hb dL_smudges_54 rfl (lv_at hl 2 rfl) ?_
        refine lv_bipush (v := 109) hx hb dL_smudges_55 (by decide) ?_
        refine lv_icmp_ne (tgt := 64) hx hb dL_smudges_57 (by decide) (fun c9 => absurd (by decide) c9) (fun _ => ?_)
        refine lv_iconst (v := 1) hx hb dL_smudges_60 (by decide) ?_
        refine lv_goto (tgt := 65) hx hb dL_smudges_61 (by decide) ?_
        refine lv_aload_n hx hb dL_smudges_65 rfl (lv_at hl 3 rfl) ?_
        refine lv_bipush (v := 20) hx hb dL_smudges_66 (by decide) ?_
        refine lv_bipush (v := 20) hx hb dL_smudges_68 (by decide) ?_
        refine lv_iconst (v := 0) hx hb dL_smudges_70 (by decide) ?_
        have ct := k_cut_TT (wp := []) (T := (WW a K KS (setZ en 9 st) (svH hs st) sc1v_29)) (wc := []) (wr := []) (tc := [(K, .int), (KS, .object "BarcodeWand$State")]) hG hS hA hK hP hD [] [] [0, 1] rfl rfl (by decide) (by decide) (by decide) rfl
        refine k_endi (As := [.ref (a 0), .int 20, .int 20, .int 0]) ct (k_runSW (As := [.ref (a 0), .int 20, .int 20, .int 0]) (rest := [.int 1]) S0 Ls_L_151 ct (c_L_ifDrawn l D a K KS (setZ en 9 st) (svH hs st) sc1v_29 20 20 0 hj1.1 (by unfold k_per; decide) (by omega) H.size) hl.1 rfl (Nat.le_of_ble_eq_true rfl) rfl dL_smudges_71 ⟨⟨Nat.le_of_ble_eq_true rfl, Nat.le_of_ble_eq_true rfl⟩, Nat.le_of_ble_eq_true rfl, Nat.le_of_ble_eq_true rfl⟩) rfl rfl (fun r_35 sc1v_36 H locs hw_37 hP hD hK hS => ?_)
        have hK : va_K D vwCl [(K, .int), (KS, .object "BarcodeWand$State")] s := hK
        have hP : va_P D vwCl ((WW a K KS (setZ en 9 st) (svH hs st) sc1v_36)) H := hP
        have hD : va_D A ((WW a K KS (setZ en 9 st) (svH hs st) sc1v_36)) := hD
        have hw_37 : r_35 = resF (s_ns (setZ en 9 st)) (s_drw (setZ en 9 st) 20 20 0) (s_tol (setZ en 9 st)) := hw_37
        have hw_37 := hw_37.symm
        subst hw_37
        refine k_nrm (y := resF (s_ns (setZ en 9 st)) (s_drw (setZ en 9 st) 20 20 0) (s_tol (setZ en 9 st))) rfl ?_
        refine lv_if_ne (tgt := 81) hx hb dL_smudges_74 (by decide) (fun c9 => absurd (R1.mpr (by rw [td_0] at hgi; exact hgi)) c9) (fun c_38 => ?_)
        refine lv_iconst (v := 1) hx hb dL_smudges_77 (by decide) ?_
        refine lv_goto (tgt := 82) hx hb dL_smudges_78 (by decide) ?_
        refine lv_icmp_ne (tgt := 89) hx hb dL_smudges_82 (by decide) (fun c9 => absurd (by decide) c9) (fun _ => ?_)
        refine lv_iconst (v := 1) hx hb dL_smudges_85 (by decide) ?_
        refine lv_goto (tgt := 90) hx hb dL_smudges_86 (by decide) ?_
        refine lv_istore (lv' := [(6, .int 1), (5, .int (s_zf st en)), (3, .long (P0 st)), (2, .int 109), (0, .ref (a 0)), (1, .int (nI en))]) hx hb dL_smudges_90 hl (by decide) rfl (fun ls hl => ?_)
        refine lv_iload_n hx hb dL_smudges_92 rfl (lv_at hl 3 rfl) ?_
        refine lv_iconst (v := (-1)) hx hb dL_smudges_93 (by decide) ?_
        refine lv_icmp_eq (tgt := 189) hx hb dL_smudges_94 (by decide) (fun c9 => absurd c9 (by decide)) (fun _ => ?_)
        refine lv_iload_n hx hb dL_smudges_97 rfl (lv_at hl 3 rfl) ?_
        refine lv_bipush (v := 109) hx hb dL_smudges_98 (by decide) ?_
        refine lv_icmp_ge (tgt := 189) hx hb dL_smudges_100 (by decide) (fun _ => ?_) (fun c9 => absurd (by decide) c9)
        refine lv_iload hx hb dL_smudges_189 (lv_at hl 0 rfl) ?_
        refine lv_if_eq (tgt := 214) hx hb dL_smudges_191 (by decide) (fun c9 => absurd c9 (by decide)) (fun _ => ?_)
        refine lv_aload_n hx hb dL_smudges_194 rfl (lv_at hl 4 rfl) ?_
        have ct := k_cut_TT (wp := []) (T := (WW a K KS (setZ en 9 st) (svH hs st) sc1v_36)) (wc := []) (wr := []) (tc := [(K, .int), (KS, .object "BarcodeWand$State")]) hG hS hA hK hP hD [] [] [0, 1] rfl rfl (by decide) (by decide) (by decide) rfl
        refine k_endi (As := [.ref (a 0)]) ct (k_runSW (As := [.ref (a 0)]) (rest := []) S0 Ls_L_160 ct (c_L_undo l D a K KS (setZ en 9 st) (svH hs st) sc1v_36 hj1.1 hh1 ((stk_pop K1).1) H.size) hl.1 rfl (Nat.le_of_ble_eq_true rfl) rfl dL_smudges_195 ⟨⟨Nat.le_of_ble_eq_true rfl, Nat.le_of_ble_eq_true rfl⟩, Nat.le_of_ble_eq_true rfl, Nat.le_of_ble_eq_true rfl⟩) rfl rfl (fun r_39 st1v_40 H locs hw_41 hP hD hK hS => ?_)
        have hK : va_K D vwCl [(K, .int), (KS, .object "BarcodeWand$State")] s := hK
        have hP : va_P D vwCl ((WW a K KS st1v_40 (rsH (svH hs st)) sc1v_36)) H := hP
        have hD : va_D A ((WW a K KS st1v_40 (rsH (svH hs st)) sc1v_36)) := hD
        have hw_41 : r_39 = (nI (h_kp (svH hs st) - 1)) ∧ st1v_40 = rsS (svH hs st) (setZ en 9 st) := hw_41
        obtain ⟨u_42a, u_42b⟩ := hw_41
        refine k_nrm (y := (nI (h_kp (svH hs st) - 1))) (u_42a) ?_
        have u_42h := okH_rs hh1
        have u_42c : bST st1v_40 := by rw [u_42b]; exact bST_rs _ hh1
        have u_42k := (stk_pop K1).2.1
        have u_42v := (stk_pop K1).2.2 (setZ en 9 st)
        rw [← u_42b] at u_42v
        have u_42p : ¬ (nI (h_kp (svH hs st) - 1)) < 0 := nI_pos (by have := kp_6 hh1; omega)
        refine lv_if_lt (tgt := 214) hx hb dL_smudges_198 (by decide) (fun c9 => absurd c9 u_42p) (fun c_43 => ?_)
        refine lv_aload_n hx hb dL_smudges_201 rfl (lv_at hl 4 rfl) ?_
        have ct := k_cut_TT (wp := []) (T := (WW a K KS st1v_40 (rsH (svH hs st)) sc1v_36)) (wc := []) (wr := []) (tc := [(K, .int), (KS, .object "BarcodeWand$State")]) hG hS hA hK hP hD [] [] [0, 1] rfl rfl (by decide) (by decide) (by decide) rfl
        refine k_endl (As := [.ref (a 0)]) ct (k_runS (As := [.ref (a 0)]) (rest := []) S0 Ls_L_153 ct (c_L_print0 l D a K KS st1v_40 (rsH (svH hs st)) sc1v_36 u_42c H.size) hl.1 rfl (Nat.le_of_ble_eq_true rfl) rfl dL_smudges_202 ⟨⟨Nat.le_of_ble_eq_true rfl, Nat.le_of_ble_eq_true rfl⟩, Nat.le_of_ble_eq_true rfl, Nat.le_of_ble_eq_true rfl⟩) rfl rfl (fun r_44 sc1v_45 H locs hw_46 hP hD hK hS => ?_)
        have hK : va_K D vwCl [(K, .int), (KS, .object "BarcodeWand$State")] s := hK
        have hP : va_P D vwCl ((WW a K KS st1v_40 (rsH (svH hs st)) sc1v_45)) H := hP
        have hD : va_D A ((WW a K KS st1v_40 (rsH (svH hs st)) sc1v_45)) := hD
        have hw_46 : r_44 = (P0 st1v_40) := hw_46
        have hw_46 := hw_46.symm
        subst hw_46
        refine k_nrml (y := (P0 st1v_40)) rfl ?_
        refine lv_lload_n hx hb dL_smudges_205 rfl (lv_at hl 2 rfl) ?_
        refine W.lcmp hx hb dL_smudges_206 ?_
        refine k_nrm (y := 0) ((by rw [P0_view u_42v u_42c]; exact lgc _)) ?_
        refine lv_if_ne (tgt := 214) hx hb dL_smudges_207 (by decide) (fun c9 => absurd (by decide) c9) (fun _ => ?_)
        refine lv_iconst (v := 1) hx hb dL_smudges_210 (by decide) ?_
        refine lv_goto (tgt := 215) hx hb dL_smudges_211 (by decide) ?_
        have hP9 : va_P D vwCl ((WW a K KS st1v_40 (rsH (svH hs st)) sc1v_45)) H := k_subP (wp := []) (wp' := []) (T := (WW a K KS st1v_40 (rsH (svH hs st)) sc1v_45)) hP [] rfl
        have hD9 : va_D A ((WW a K KS st1v_40 (rsH (svH hs st)) sc1v_45)) := k_subD (wp := []) (wp' := []) (T := (WW a K KS st1v_40 (rsH (svH hs st)) sc1v_45)) hD [] (by decide) rfl
        have hP9 : va_P D vwCl ((WW a K KS st1v_40 (rsH (svH hs st)) sc1v_45)) H := hP9
        have hD9 : va_D A ((WW a K KS st1v_40 (rsH (svH hs st)) sc1v_45)) := hD9
        have hK9 : va_K D vwCl [] s := hK.sub [] rfl
        refine W.widen (k := 1) (n := 6) (by first | exact Nat.le_of_ble_eq_true rfl | omega) (by first | exact Nat.le_of_ble_eq_true rfl | omega) ?_
        exact W.zret (v := 1) hx hb hr (rfl) (fun t ht9 hW9 => ⟨⟨1, (st1v_40, (rsH (svH hs st)), sc1v_45), rfl, by (exact ⟨rfl, u_42h, u_42v⟩), ⟨by rw [ht9]; exact hP9, va_K.moved hW9.alike hK9, hD9⟩⟩, hS.F ht9⟩) hS.2.2 dL_smudges_215
      · skip
        refine k_nrm (y := (100 + td i)) (rfl) ?_
        refine lv_istore_n (lv' := [(2, .int (100 + td i)), (0, .ref (a 0)), (1, .int (nI en))]) hx hb dL_smudges_5 rfl hl (by decide) rfl (fun ls hl => ?_)
        refine lv_iload_n hx hb dL_smudges_6 rfl (lv_at hl 2 rfl) ?_
        refine lv_aload_n hx hb dL_smudges_7 rfl (lv_at hl 1 rfl) ?_
        have ct := k_cut_TT (wp := []) (T := (WW a K KS st hs sc1v_1)) (wc := []) (wr := []) (tc := [(K, .int), (KS, .object "BarcodeWand$State")]) hG hS hA hK hP hD [] [] [0, 1] rfl rfl (by decide) (by decide) (by decide) rfl
        refine k_endi (As := [.ref (a 0)]) ct (k_runV (As := []) (rest := [.int (nI en)]) S0 Lv_L_96 rfl (ci := 7) (q0 := 0) rfl (WW_0 a K KS st hs sc1v_1) ct (c_B_elements l D a K KS st hs sc1v_1 H.size) hl.1 rfl (Nat.le_of_ble_eq_true rfl) rfl dL_smudges_8 ⟨⟨Nat.le_of_ble_eq_true rfl, Nat.le_of_ble_eq_true rfl⟩, Nat.le_of_ble_eq_true rfl, Nat.le_of_ble_eq_true rfl⟩) rfl rfl (fun r_47 _ H locs hw_48 hP hD hK hS => ?_)
        have hK : va_K D vwCl [(K, .int), (KS, .object "BarcodeWand$State")] s := hK
        have hP : va_P D vwCl ((WW a K KS st hs sc1v_1)) H := hP
        have hD : va_D A ((WW a K KS st hs sc1v_1)) := hD
        have hw_48 : r_47 = (nI (s_ns st)) := hw_48
        have hw_48 := hw_48.symm
        subst hw_48
        refine k_nrm (y := (nI (s_ns st))) rfl ?_
        refine lv_icmp_lt (tgt := 26) hx hb dL_smudges_11 (by decide) (fun c_49 => ?_) (fun c9 => absurd (nI_lt hen (by omega)) c9)
        refine lv_aload_n hx hb dL_smudges_26 rfl (lv_at hl 1 rfl) ?_
        have ct := k_cut_TT (wp := []) (T := (WW a K KS st hs sc1v_1)) (wc := []) (wr := []) (tc := [(K, .int), (KS, .object "BarcodeWand$State")]) hG hS hA hK hP hD [] [] [0, 1] rfl rfl (by decide) (by decide) (by decide) rfl
        refine k_endl (As := [.ref (a 0)]) ct (k_runS (As := [.ref (a 0)]) (rest := []) S0 Ls_L_153 ct (c_L_print0 l D a K KS st hs sc1v_1 hii.1 H.size) hl.1 rfl (Nat.le_of_ble_eq_true rfl) rfl dL_smudges_27 ⟨⟨Nat.le_of_ble_eq_true rfl, Nat.le_of_ble_eq_true rfl⟩, Nat.le_of_ble_eq_true rfl, Nat.le_of_ble_eq_true rfl⟩) rfl rfl (fun r_50 sc1v_51 H locs hw_52 hP hD hK hS => ?_)
        have hK : va_K D vwCl [(K, .int), (KS, .object "BarcodeWand$State")] s := hK
        have hP : va_P D vwCl ((WW a K KS st hs sc1v_51)) H := hP
        have hD : va_D A ((WW a K KS st hs sc1v_51)) := hD
        have hw_52 : r_50 = (P0 st) := hw_52
        have hw_52 := hw_52.symm
        subst hw_52
        refine k_nrml (y := (P0 st)) rfl ?_
        refine lv_lstore_n (lv' := [(3, .long (P0 st)), (2, .int (100 + td i)), (0, .ref (a 0)), (1, .int (nI en))]) hx hb dL_smudges_30 rfl hl (by decide) rfl (fun ls hl => ?_)
        refine lv_aload_n hx hb dL_smudges_31 rfl (lv_at hl 2 rfl) ?_
        refine lv_iload_n hx hb dL_smudges_32 rfl (lv_at hl 3 rfl) ?_
        refine lv_bipush (v := 9) hx hb dL_smudges_33 (by decide) ?_
        have ct := k_cut_TT (wp := []) (T := (WW a K KS st hs sc1v_51)) (wc := []) (wr := []) (tc := [(K, .int), (KS, .object "BarcodeWand$State")]) hG hS hA hK hP hD [] [] [0, 1] rfl rfl (by decide) (by decide) (by decide) rfl
        refine k_endi (As := [.ref (a 0), .int (nI en), .int 9]) ct (k_runSW (As := [.ref (a 0), .int (nI en), .int 9]) (rest := []) S0 Ls_L_80 ct (c_L_smudge l D a K KS st hs sc1v_51 en 9 hii.1 hh (by decide) (by decide) hen H.size) hl.1 rfl (Nat.le_of_ble_eq_true rfl) rfl dL_smudges_35 ⟨⟨Nat.le_of_ble_eq_true rfl, Nat.le_of_ble_eq_true rfl⟩, Nat.le_of_ble_eq_true rfl, Nat.le_of_ble_eq_true rfl⟩) rfl rfl (fun r_53 _ H locs hw_54 hP hD hK hS => ?_)
        have hK : va_K D vwCl [(K, .int), (KS, .object "BarcodeWand$State")] s := hK
        have hP : va_P D vwCl ((WW a K KS (setZ en 9 st) (svH hs st) sc1v_51)) H := hP
        have hD : va_D A ((WW a K KS (setZ en 9 st) (svH hs st) sc1v_51)) := hD
        have hw_54 : r_53 = (s_zf st en) := hw_54
        have hw_54 := hw_54.symm
        subst hw_54
        refine k_nrm (y := (s_zf st en)) rfl ?_
        have hj1 := setZ_inv (e := en) hii (show ¬ (9 : Int32) < (-9) by decide) (show (9 : Int32) ≤ 9 by decide)
        have Z1 := zat_1 st en 9
        have R1 := zat_res Z1 hb2 hen
        have hh1 := okH_sv hh hii.1
        have K1 := stk_push st hh (Nat.le_of_ble_eq_true rfl) (stk_nil hs)
        have hen1 : en < s_ns (setZ en 9 st) := by rw [Z1.2.2.1]; exact hen
        refine lv_istore (lv' := [(5, .int (s_zf st en)), (3, .long (P0 st)), (2, .int (100 + td i)), (0, .ref (a 0)), (1, .int (nI en))]) hx hb dL_smudges_38 hl (by decide) rfl (fun ls hl => ?_)
        refine lv_iload hx hb dL_smudges_40 (lv_at hl 0 rfl) ?_
        refine lv_bipush (v := (-9)) hx hb dL_smudges_42 (by decide) ?_
        refine lv_icmp_lt (tgt := 89) hx hb dL_smudges_44 (by decide) (fun c9 => absurd c9 hzm.1) (fun c_55 => ?_)
        refine lv_iload hx hb dL_smudges_47 (lv_at hl 0 rfl) ?_
        refine lv_bipush (v := 9) hx hb dL_smudges_49 (by decide) ?_
        refine lv_icmp_gt (tgt := 89) hx hb dL_smudges_51 (by decide) (fun c9 => absurd c9 (Int32.not_lt.mpr hzm.2)) (fun c_56 => ?_)
        refine lv_iload_n hx hb dL_smudges_54 rfl (lv_at hl 2 rfl) ?_
        refine lv_bipush (v := 109) hx hb dL_smudges_55 (by decide) ?_
        refine lv_icmp_ne (tgt := 64) hx hb dL_smudges_57 (by decide) (fun c_57 => ?_) (fun c9 => absurd c9 ((td_one i hi18 hi1).2.1))
        refine lv_iconst (v := 0) hx hb dL_smudges_64 (by decide) ?_
        refine lv_aload_n hx hb dL_smudges_65 rfl (lv_at hl 3 rfl) ?_
        refine lv_bipush (v := 20) hx hb dL_smudges_66 (by decide) ?_
        refine lv_bipush (v := 20) hx hb dL_smudges_68 (by decide) ?_
        refine lv_iconst (v := 0) hx hb dL_smudges_70 (by decide) ?_
        have ct := k_cut_TT (wp := []) (T := (WW a K KS (setZ en 9 st) (svH hs st) sc1v_51)) (wc := []) (wr := []) (tc := [(K, .int), (KS, .object "BarcodeWand$State")]) hG hS hA hK hP hD [] [] [0, 1] rfl rfl (by decide) (by decide) (by decide) rfl
        refine k_endi (As := [.ref (a 0), .int 20, .int 20, .int 0]) ct (k_runSW (As := [.ref (a 0), .int 20, .int 20, .int 0]) (rest := [.int 0]) S0 Ls_L_151 ct (c_L_ifDrawn l D a K KS (setZ en 9 st) (svH hs st) sc1v_51 20 20 0 hj1.1 (by unfold k_per; decide) (by omega) H.size) hl.1 rfl (Nat.le_of_ble_eq_true rfl) rfl dL_smudges_71 ⟨⟨Nat.le_of_ble_eq_true rfl, Nat.le_of_ble_eq_true rfl⟩, Nat.le_of_ble_eq_true rfl, Nat.le_of_ble_eq_true rfl⟩) rfl rfl (fun r_58 sc1v_59 H locs hw_60 hP hD hK hS => ?_)
        have hK : va_K D vwCl [(K, .int), (KS, .object "BarcodeWand$State")] s := hK
        have hP : va_P D vwCl ((WW a K KS (setZ en 9 st) (svH hs st) sc1v_59)) H := hP
        have hD : va_D A ((WW a K KS (setZ en 9 st) (svH hs st) sc1v_59)) := hD
        have hw_60 : r_58 = resF (s_ns (setZ en 9 st)) (s_drw (setZ en 9 st) 20 20 0) (s_tol (setZ en 9 st)) := hw_60
        have hw_60 := hw_60.symm
        subst hw_60
        refine k_nrm (y := resF (s_ns (setZ en 9 st)) (s_drw (setZ en 9 st) 20 20 0) (s_tol (setZ en 9 st))) rfl ?_
        refine lv_if_ne (tgt := 81) hx hb dL_smudges_74 (by decide) (fun c_61 => ?_) (fun c9 => absurd c9 (fun q9 => hno 0 (by omega) (by rw [td_0]; exact R1.mp q9)))
        refine lv_iconst (v := 0) hx hb dL_smudges_81 (by decide) ?_
        refine lv_icmp_ne (tgt := 89) hx hb dL_smudges_82 (by decide) (fun c9 => absurd (by decide) c9) (fun _ => ?_)
        refine lv_iconst (v := 1) hx hb dL_smudges_85 (by decide) ?_
        refine lv_goto (tgt := 90) hx hb dL_smudges_86 (by decide) ?_
        refine lv_istore (lv' := [(6, .int 1), (5, .int (s_zf st en)), (3, .long (P0 st)), (2, .int (100 + td i)), (0, .ref (a 0)), (1, .int (nI en))]) hx hb dL_smudges_90 hl (by decide) rfl (fun ls hl => ?_)
        refine lv_iload_n hx hb dL_smudges_92 rfl (lv_at hl 3 rfl) ?_
        refine lv_iconst (v := (-1)) hx hb dL_smudges_93 (by decide) ?_
        refine lv_icmp_eq (tgt := 189) hx hb dL_smudges_94 (by decide) (fun c9 => absurd c9 ((td_one i hi18 hi1).2.2.1)) (fun c_62 => ?_)
        refine lv_iload_n hx hb dL_smudges_97 rfl (lv_at hl 3 rfl) ?_
        refine lv_bipush (v := 109) hx hb dL_smudges_98 (by decide) ?_
        refine lv_icmp_ge (tgt := 189) hx hb dL_smudges_100 (by decide) (fun c9 => absurd c9 ((td_one i hi18 hi1).2.2.2)) (fun c_63 => ?_)
        refine lv_iload hx hb dL_smudges_103 (lv_at hl 0 rfl) ?_
        refine lv_if_eq (tgt := 186) hx hb dL_smudges_105 (by decide) (fun c9 => absurd c9 (by decide)) (fun _ => ?_)
        refine lv_iload_n hx hb dL_smudges_108 rfl (lv_at hl 3 rfl) ?_
        refine lv_bipush (v := 91) hx hb dL_smudges_109 (by decide) ?_
        refine lv_icmp_lt (tgt := 186) hx hb dL_smudges_111 (by decide) (fun c9 => absurd c9 ((td_rng i hi18).2.2.2)) (fun c_64 => ?_)
        refine lv_aload_n hx hb dL_smudges_114 rfl (lv_at hl 4 rfl) ?_
        refine lv_iload_n hx hb dL_smudges_115 rfl (lv_at hl 5 rfl) ?_
        refine lv_iload_n hx hb dL_smudges_116 rfl (lv_at hl 3 rfl) ?_
        refine lv_bipush (v := 100) hx hb dL_smudges_117 (by decide) ?_
        refine lv_isub hx hb dL_smudges_119 ?_
        refine k_nrm (y := (td i)) ((td_rng i hi18).2.2.1) ?_
        have ct := k_cut_TT (wp := []) (T := (WW a K KS (setZ en 9 st) (svH hs st) sc1v_59)) (wc := []) (wr := []) (tc := [(K, .int), (KS, .object "BarcodeWand$State")]) hG hS hA hK hP hD [] [] [0, 1] rfl rfl (by decide) (by decide) (by decide) rfl
        refine k_endi (As := [.ref (a 0), .int (nI en), .int (td i)]) ct (k_runSW (As := [.ref (a 0), .int (nI en), .int (td i)]) (rest := []) S0 Ls_L_80 ct (c_L_smudge l D a K KS (setZ en 9 st) (svH hs st) sc1v_59 en (td i) hj1.1 hh1 ((td_rng i hi18).1) ((td_rng i hi18).2.1) hen1 H.size) hl.1 rfl (Nat.le_of_ble_eq_true rfl) rfl dL_smudges_120 ⟨⟨Nat.le_of_ble_eq_true rfl, Nat.le_of_ble_eq_true rfl⟩, Nat.le_of_ble_eq_true rfl, Nat.le_of_ble_eq_true rfl⟩) rfl rfl (fun r_65 _ H locs hw_66 hP hD hK hS => ?_)
        have hK : va_K D vwCl [(K, .int), (KS, .object "BarcodeWand$State")] s := hK
        have hP : va_P D vwCl ((WW a K KS (setZ en (td i) (setZ en 9 st)) (svH (svH hs st) (setZ en 9 st)) sc1v_59)) H := hP
        have hD : va_D A ((WW a K KS (setZ en (td i) (setZ en 9 st)) (svH (svH hs st) (setZ en 9 st)) sc1v_59)) := hD
        have hw_66 : r_65 = (s_zf (setZ en 9 st) en) := hw_66
        have hw_66 := hw_66.symm
        subst hw_66
        refine k_nrm (y := (s_zf (setZ en 9 st) en)) rfl ?_
        refine k_nrm (y := 9) (Z1.2.2.2.2.1) ?_
        have hj2 := setZ_inv (e := en) hj1 (td_rng i hi18).1 (td_rng i hi18).2.1
        have Z2 := zat_s Z1 (td i)
        have R2 := zat_res Z2 hb2 hen
        have hh2 := okH_sv hh1 hj1.1
        have K2 := stk_push (setZ en 9 st) hh1 (Nat.le_of_ble_eq_true rfl) K1
        have hen2 : en < s_ns (setZ en (td i) (setZ en 9 st)) := by rw [Z2.2.2.1]; exact hen
        refine lv_bipush (v := 9) hx hb dL_smudges_123 (by decide) ?_
        refine lv_icmp_ne (tgt := 186) hx hb dL_smudges_125 (by decide) (fun c9 => absurd (by decide) c9) (fun _ => ?_)
        refine lv_aload_n hx hb dL_smudges_128 rfl (lv_at hl 4 rfl) ?_
        refine lv_bipush (v := 20) hx hb dL_smudges_129 (by decide) ?_
        refine lv_bipush (v := 20) hx hb dL_smudges_131 (by decide) ?_
        refine lv_iconst (v := 0) hx hb dL_smudges_133 (by decide) ?_
        have ct := k_cut_TT (wp := []) (T := (WW a K KS (setZ en (td i) (setZ en 9 st)) (svH (svH hs st) (setZ en 9 st)) sc1v_59)) (wc := []) (wr := []) (tc := [(K, .int), (KS, .object "BarcodeWand$State")]) hG hS hA hK hP hD [] [] [0, 1] rfl rfl (by decide) (by decide) (by decide) rfl
        refine k_endi (As := [.ref (a 0), .int 20, .int 20, .int 0]) ct (k_runSW (As := [.ref (a 0), .int 20, .int 20, .int 0]) (rest := []) S0 Ls_L_151 ct (c_L_ifDrawn l D a K KS (setZ en (td i) (setZ en 9 st)) (svH (svH hs st) (setZ en 9 st)) sc1v_59 20 20 0 hj2.1 (by unfold k_per; decide) (by omega) H.size) hl.1 rfl (Nat.le_of_ble_eq_true rfl) rfl dL_smudges_134 ⟨⟨Nat.le_of_ble_eq_true rfl, Nat.le_of_ble_eq_true rfl⟩, Nat.le_of_ble_eq_true rfl, Nat.le_of_ble_eq_true rfl⟩) rfl rfl (fun r_67 sc1v_68 H locs hw_69 hP hD hK hS => ?_)
        have hK : va_K D vwCl [(K, .int), (KS, .object "BarcodeWand$State")] s := hK
        have hP : va_P D vwCl ((WW a K KS (setZ en (td i) (setZ en 9 st)) (svH (svH hs st) (setZ en 9 st)) sc1v_68)) H := hP
        have hD : va_D A ((WW a K KS (setZ en (td i) (setZ en 9 st)) (svH (svH hs st) (setZ en 9 st)) sc1v_68)) := hD
        have hw_69 : r_67 = resF (s_ns (setZ en (td i) (setZ en 9 st))) (s_drw (setZ en (td i) (setZ en 9 st)) 20 20 0) (s_tol (setZ en (td i) (setZ en 9 st))) := hw_69
        have hw_69 := hw_69.symm
        subst hw_69
        refine k_nrm (y := resF (s_ns (setZ en (td i) (setZ en 9 st))) (s_drw (setZ en (td i) (setZ en 9 st)) 20 20 0) (s_tol (setZ en (td i) (setZ en 9 st)))) rfl ?_
        refine lv_if_ne (tgt := 186) hx hb dL_smudges_137 (by decide) (fun c9 => absurd (R2.mpr hgi) c9) (fun c_70 => ?_)
        refine lv_aload_n hx hb dL_smudges_140 rfl (lv_at hl 4 rfl) ?_
        refine lv_iload_n hx hb dL_smudges_141 rfl (lv_at hl 5 rfl) ?_
        refine lv_iload_n hx hb dL_smudges_142 rfl (lv_at hl 3 rfl) ?_
        refine lv_bipush (v := 99) hx hb dL_smudges_143 (by decide) ?_
        refine lv_isub hx hb dL_smudges_145 ?_
        refine k_nrm (y := (td (i - 1))) ((td_one i hi18 hi1).1) ?_
        have ct := k_cut_TT (wp := []) (T := (WW a K KS (setZ en (td i) (setZ en 9 st)) (svH (svH hs st) (setZ en 9 st)) sc1v_68)) (wc := []) (wr := []) (tc := [(K, .int), (KS, .object "BarcodeWand$State")]) hG hS hA hK hP hD [] [] [0, 1] rfl rfl (by decide) (by decide) (by decide) rfl
        refine k_endi (As := [.ref (a 0), .int (nI en), .int (td (i - 1))]) ct (k_runSW (As := [.ref (a 0), .int (nI en), .int (td (i - 1))]) (rest := []) S0 Ls_L_80 ct (c_L_smudge l D a K KS (setZ en (td i) (setZ en 9 st)) (svH (svH hs st) (setZ en 9 st)) sc1v_68 en (td (i - 1)) hj2.1 hh2 ((td_rng (i - 1) (by omega)).1) ((td_rng (i - 1) (by omega)).2.1) hen2 H.size) hl.1 rfl (Nat.le_of_ble_eq_true rfl) rfl dL_smudges_146 ⟨⟨Nat.le_of_ble_eq_true rfl, Nat.le_of_ble_eq_true rfl⟩, Nat.le_of_ble_eq_true rfl, Nat.le_of_ble_eq_true rfl⟩) rfl rfl (fun r_71 _ H locs hw_72 hP hD hK hS => ?_)
        have hK : va_K D vwCl [(K, .int), (KS, .object "BarcodeWand$State")] s := hK
        have hP : va_P D vwCl ((WW a K KS (setZ en (td (i - 1)) (setZ en (td i) (setZ en 9 st))) (svH (svH (svH hs st) (setZ en 9 st)) (setZ en (td i) (setZ en 9 st))) sc1v_68)) H := hP
        have hD : va_D A ((WW a K KS (setZ en (td (i - 1)) (setZ en (td i) (setZ en 9 st))) (svH (svH (svH hs st) (setZ en 9 st)) (setZ en (td i) (setZ en 9 st))) sc1v_68)) := hD
        have hw_72 : r_71 = (s_zf (setZ en (td i) (setZ en 9 st)) en) := hw_72
        have hw_72 := hw_72.symm
        subst hw_72
        refine k_nrm (y := (s_zf (setZ en (td i) (setZ en 9 st)) en)) rfl ?_
        refine k_nrm (y := (td i)) (Z2.2.2.2.2.1) ?_
        have hj3 := setZ_inv (e := en) hj2 (td_rng (i - 1) (by omega)).1 (td_rng (i - 1) (by omega)).2.1
        have Z3 := zat_s Z2 (td (i - 1))
        have R3 := zat_res Z3 hb2 hen
        have hh3 := okH_sv hh2 hj2.1
        have K3 := stk_push (setZ en (td i) (setZ en 9 st)) hh2 (Nat.le_of_ble_eq_true rfl) K2
        have hen3 : en < s_ns (setZ en (td (i - 1)) (setZ en (td i) (setZ en 9 st))) := by rw [Z3.2.2.1]; exact hen
        refine lv_iload_n hx hb dL_smudges_149 rfl (lv_at hl 3 rfl) ?_
        refine lv_bipush (v := 100) hx hb dL_smudges_150 (by decide) ?_
        refine lv_isub hx hb dL_smudges_152 ?_
        refine k_nrm (y := (td i)) ((td_rng i hi18).2.2.1) ?_
        refine lv_icmp_ne (tgt := 186) hx hb dL_smudges_153 (by decide) (fun c9 => absurd rfl c9) (fun c_73 => ?_)
        refine lv_aload_n hx hb dL_smudges_156 rfl (lv_at hl 4 rfl) ?_
        refine lv_bipush (v := 20) hx hb dL_smudges_157 (by decide) ?_
        refine lv_bipush (v := 20) hx hb dL_smudges_159 (by decide) ?_
        refine lv_iconst (v := 0) hx hb dL_smudges_161 (by decide) ?_
        have ct := k_cut_TT (wp := []) (T := (WW a K KS (setZ en (td (i - 1)) (setZ en (td i) (setZ en 9 st))) (svH (svH (svH hs st) (setZ en 9 st)) (setZ en (td i) (setZ en 9 st))) sc1v_68)) (wc := []) (wr := []) (tc := [(K, .int), (KS, .object "BarcodeWand$State")]) hG hS hA hK hP hD [] [] [0, 1] rfl rfl (by decide) (by decide) (by decide) rfl
        refine k_endi (As := [.ref (a 0), .int 20, .int 20, .int 0]) ct (k_runSW (As := [.ref (a 0), .int 20, .int 20, .int 0]) (rest := []) S0 Ls_L_151 ct (c_L_ifDrawn l D a K KS (setZ en (td (i - 1)) (setZ en (td i) (setZ en 9 st))) (svH (svH (svH hs st) (setZ en 9 st)) (setZ en (td i) (setZ en 9 st))) sc1v_68 20 20 0 hj3.1 (by unfold k_per; decide) (by omega) H.size) hl.1 rfl (Nat.le_of_ble_eq_true rfl) rfl dL_smudges_162 ⟨⟨Nat.le_of_ble_eq_true rfl, Nat.le_of_ble_eq_true rfl⟩, Nat.le_of_ble_eq_true rfl, Nat.le_of_ble_eq_true rfl⟩) rfl rfl (fun r_74 sc1v_75 H locs hw_76 hP hD hK hS => ?_)
        have hK : va_K D vwCl [(K, .int), (KS, .object "BarcodeWand$State")] s := hK
        have hP : va_P D vwCl ((WW a K KS (setZ en (td (i - 1)) (setZ en (td i) (setZ en 9 st))) (svH (svH (svH hs st) (setZ en 9 st)) (setZ en (td i) (setZ en 9 st))) sc1v_75)) H := hP
        have hD : va_D A ((WW a K KS (setZ en (td (i - 1)) (setZ en (td i) (setZ en 9 st))) (svH (svH (svH hs st) (setZ en 9 st)) (setZ en (td i) (setZ en 9 st))) sc1v_75)) := hD
        have hw_76 : r_74 = resF (s_ns (setZ en (td (i - 1)) (setZ en (td i) (setZ en 9 st)))) (s_drw (setZ en (td (i - 1)) (setZ en (td i) (setZ en 9 st))) 20 20 0) (s_tol (setZ en (td (i - 1)) (setZ en (td i) (setZ en 9 st)))) := hw_76
        have hw_76 := hw_76.symm
        subst hw_76
        refine k_nrm (y := resF (s_ns (setZ en (td (i - 1)) (setZ en (td i) (setZ en 9 st)))) (s_drw (setZ en (td (i - 1)) (setZ en (td i) (setZ en 9 st))) 20 20 0) (s_tol (setZ en (td (i - 1)) (setZ en (td i) (setZ en 9 st))))) rfl ?_
        refine lv_if_eq (tgt := 186) hx hb dL_smudges_165 (by decide) (fun c9 => absurd c9 (fun q9 => hno (i - 1) (by omega) (R3.mp q9))) (fun c_77 => ?_)
        refine lv_aload_n hx hb dL_smudges_168 rfl (lv_at hl 4 rfl) ?_
        have ct := k_cut_TT (wp := []) (T := (WW a K KS (setZ en (td (i - 1)) (setZ en (td i) (setZ en 9 st))) (svH (svH (svH hs st) (setZ en 9 st)) (setZ en (td i) (setZ en 9 st))) sc1v_75)) (wc := []) (wr := []) (tc := [(K, .int), (KS, .object "BarcodeWand$State")]) hG hS hA hK hP hD [] [] [0, 1] rfl rfl (by decide) (by decide) (by decide) rfl
        refine k_endi (As := [.ref (a 0)]) ct (k_runSW (As := [.ref (a 0)]) (rest := []) S0 Ls_L_160 ct (c_L_undo l D a K KS (setZ en (td (i - 1)) (setZ en (td i) (setZ en 9 st))) (svH (svH (svH hs st) (setZ en 9 st)) (setZ en (td i) (setZ en 9 st))) sc1v_75 hj3.1 hh3 ((stk_pop K3).1) H.size) hl.1 rfl (Nat.le_of_ble_eq_true rfl) rfl dL_smudges_169 ⟨⟨Nat.le_of_ble_eq_true rfl, Nat.le_of_ble_eq_true rfl⟩, Nat.le_of_ble_eq_true rfl, Nat.le_of_ble_eq_true rfl⟩) rfl rfl (fun r_78 st1v_79 H locs hw_80 hP hD hK hS => ?_)
        have hK : va_K D vwCl [(K, .int), (KS, .object "BarcodeWand$State")] s := hK
        have hP : va_P D vwCl ((WW a K KS st1v_79 (rsH (svH (svH (svH hs st) (setZ en 9 st)) (setZ en (td i) (setZ en 9 st)))) sc1v_75)) H := hP
        have hD : va_D A ((WW a K KS st1v_79 (rsH (svH (svH (svH hs st) (setZ en 9 st)) (setZ en (td i) (setZ en 9 st)))) sc1v_75)) := hD
        have hw_80 : r_78 = (nI (h_kp (svH (svH (svH hs st) (setZ en 9 st)) (setZ en (td i) (setZ en 9 st))) - 1)) ∧ st1v_79 = rsS (svH (svH (svH hs st) (setZ en 9 st)) (setZ en (td i) (setZ en 9 st))) (setZ en (td (i - 1)) (setZ en (td i) (setZ en 9 st))) := hw_80
        obtain ⟨u_81a, u_81b⟩ := hw_80
        refine k_nrm (y := (nI (h_kp (svH (svH (svH hs st) (setZ en 9 st)) (setZ en (td i) (setZ en 9 st))) - 1))) (u_81a) ?_
        have u_81h := okH_rs hh3
        have u_81c : bST st1v_79 := by rw [u_81b]; exact bST_rs _ hh3
        have u_81k := (stk_pop K3).2.1
        have u_81v := (stk_pop K3).2.2 (setZ en (td (i - 1)) (setZ en (td i) (setZ en 9 st)))
        rw [← u_81b] at u_81v
        have u_81p : ¬ (nI (h_kp (svH (svH (svH hs st) (setZ en 9 st)) (setZ en (td i) (setZ en 9 st))) - 1)) < 0 := nI_pos (by have := kp_6 hh3; omega)
        refine lv_if_lt (tgt := 186) hx hb dL_smudges_172 (by decide) (fun c9 => absurd c9 u_81p) (fun c_82 => ?_)
        refine lv_aload_n hx hb dL_smudges_175 rfl (lv_at hl 4 rfl) ?_
        have ct := k_cut_TT (wp := []) (T := (WW a K KS st1v_79 (rsH (svH (svH (svH hs st) (setZ en 9 st)) (setZ en (td i) (setZ en 9 st)))) sc1v_75)) (wc := []) (wr := []) (tc := [(K, .int), (KS, .object "BarcodeWand$State")]) hG hS hA hK hP hD [] [] [0, 1] rfl rfl (by decide) (by decide) (by decide) rfl
        refine k_endi (As := [.ref (a 0)]) ct (k_runSW (As := [.ref (a 0)]) (rest := []) S0 Ls_L_160 ct (c_L_undo l D a K KS st1v_79 (rsH (svH (svH (svH hs st) (setZ en 9 st)) (setZ en (td i) (setZ en 9 st)))) sc1v_75 u_81c u_81h ((stk_pop u_81k).1) H.size) hl.1 rfl (Nat.le_of_ble_eq_true rfl) rfl dL_smudges_176 ⟨⟨Nat.le_of_ble_eq_true rfl, Nat.le_of_ble_eq_true rfl⟩, Nat.le_of_ble_eq_true rfl, Nat.le_of_ble_eq_true rfl⟩) rfl rfl (fun r_83 st1v_84 H locs hw_85 hP hD hK hS => ?_)
        have hK : va_K D vwCl [(K, .int), (KS, .object "BarcodeWand$State")] s := hK
        have hP : va_P D vwCl ((WW a K KS st1v_84 (rsH (rsH (svH (svH (svH hs st) (setZ en 9 st)) (setZ en (td i) (setZ en 9 st))))) sc1v_75)) H := hP
        have hD : va_D A ((WW a K KS st1v_84 (rsH (rsH (svH (svH (svH hs st) (setZ en 9 st)) (setZ en (td i) (setZ en 9 st))))) sc1v_75)) := hD
        have hw_85 : r_83 = (nI (h_kp (rsH (svH (svH (svH hs st) (setZ en 9 st)) (setZ en (td i) (setZ en 9 st)))) - 1)) ∧ st1v_84 = rsS (rsH (svH (svH (svH hs st) (setZ en 9 st)) (setZ en (td i) (setZ en 9 st)))) st1v_79 := hw_85
        obtain ⟨u_86a, u_86b⟩ := hw_85
        refine k_nrm (y := (nI (h_kp (rsH (svH (svH (svH hs st) (setZ en 9 st)) (setZ en (td i) (setZ en 9 st)))) - 1))) (u_86a) ?_
        have u_86h := okH_rs u_81h
        have u_86c : bST st1v_84 := by rw [u_86b]; exact bST_rs _ u_81h
        have u_86k := (stk_pop u_81k).2.1
        have u_86v := (stk_pop u_81k).2.2 st1v_79
        rw [← u_86b] at u_86v
        have u_86p : ¬ (nI (h_kp (rsH (svH (svH (svH hs st) (setZ en 9 st)) (setZ en (td i) (setZ en 9 st)))) - 1)) < 0 := nI_pos (by have := kp_6 u_81h; omega)
        refine lv_if_lt (tgt := 186) hx hb dL_smudges_179 (by decide) (fun c9 => absurd c9 u_86p) (fun c_87 => ?_)
        refine lv_iconst (v := 1) hx hb dL_smudges_182 (by decide) ?_
        refine lv_goto (tgt := 187) hx hb dL_smudges_183 (by decide) ?_
        refine lv_istore (lv' := [(6, .int 1), (5, .int (s_zf st en)), (3, .long (P0 st)), (2, .int (100 + td i)), (0, .ref (a 0)), (1, .int (nI en))]) hx hb dL_smudges_187 hl (by decide) rfl (fun ls hl => ?_)
        refine lv_iload hx hb dL_smudges_189 (lv_at hl 0 rfl) ?_
        refine lv_if_eq (tgt := 214) hx hb dL_smudges_191 (by decide) (fun c9 => absurd c9 (by decide)) (fun _ => ?_)
        refine lv_aload_n hx hb dL_smudges_194 rfl (lv_at hl 4 rfl) ?_
        have ct := k_cut_TT (wp := []) (T := (WW a K KS st1v_84 (rsH (rsH (svH (svH (svH hs st) (setZ en 9 st)) (setZ en (td i) (setZ en 9 st))))) sc1v_75)) (wc := []) (wr := []) (tc := [(K, .int), (KS, .object "BarcodeWand$State")]) hG hS hA hK hP hD [] [] [0, 1] rfl rfl (by decide) (by decide) (by decide) rfl
        refine k_endi (As := [.ref (a 0)]) ct (k_runSW (As := [.ref (a 0)]) (rest := []) S0 Ls_L_160 ct (c_L_undo l D a K KS st1v_84 (rsH (rsH (svH (svH (svH hs st) (setZ en 9 st)) (setZ en (td i) (setZ en 9 st))))) sc1v_75 u_86c u_86h ((stk_pop u_86k).1) H.size) hl.1 rfl (Nat.le_of_ble_eq_true rfl) rfl dL_smudges_195 ⟨⟨Nat.le_of_ble_eq_true rfl, Nat.le_of_ble_eq_true rfl⟩, Nat.le_of_ble_eq_true rfl, Nat.le_of_ble_eq_true rfl⟩) rfl rfl (fun r_88 st1v_89 H locs hw_90 hP hD hK hS => ?_)
        have hK : va_K D vwCl [(K, .int), (KS, .object "BarcodeWand$State")] s := hK
        have hP : va_P D vwCl ((WW a K KS st1v_89 (rsH (rsH (rsH (svH (svH (svH hs st) (setZ en 9 st)) (setZ en (td i) (setZ en 9 st)))))) sc1v_75)) H := hP
        have hD : va_D A ((WW a K KS st1v_89 (rsH (rsH (rsH (svH (svH (svH hs st) (setZ en 9 st)) (setZ en (td i) (setZ en 9 st)))))) sc1v_75)) := hD
        have hw_90 : r_88 = (nI (h_kp (rsH (rsH (svH (svH (svH hs st) (setZ en 9 st)) (setZ en (td i) (setZ en 9 st))))) - 1)) ∧ st1v_89 = rsS (rsH (rsH (svH (svH (svH hs st) (setZ en 9 st)) (setZ en (td i) (setZ en 9 st))))) st1v_84 := hw_90
        obtain ⟨u_91a, u_91b⟩ := hw_90
        refine k_nrm (y := (nI (h_kp (rsH (rsH (svH (svH (svH hs st) (setZ en 9 st)) (setZ en (td i) (setZ en 9 st))))) - 1))) (u_91a) ?_
        have u_91h := okH_rs u_86h
        have u_91c : bST st1v_89 := by rw [u_91b]; exact bST_rs _ u_86h
        have u_91k := (stk_pop u_86k).2.1
        have u_91v := (stk_pop u_86k).2.2 st1v_84
        rw [← u_91b] at u_91v
        have u_91p : ¬ (nI (h_kp (rsH (rsH (svH (svH (svH hs st) (setZ en 9 st)) (setZ en (td i) (setZ en 9 st))))) - 1)) < 0 := nI_pos (by have := kp_6 u_86h; omega)
        refine lv_if_lt (tgt := 214) hx hb dL_smudges_198 (by decide) (fun c9 => absurd c9 u_91p) (fun c_92 => ?_)
        refine lv_aload_n hx hb dL_smudges_201 rfl (lv_at hl 4 rfl) ?_
        have ct := k_cut_TT (wp := []) (T := (WW a K KS st1v_89 (rsH (rsH (rsH (svH (svH (svH hs st) (setZ en 9 st)) (setZ en (td i) (setZ en 9 st)))))) sc1v_75)) (wc := []) (wr := []) (tc := [(K, .int), (KS, .object "BarcodeWand$State")]) hG hS hA hK hP hD [] [] [0, 1] rfl rfl (by decide) (by decide) (by decide) rfl
        refine k_endl (As := [.ref (a 0)]) ct (k_runS (As := [.ref (a 0)]) (rest := []) S0 Ls_L_153 ct (c_L_print0 l D a K KS st1v_89 (rsH (rsH (rsH (svH (svH (svH hs st) (setZ en 9 st)) (setZ en (td i) (setZ en 9 st)))))) sc1v_75 u_91c H.size) hl.1 rfl (Nat.le_of_ble_eq_true rfl) rfl dL_smudges_202 ⟨⟨Nat.le_of_ble_eq_true rfl, Nat.le_of_ble_eq_true rfl⟩, Nat.le_of_ble_eq_true rfl, Nat.le_of_ble_eq_true rfl⟩) rfl rfl (fun r_93 sc1v_94 H locs hw_95 hP hD hK hS => ?_)
        have hK : va_K D vwCl [(K, .int), (KS, .object "BarcodeWand$State")] s := hK
        have hP : va_P D vwCl ((WW a K KS st1v_89 (rsH (rsH (rsH (svH (svH (svH hs st) (setZ en 9 st)) (setZ en (td i) (setZ en 9 st)))))) sc1v_94)) H := hP
        have hD : va_D A ((WW a K KS st1v_89 (rsH (rsH (rsH (svH (svH (svH hs st) (setZ en 9 st)) (setZ en (td i) (setZ en 9 st)))))) sc1v_94)) := hD
        have hw_95 : r_93 = (P0 st1v_89) := hw_95
        have hw_95 := hw_95.symm
        subst hw_95
        refine k_nrml (y := (P0 st1v_89)) rfl ?_
        refine lv_lload_n hx hb dL_smudges_205 rfl (lv_at hl 2 rfl) ?_
        refine W.lcmp hx hb dL_smudges_206 ?_
        refine k_nrm (y := 0) ((by rw [P0_view u_91v u_91c]; exact lgc _)) ?_
        refine lv_if_ne (tgt := 214) hx hb dL_smudges_207 (by decide) (fun c9 => absurd (by decide) c9) (fun _ => ?_)
        refine lv_iconst (v := 1) hx hb dL_smudges_210 (by decide) ?_
        refine lv_goto (tgt := 215) hx hb dL_smudges_211 (by decide) ?_
        have hP9 : va_P D vwCl ((WW a K KS st1v_89 (rsH (rsH (rsH (svH (svH (svH hs st) (setZ en 9 st)) (setZ en (td i) (setZ en 9 st)))))) sc1v_94)) H := k_subP (wp := []) (wp' := []) (T := (WW a K KS st1v_89 (rsH (rsH (rsH (svH (svH (svH hs st) (setZ en 9 st)) (setZ en (td i) (setZ en 9 st)))))) sc1v_94)) hP [] rfl
        have hD9 : va_D A ((WW a K KS st1v_89 (rsH (rsH (rsH (svH (svH (svH hs st) (setZ en 9 st)) (setZ en (td i) (setZ en 9 st)))))) sc1v_94)) := k_subD (wp := []) (wp' := []) (T := (WW a K KS st1v_89 (rsH (rsH (rsH (svH (svH (svH hs st) (setZ en 9 st)) (setZ en (td i) (setZ en 9 st)))))) sc1v_94)) hD [] (by decide) rfl
        have hP9 : va_P D vwCl ((WW a K KS st1v_89 (rsH (rsH (rsH (svH (svH (svH hs st) (setZ en 9 st)) (setZ en (td i) (setZ en 9 st)))))) sc1v_94)) H := hP9
        have hD9 : va_D A ((WW a K KS st1v_89 (rsH (rsH (rsH (svH (svH (svH hs st) (setZ en 9 st)) (setZ en (td i) (setZ en 9 st)))))) sc1v_94)) := hD9
        have hK9 : va_K D vwCl [] s := hK.sub [] rfl
        refine W.widen (k := 1) (n := 6) (by first | exact Nat.le_of_ble_eq_true rfl | omega) (by first | exact Nat.le_of_ble_eq_true rfl | omega) ?_
        exact W.zret (v := 1) hx hb hr (rfl) (fun t ht9 hW9 => ⟨⟨1, (st1v_89, (rsH (rsH (rsH (svH (svH (svH hs st) (setZ en 9 st)) (setZ en (td i) (setZ en 9 st)))))), sc1v_94), rfl, by (exact ⟨rfl, u_91h, u_91v⟩), ⟨by rw [ht9]; exact hP9, va_K.moved hW9.alike hK9, hD9⟩⟩, hS.F ht9⟩) hS.2.2 dL_smudges_215
  · skip
    refine lv_aload_n hx hb dL_smudges_0 rfl (lv_at hl 0 rfl) ?_
    refine lv_iload_n hx hb dL_smudges_1 rfl (lv_at hl 1 rfl) ?_
    have ct := k_cut_TT (wp := []) (T := (WW a K KS st hs sc)) (wc := []) (wr := []) (tc := [(K, .int), (KS, .object "BarcodeWand$State")]) hG hS hA hK hP hD [] [] [0, 1] rfl rfl (by decide) (by decide) (by decide) rfl
    refine k_endi (As := [.ref (a 0), .int (nI en)]) ct (k_runSW (As := [.ref (a 0), .int (nI en)]) (rest := []) S0 Ls_L_163 ct (c_L_greatestX l hst D a K KS st hs sc en (inR_out hen (by omega)) s.heap.size) hl.1 rfl (Nat.le_of_ble_eq_true rfl) rfl dL_smudges_2 ⟨⟨Nat.le_of_ble_eq_true rfl, Nat.le_of_ble_eq_true rfl⟩, Nat.le_of_ble_eq_true rfl, Nat.le_of_ble_eq_true rfl⟩) rfl rfl (fun gg _ H locs hw_96 hP hD hK hS => ?_)
    have hK : va_K D vwCl [(K, .int), (KS, .object "BarcodeWand$State")] s := hK
    have hP : va_P D vwCl ((WW a K KS st hs sc)) H := hP
    have hD : va_D A ((WW a K KS st hs sc)) := hD
    have hw_96 : gg = (-1000001) := hw_96
    have hw_96 := hw_96.symm
    subst hw_96
    refine k_nrm (y := (-1000001)) rfl ?_
    refine lv_istore_n (lv' := [(2, .int (-1000001)), (0, .ref (a 0)), (1, .int (nI en))]) hx hb dL_smudges_5 rfl hl (by decide) rfl (fun ls hl => ?_)
    refine lv_iload_n hx hb dL_smudges_6 rfl (lv_at hl 2 rfl) ?_
    refine lv_aload_n hx hb dL_smudges_7 rfl (lv_at hl 1 rfl) ?_
    have ct := k_cut_TT (wp := []) (T := (WW a K KS st hs sc)) (wc := []) (wr := []) (tc := [(K, .int), (KS, .object "BarcodeWand$State")]) hG hS hA hK hP hD [] [] [0, 1] rfl rfl (by decide) (by decide) (by decide) rfl
    refine k_endi (As := [.ref (a 0)]) ct (k_runV (As := []) (rest := [.int (nI en)]) S0 Lv_L_96 rfl (ci := 7) (q0 := 0) rfl (WW_0 a K KS st hs sc) ct (c_B_elements l D a K KS st hs sc H.size) hl.1 rfl (Nat.le_of_ble_eq_true rfl) rfl dL_smudges_8 ⟨⟨Nat.le_of_ble_eq_true rfl, Nat.le_of_ble_eq_true rfl⟩, Nat.le_of_ble_eq_true rfl, Nat.le_of_ble_eq_true rfl⟩) rfl rfl (fun r_97 _ H locs hw_98 hP hD hK hS => ?_)
    have hK : va_K D vwCl [(K, .int), (KS, .object "BarcodeWand$State")] s := hK
    have hP : va_P D vwCl ((WW a K KS st hs sc)) H := hP
    have hD : va_D A ((WW a K KS st hs sc)) := hD
    have hw_98 : r_97 = (nI (s_ns st)) := hw_98
    have hw_98 := hw_98.symm
    subst hw_98
    refine k_nrm (y := (nI (s_ns st))) rfl ?_
    refine lv_icmp_lt (tgt := 26) hx hb dL_smudges_11 (by decide) (fun c9 => absurd c9 (nI_nlt hen (by omega))) (fun c_99 => ?_)
    refine lv_iload_n hx hb dL_smudges_14 rfl (lv_at hl 0 rfl) ?_
    refine lv_ldc (v := (-1000001)) hx hb hown (ht _ lx_L_18) dL_smudges_15 ?_
    refine lv_icmp_ne (tgt := 24) hx hb dL_smudges_17 (by decide) (fun c9 => absurd (by decide) c9) (fun _ => ?_)
    refine lv_iconst (v := 1) hx hb dL_smudges_20 (by decide) ?_
    refine lv_goto (tgt := 25) hx hb dL_smudges_21 (by decide) ?_
    have hP9 : va_P D vwCl ((WW a K KS st hs sc)) H := k_subP (wp := []) (wp' := []) (T := (WW a K KS st hs sc)) hP [] rfl
    have hD9 : va_D A ((WW a K KS st hs sc)) := k_subD (wp := []) (wp' := []) (T := (WW a K KS st hs sc)) hD [] (by decide) rfl
    have hP9 : va_P D vwCl ((WW a K KS st hs sc)) H := hP9
    have hD9 : va_D A ((WW a K KS st hs sc)) := hD9
    have hK9 : va_K D vwCl [] s := hK.sub [] rfl
    exact W.zret (v := 1) hx hb hr (rfl) (fun t ht9 hW9 => ⟨⟨1, (st, hs, sc), rfl, by (exact ⟨rfl, hh, rfl⟩), ⟨by rw [ht9]; exact hP9, va_K.moved hW9.alike hK9, hD9⟩⟩, hS.F ht9⟩) hS.2.2 dL_smudges_25
