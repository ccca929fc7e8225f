theorem lk_L_low : Cond.code yL_low cL_low 2 (some .int) ∈ wsA := mA 219 rfl rfl
theorem ly_L_low : k_y yL_low 2 := ⟨by decide +kernel, by decide +kernel, by decide +kernel⟩
theorem ls_L_low : Cond.static yL_low ∈ wsA := mA 218 rfl rfl
theorem Ls_L_72 : k_LS RL 72 yL_low cL_low 2 (some .int) 2 := ⟨mA 217 rfl rfl, ls_L_low, li_BarcodeWandLaw, lk_L_low, ly_L_low⟩
theorem ly_L_print : k_y yL_print 3 := ⟨by decide +kernel, by decide +kernel, by decide +kernel⟩
theorem ls_L_print : Cond.static yL_print ∈ wsA := mA 222 rfl rfl
theorem Ls_L_77 : k_LW RL 77 yL_print cL_print 4 (some .int) [(0, 6, 7, 16)] 3 := ⟨mA 221 rfl rfl, ls_L_print, li_BarcodeWandLaw, mA 223 rfl rfl, ly_L_print⟩
theorem ly_L_smudge : k_y yL_smudge 3 := ⟨by decide +kernel, by decide +kernel, by decide +kernel⟩
set_option maxRecDepth 20000 in
theorem ls_L_smudge : Cond.static yL_smudge ∈ wsA := mA 399 rfl rfl
set_option maxRecDepth 20000 in
theorem Ls_L_80 : k_LW RL 80 yL_smudge cL_smudge 4 (some .int) [(0, 6, 7, 22), (0, 6, 11, 16)] 3 := ⟨mA 398 rfl rfl, ls_L_smudge, li_BarcodeWandLaw, mA 400 rfl rfl, ly_L_smudge⟩
theorem ly_L_measure : k_y yL_measure 2 := ⟨by decide +kernel, by decide +kernel, by decide +kernel⟩
set_option maxRecDepth 20000 in
theorem ls_L_measure : Cond.static yL_measure ∈ wsA := mA 434 rfl rfl
set_option maxRecDepth 20000 in
theorem Ls_L_82 : k_LW RL 82 yL_measure cL_measure 3 (some .int) [(0, 5, 6, 16), (0, 5, 10, 36)] 2 := ⟨mA 433 rfl rfl, ls_L_measure, li_BarcodeWandLaw, mA 435 rfl rfl, ly_L_measure⟩
set_option maxRecDepth 20000 in
theorem lk_X7_read : Cond.code yX7_read cX7_read 1 (some .int) ∈ wsA := mA 456 rfl rfl
theorem ly_X7_read : k_y yX7_read 0 := ⟨by decide +kernel, by decide +kernel, by decide +kernel⟩
set_option maxRecDepth 20000 in
theorem lm_X7_read : Cond.instanceMethod yX7_read ∈ wsA := mA 454 rfl rfl
set_option maxRecDepth 20000 in
theorem le_X7_read : Cond.selects (yX7_read).cls yX7_read yX7_read ∈ wsA := mA 455 rfl rfl
set_option maxRecDepth 20000 in
theorem Lv_L_88 : k_LV RL 88 yX7_read cX7_read 1 (some .int) 0 := ⟨mA 453 rfl rfl, lm_X7_read, le_X7_read, li_BarcodeWand, lk_X7_read, ly_X7_read⟩
set_option maxRecDepth 20000 in
theorem lk_X7_clearMeasurement : Cond.code yX7_clearMeasurement cX7_clearMeasurement 2 (some .int) ∈ wsA := mA 451 rfl rfl
theorem ly_X7_clearMeasurement : k_y yX7_clearMeasurement 0 := ⟨by decide +kernel, by decide +kernel, by decide +kernel⟩
set_option maxRecDepth 20000 in
theorem lm_X7_clearMeasurement : Cond.instanceMethod yX7_clearMeasurement ∈ wsA := mA 449 rfl rfl
set_option maxRecDepth 20000 in
theorem le_X7_clearMeasurement : Cond.selects (yX7_clearMeasurement).cls yX7_clearMeasurement yX7_clearMeasurement ∈ wsA := mA 450 rfl rfl
set_option maxRecDepth 20000 in
theorem Lv_L_85 : k_LV RL 85 yX7_clearMeasurement cX7_clearMeasurement 2 (some .int) 0 := ⟨mA 448 rfl rfl, lm_X7_clearMeasurement, le_X7_clearMeasurement, li_BarcodeWand, lk_X7_clearMeasurement, ly_X7_clearMeasurement⟩
theorem ly_L_setTolerance : k_y yL_setTolerance 2 := ⟨by decide +kernel, by decide +kernel, by decide +kernel⟩
set_option maxRecDepth 20000 in
theorem ls_L_setTolerance : Cond.static yL_setTolerance ∈ wsA := mA 526 rfl rfl
set_option maxRecDepth 20000 in
theorem Ls_L_91 : k_LW RL 91 yL_setTolerance cL_setTolerance 3 (some .int) [(0, 5, 6, 16)] 2 := ⟨mA 525 rfl rfl, ls_L_setTolerance, li_BarcodeWandLaw, mA 527 rfl rfl, ly_L_setTolerance⟩
theorem ly_L_draw : k_y yL_draw 4 := ⟨by decide +kernel, by decide +kernel, by decide +kernel⟩
set_option maxRecDepth 20000 in
theorem ls_L_draw : Cond.static yL_draw ∈ wsA := mA 534 rfl rfl
set_option maxRecDepth 20000 in
theorem Ls_L_93 : k_LW RL 93 yL_draw cL_draw 5 (some .int) [(0, 7, 8, 16), (0, 7, 13, 36)] 4 := ⟨mA 533 rfl rfl, ls_L_draw, li_BarcodeWandLaw, mA 535 rfl rfl, ly_L_draw⟩
theorem dL_act_0 : decode cL_act 0 = .ok (.iload_n 1, 1) := by decide +kernel
theorem dL_act_1 : decode cL_act 1 = .ok (.bipush 12, 2) := by decide +kernel
theorem dL_act_3 : decode cL_act 3 = .ok (.invokestatic 72, 3) := by decide +kernel
theorem dL_act_6 : decode cL_act 6 = .ok (.tableswitch 134 0 7 #[46, 46, 66, 66, 66, 88, 101, 121], 46) := by decide +kernel
theorem dL_act_52 : decode cL_act 52 = .ok (.aload_n 0, 1) := by decide +kernel
theorem dL_act_53 : decode cL_act 53 = .ok (.iload_n 2, 1) := by decide +kernel
theorem dL_act_54 : decode cL_act 54 = .ok (.bipush 100, 2) := by decide +kernel
theorem dL_act_56 : decode cL_act 56 = .ok (.invokestatic 72, 3) := by decide +kernel
theorem dL_act_59 : decode cL_act 59 = .ok (.iload_n 1, 1) := by decide +kernel
theorem dL_act_60 : decode cL_act 60 = .ok (.iconst 4, 1) := by decide +kernel
theorem dL_act_61 : decode cL_act 61 = .ok (.ishr, 1) := by decide +kernel
theorem dL_act_62 : decode cL_act 62 = .ok (.iconst 3, 1) := by decide +kernel
theorem dL_act_63 : decode cL_act 63 = .ok (.invokestatic 72, 3) := by decide +kernel
theorem dL_act_66 : decode cL_act 66 = .ok (.iconst 2, 1) := by decide +kernel
theorem dL_act_67 : decode cL_act 67 = .ok (.iadd, 1) := by decide +kernel
theorem dL_act_68 : decode cL_act 68 = .ok (.invokestatic 77, 3) := by decide +kernel
theorem dL_act_71 : decode cL_act 71 = .ok (.ireturn, 1) := by decide +kernel
theorem dL_act_72 : decode cL_act 72 = .ok (.aload_n 0, 1) := by decide +kernel
theorem dL_act_73 : decode cL_act 73 = .ok (.iload_n 1, 1) := by decide +kernel
theorem dL_act_74 : decode cL_act 74 = .ok (.iconst 4, 1) := by decide +kernel
theorem dL_act_75 : decode cL_act 75 = .ok (.ishr, 1) := by decide +kernel
theorem dL_act_76 : decode cL_act 76 = .ok (.bipush 22, 2) := by decide +kernel
theorem dL_act_78 : decode cL_act 78 = .ok (.invokestatic 72, 3) := by decide +kernel
theorem dL_act_81 : decode cL_act 81 = .ok (.iload_n 2, 1) := by decide +kernel
theorem dL_act_82 : decode cL_act 82 = .ok (.bipush 19, 2) := by decide +kernel
theorem dL_act_84 : decode cL_act 84 = .ok (.invokestatic 72, 3) := by decide +kernel
theorem dL_act_87 : decode cL_act 87 = .ok (.bipush 9, 2) := by decide +kernel
theorem dL_act_89 : decode cL_act 89 = .ok (.isub, 1) := by decide +kernel
theorem dL_act_90 : decode cL_act 90 = .ok (.invokestatic 80, 3) := by decide +kernel
theorem dL_act_93 : decode cL_act 93 = .ok (.ireturn, 1) := by decide +kernel
theorem dL_act_94 : decode cL_act 94 = .ok (.aload_n 0, 1) := by decide +kernel
theorem dL_act_95 : decode cL_act 95 = .ok (.iconst 1, 1) := by decide +kernel
theorem dL_act_96 : decode cL_act 96 = .ok (.iload_n 2, 1) := by decide +kernel
theorem dL_act_97 : decode cL_act 97 = .ok (.bipush 60, 2) := by decide +kernel
theorem dL_act_99 : decode cL_act 99 = .ok (.invokestatic 72, 3) := by decide +kernel
theorem dL_act_102 : decode cL_act 102 = .ok (.iadd, 1) := by decide +kernel
theorem dL_act_103 : decode cL_act 103 = .ok (.invokestatic 82, 3) := by decide +kernel
theorem dL_act_106 : decode cL_act 106 = .ok (.ireturn, 1) := by decide +kernel
theorem dL_act_107 : decode cL_act 107 = .ok (.iload_n 2, 1) := by decide +kernel
theorem dL_act_108 : decode cL_act 108 = .ok (.iconst 3, 1) := by decide +kernel
theorem dL_act_109 : decode cL_act 109 = .ok (.invokestatic 72, 3) := by decide +kernel
theorem dL_act_112 : decode cL_act 112 = .ok (.ifCond .ne 10, 3) := by decide +kernel
theorem dL_act_115 : decode cL_act 115 = .ok (.aload_n 0, 1) := by decide +kernel
theorem dL_act_116 : decode cL_act 116 = .ok (.invokevirtual 85, 3) := by decide +kernel
theorem dL_act_119 : decode cL_act 119 = .ok (.goto 7, 3) := by decide +kernel
theorem dL_act_122 : decode cL_act 122 = .ok (.aload_n 0, 1) := by decide +kernel
theorem dL_act_123 : decode cL_act 123 = .ok (.invokevirtual 88, 3) := by decide +kernel
theorem dL_act_126 : decode cL_act 126 = .ok (.ireturn, 1) := by decide +kernel
theorem dL_act_127 : decode cL_act 127 = .ok (.aload_n 0, 1) := by decide +kernel
theorem dL_act_128 : decode cL_act 128 = .ok (.iconst 1, 1) := by decide +kernel
theorem dL_act_129 : decode cL_act 129 = .ok (.iload_n 2, 1) := by decide +kernel
theorem dL_act_130 : decode cL_act 130 = .ok (.bipush 8, 2) := by decide +kernel
theorem dL_act_132 : decode cL_act 132 = .ok (.invokestatic 72, 3) := by decide +kernel
theorem dL_act_135 : decode cL_act 135 = .ok (.iadd, 1) := by decide +kernel
theorem dL_act_136 : decode cL_act 136 = .ok (.invokestatic 91, 3) := by decide +kernel
theorem dL_act_139 : decode cL_act 139 = .ok (.ireturn, 1) := by decide +kernel
theorem dL_act_140 : decode cL_act 140 = .ok (.aload_n 0, 1) := by decide +kernel
theorem dL_act_141 : decode cL_act 141 = .ok (.iconst 1, 1) := by decide +kernel
theorem dL_act_142 : decode cL_act 142 = .ok (.iload_n 2, 1) := by decide +kernel
theorem dL_act_143 : decode cL_act 143 = .ok (.bipush 20, 2) := by decide +kernel
theorem dL_act_145 : decode cL_act 145 = .ok (.invokestatic 72, 3) := by decide +kernel
theorem dL_act_148 : decode cL_act 148 = .ok (.iadd, 1) := by decide +kernel
theorem dL_act_149 : decode cL_act 149 = .ok (.iconst 1, 1) := by decide +kernel
theorem dL_act_150 : decode cL_act 150 = .ok (.iload_n 2, 1) := by decide +kernel
theorem dL_act_151 : decode cL_act 151 = .ok (.bipush 9, 2) := by decide +kernel
theorem dL_act_153 : decode cL_act 153 = .ok (.ishr, 1) := by decide +kernel
theorem dL_act_154 : decode cL_act 154 = .ok (.iconst 2, 1) := by decide +kernel
theorem dL_act_155 : decode cL_act 155 = .ok (.invokestatic 72, 3) := by decide +kernel
theorem dL_act_158 : decode cL_act 158 = .ok (.ifCond .ne 7, 3) := by decide +kernel
theorem dL_act_161 : decode cL_act 161 = .ok (.iload_n 2, 1) := by decide +kernel
theorem dL_act_162 : decode cL_act 162 = .ok (.goto 6, 3) := by decide +kernel
theorem dL_act_165 : decode cL_act 165 = .ok (.iload_n 2, 1) := by decide +kernel
theorem dL_act_166 : decode cL_act 166 = .ok (.iconst 4, 1) := by decide +kernel
theorem dL_act_167 : decode cL_act 167 = .ok (.ishr, 1) := by decide +kernel
theorem dL_act_168 : decode cL_act 168 = .ok (.bipush 20, 2) := by decide +kernel
theorem dL_act_170 : decode cL_act 170 = .ok (.invokestatic 72, 3) := by decide +kernel
theorem dL_act_173 : decode cL_act 173 = .ok (.iadd, 1) := by decide +kernel
theorem dL_act_174 : decode cL_act 174 = .ok (.iload_n 1, 1) := by decide +kernel
theorem dL_act_175 : decode cL_act 175 = .ok (.iconst 5, 1) := by decide +kernel
theorem dL_act_176 : decode cL_act 176 = .ok (.ishr, 1) := by decide +kernel
theorem dL_act_177 : decode cL_act 177 = .ok (.iconst 2, 1) := by decide +kernel
theorem dL_act_178 : decode cL_act 178 = .ok (.invokestatic 72, 3) := by decide +kernel
theorem dL_act_181 : decode cL_act 181 = .ok (.ifCond .ne 7, 3) := by decide +kernel
theorem dL_act_184 : decode cL_act 184 = .ok (.iconst 1, 1) := by decide +kernel
theorem dL_act_185 : decode cL_act 185 = .ok (.goto 4, 3) := by decide +kernel
theorem dL_act_188 : decode cL_act 188 = .ok (.iconst 0, 1) := by decide +kernel
theorem dL_act_189 : decode cL_act 189 = .ok (.invokestatic 93, 3) := by decide +kernel
theorem dL_act_192 : decode cL_act 192 = .ok (.ireturn, 1) := by decide +kernel
set_option maxHeartbeats 4000000 in
set_option maxRecDepth 100000 in
theorem c_L_act (l : Launch) (hst : l.stackTraces = false) (D : va_G) (a : Nat → Nat) (K : ClassId) (KS : ClassId) (st : ST) (hs : HT) (sc : SCT) (N : Nat) (xx : Int32) (yy : Int32) (hii : invS N st) (hh : okH hs) (sz : Nat) : k_Mi (S := ST × HT × SCT) l D yL_act cL_act 3 (some .int) 9 1 6 174 [.ref (a 0), .int xx, .int yy] ((WW a K KS st hs sc)) [(K, .int), (KS, .object "BarcodeWand$State")] (fun (r : Int32) (u : ST × HT × SCT) => match u with | (st1, hs1, sc1) => r = actV st xx yy ∧ ((¬ r < (-1000) ∧ hs1 = svH hs st ∧ invS (N + 1) st1) ∨ (r < (-1000) ∧ hs1 = hs ∧ st1 = st))) (fun u => match u with | (st1, hs1, sc1) => ((WW a K KS st1 hs1 sc1))) (fun u => match u with | (st1, hs1, sc1) => []) sz := by
  refine Met.ofW (cc := cL_act) (maxL := 3) (ret := (some .int)) (by decide) rfl ?_
  intro p e s m args below meth c s₁ B hml hv
  obtain ⟨rfl, hsz, hP, hK, hD0, hG⟩ := hv
  have hx := B.exec
  have hb := B.bytes
  have hr := B.returns
  have ht : ∀ v9 ∈ wsA, v9.before ([.ref (a 0), .int xx, .int yy] : List Value).toArray s = true := fun v9 h9 => atoms_spec (ws := k_ws yL_act cL_act 3 (some .int)) B.pre v9 (List.mem_cons_of_mem _ h9)
  have hown : s.vm.findClass RL = some m.cls := findClass_of_methodNamed B.named
  have S0 : k_C p s m ([.ref (a 0), .int xx, .int yy] : List Value).toArray c cL_act 3 RL := ⟨hx, hb, hml, hown, ht⟩
  have hlocks := B.notSynchronized
  subst hsz
  have hD := hD0.self (sz := s.heap.size)
  generalize hAe : va_A ((WW a K KS st hs sc)) s.heap.size = A at hD hG ⊢
  have hA : ∀ q : Nat, s.heap.size ≤ q → A q := fun q h => by rw [← hAe]; exact Or.inr h
  have hS : va_S A s.heap s.heap [] := va_S.rf
  have hl := lv_entry ([.ref (a 0), .int xx, .int yy]) (n := 3) (Nat.le_of_ble_eq_true rfl)
  rw [lg_entry_eq]
  generalize (lg_sl ([.ref (a 0), .int xx, .int yy]) ++ List.replicate (3 - (lg_sl ([.ref (a 0), .int xx, .int yy])).length) Slot.unset).toArray = ls at hl ⊢
  have hl : lv_has ls 3 [(0, .ref (a 0)), (1, .int xx), (2, .int yy)] := hl
  have hP : va_P D vwCl ((WW a K KS st hs sc)) s.heap := hP
  obtain ⟨hb1, hb2, hb3, hb4⟩ := bST_le hii.1
  refine lv_iload_n hx hb dL_act_0 rfl (lv_at hl 1 rfl) ?_
  refine lv_bipush (v := 12) hx hb dL_act_1 (by decide) ?_
  have ct := k_cut_T (wp := []) (T := (WW a K KS st hs sc)) (wc := []) (wr := []) (tc := []) hG hS hA hK hP hD [] [] [] rfl rfl (by decide) (by decide) (by decide) rfl
  refine k_endi (As := [.int xx, .int 12]) ct (k_runS (As := [.int xx, .int 12]) (rest := []) S0 Ls_L_72 ct (c_low l D xx 12 (by first | assumption | decide) s.heap.size) hl.1 rfl (Nat.le_of_ble_eq_true rfl) rfl dL_act_3 ⟨⟨Nat.le_of_ble_eq_true rfl, Nat.le_of_ble_eq_true rfl⟩, Nat.le_of_ble_eq_true rfl, Nat.le_of_ble_eq_true rfl⟩) rfl rfl (fun r_1 _ H locs hw_2 hP hD hK hS => ?_)
  have hP : va_P D vwCl ((WW a K KS st hs sc)) H := k_swapP (a := []) (b := (WW a K KS st hs sc)) (c := []) hP
  have hD : va_D A ((WW a K KS st hs sc)) := va_D.swap (a := []) (b := (WW a K KS st hs sc)) (c := []) hD
  have hK : va_K D vwCl [(K, .int), (KS, .object "BarcodeWand$State")] s := hK
  have hP : va_P D vwCl ((WW a K KS st hs sc)) H := hP
  have hD : va_D A ((WW a K KS st hs sc)) := hD
  have hw_2 : r_1 = (lowF xx 12) := hw_2
  have hw_2 := hw_2.symm
  subst hw_2
  refine k_nrm (y := (lowF xx 12)) rfl ?_
  obtain ⟨q, hq, hqe⟩ := low_nI xx (n := 12) (by decide) (by decide)
  have hqe : lowF xx 12 = nI q := hqe
  rcases (show q = 0 ∨ q = 1 ∨ q = 2 ∨ q = 3 ∨ q = 4 ∨ q = 5 ∨ q = 6 ∨ q = 7 ∨ 8 ≤ q by omega) with rfl | rfl | rfl | rfl | rfl | rfl | rfl | rfl | hq8
  · refine k_nrm (y := 0) hqe ?_
    refine lv_tableIn (x := 0) (off := 46) (tgt := 52) hx hb dL_act_6 (by decide) (by decide) (by decide) (by decide) ?_
    obtain ⟨na, hnal, hnae⟩ := low_nI yy (n := 100) (by decide) (by decide)
    have hnae : lowF yy 100 = nI na := hnae
    obtain ⟨nb, hnbl, hnbe⟩ := low_nI (shrF xx 4) (n := 3) (by decide) (by decide)
    have hnbe : lowF (shrF xx 4) 3 = nI nb := hnbe
    refine lv_aload_n hx hb dL_act_52 rfl (lv_at hl 0 rfl) ?_
    refine lv_iload_n hx hb dL_act_53 rfl (lv_at hl 2 rfl) ?_
    refine lv_bipush (v := 100) hx hb dL_act_54 (by decide) ?_
    have ct := k_cut_T (wp := []) (T := (WW a K KS st hs sc)) (wc := []) (wr := []) (tc := []) hG hS hA hK hP hD [] [] [] rfl rfl (by decide) (by decide) (by decide) rfl
    refine k_endi (As := [.int yy, .int 100]) ct (k_runS (As := [.int yy, .int 100]) (rest := [.ref (a 0)]) S0 Ls_L_72 ct (c_low l D yy 100 (by first | assumption | decide) H.size) hl.1 rfl (Nat.le_of_ble_eq_true rfl) rfl dL_act_56 ⟨⟨Nat.le_of_ble_eq_true rfl, Nat.le_of_ble_eq_true rfl⟩, Nat.le_of_ble_eq_true rfl, Nat.le_of_ble_eq_true rfl⟩) rfl rfl (fun r_3 _ H locs hw_4 hP hD hK hS => ?_)
    have hP : va_P D vwCl ((WW a K KS st hs sc)) H := k_swapP (a := []) (b := (WW a K KS st hs sc)) (c := []) hP
    have hD : va_D A ((WW a K KS st hs sc)) := va_D.swap (a := []) (b := (WW a K KS st hs sc)) (c := []) hD
    have hK : va_K D vwCl [(K, .int), (KS, .object "BarcodeWand$State")] s := hK
    have hP : va_P D vwCl ((WW a K KS st hs sc)) H := hP
    have hD : va_D A ((WW a K KS st hs sc)) := hD
    have hw_4 : r_3 = (lowF yy 100) := hw_4
    have hw_4 := hw_4.symm
    subst hw_4
    refine k_nrm (y := (lowF yy 100)) rfl ?_
    refine k_nrm (y := (nI na)) (hnae) ?_
    refine lv_iload_n hx hb dL_act_59 rfl (lv_at hl 1 rfl) ?_
    refine lv_iconst (v := 4) hx hb dL_act_60 (by decide) ?_
    refine lv_ishr hx hb dL_act_61 ?_
    refine k_nrm (y := (shrF xx 4)) rfl ?_
    refine lv_iconst (v := 3) hx hb dL_act_62 (by decide) ?_
    have ct := k_cut_T (wp := []) (T := (WW a K KS st hs sc)) (wc := []) (wr := []) (tc := []) hG hS hA hK hP hD [] [] [] rfl rfl (by decide) (by decide) (by decide) rfl
    refine k_endi (As := [.int (shrF xx 4), .int 3]) ct (k_runS (As := [.int (shrF xx 4), .int 3]) (rest := [.int (nI na), .ref (a 0)]) S0 Ls_L_72 ct (c_low l D (shrF xx 4) 3 (by first | assumption | decide) H.size) hl.1 rfl (Nat.le_of_ble_eq_true rfl) rfl dL_act_63 ⟨⟨Nat.le_of_ble_eq_true rfl, Nat.le_of_ble_eq_true rfl⟩, Nat.le_of_ble_eq_true rfl, Nat.le_of_ble_eq_true rfl⟩) rfl rfl (fun r_5 _ H locs hw_6 hP hD hK hS => ?_)
    have hP : va_P D vwCl ((WW a K KS st hs sc)) H := k_swapP (a := []) (b := (WW a K KS st hs sc)) (c := []) hP
    have hD : va_D A ((WW a K KS st hs sc)) := va_D.swap (a := []) (b := (WW a K KS st hs sc)) (c := []) hD
    have hK : va_K D vwCl [(K, .int), (KS, .object "BarcodeWand$State")] s := hK
    have hP : va_P D vwCl ((WW a K KS st hs sc)) H := hP
    have hD : va_D A ((WW a K KS st hs sc)) := hD
    have hw_6 : r_5 = (lowF (shrF xx 4) 3) := hw_6
    have hw_6 := hw_6.symm
    subst hw_6
    refine k_nrm (y := (lowF (shrF xx 4) 3)) rfl ?_
    refine k_nrm (y := (nI nb)) (hnbe) ?_
    refine lv_iconst (v := 2) hx hb dL_act_66 (by decide) ?_
    refine lv_iadd hx hb dL_act_67 ?_
    refine k_nrm (y := (nI (nb + 2))) (nI_add nb 2) ?_
    have ct := k_cut_TT (wp := []) (T := (WW a K KS st hs sc)) (wc := []) (wr := []) (tc := [(K, .int), (KS, .object "BarcodeWand$State")]) hG hS hA hK hP hD [] [] [0, 1] rfl rfl (by decide) (by decide) (by decide) rfl
    refine k_endi (As := [.ref (a 0), .int (nI na), .int (nI (nb + 2))]) ct (k_runSW (As := [.ref (a 0), .int (nI na), .int (nI (nb + 2))]) (rest := []) S0 Ls_L_77 ct (c_L_print l D a K KS st hs sc (nI na) (nb + 2) hii.1 hh (by omega) (by omega) (nI_pos (by omega)) (pw_lt (k := 2) (by omega) (by omega) (by omega)) H.size) hl.1 rfl (Nat.le_of_ble_eq_true rfl) rfl dL_act_68 ⟨⟨Nat.le_of_ble_eq_true rfl, Nat.le_of_ble_eq_true rfl⟩, Nat.le_of_ble_eq_true rfl, Nat.le_of_ble_eq_true rfl⟩) rfl rfl (fun r_7 _ H locs hw_8 hP hD hK hS => ?_)
    have hK : va_K D vwCl [(K, .int), (KS, .object "BarcodeWand$State")] s := hK
    have hP : va_P D vwCl ((WW a K KS (setP (nI na) (nb + 2) st) (svH hs st) sc)) H := hP
    have hD : va_D A ((WW a K KS (setP (nI na) (nb + 2) st) (svH hs st) sc)) := hD
    have hw_8 : r_7 = (chkd (cS (nI na) (nb + 2))) := hw_8
    have hw_8 := hw_8.symm
    subst hw_8
    refine k_nrm (y := (chkd (cS (nI na) (nb + 2)))) rfl ?_
    have hP9 : va_P D vwCl ((WW a K KS (setP (nI na) (nb + 2) st) (svH hs st) sc)) H := k_subP (wp := []) (wp' := []) (T := (WW a K KS (setP (nI na) (nb + 2) st) (svH hs st) sc)) hP [] rfl
    have hD9 : va_D A ((WW a K KS (setP (nI na) (nb + 2) st) (svH hs st) sc)) := k_subD (wp := []) (wp' := []) (T := (WW a K KS (setP (nI na) (nb + 2) st) (svH hs st) sc)) hD [] (by decide) rfl
    have hP9 : va_P D vwCl ((WW a K KS (setP (nI na) (nb + 2) st) (svH hs st) sc)) H := hP9
    have hD9 : va_D A ((WW a K KS (setP (nI na) (nb + 2) st) (svH hs st) sc)) := hD9
    have hK9 : va_K D vwCl [] s := hK.sub [] rfl
    refine W.widen (k := 1) (n := 6) (by first | exact Nat.le_of_ble_eq_true rfl | omega) (by first | exact Nat.le_of_ble_eq_true rfl | omega) ?_
    exact W.iret (v := (chkd (cS (nI na) (nb + 2)))) hx hb hr (fun t ht9 hW9 => ⟨⟨(chkd (cS (nI na) (nb + 2))), ((setP (nI na) (nb + 2) st), (svH hs st), sc), rfl, by (refine ⟨?_, Or.inl ⟨?_, rfl, (setP_inv hii (by omega) (by omega) (by omega)).mono (Nat.le_succ N)⟩⟩; unfold actV; rw [hqe, if_pos (show nI 0 < (2 : Int32) by decide), hnae, hnbe, show nI nb + 2 = nI (nb + 2) from nI_add nb 2, nI_clamp (by omega)]; obtain ⟨d, hd, he⟩ := chk_9 (n := na) (j := nb + 2) (by omega) (by omega); rw [he]; exact neg_k (by omega)), ⟨by rw [ht9]; exact hP9, va_K.moved hW9.alike hK9, hD9⟩⟩, hS.F ht9⟩) hS.2.2 dL_act_71
  · refine k_nrm (y := 1) hqe ?_
    refine lv_tableIn (x := 1) (off := 46) (tgt := 52) hx hb dL_act_6 (by decide) (by decide) (by decide) (by decide) ?_
    obtain ⟨na, hnal, hnae⟩ := low_nI yy (n := 100) (by decide) (by decide)
    have hnae : lowF yy 100 = nI na := hnae
    obtain ⟨nb, hnbl, hnbe⟩ := low_nI (shrF xx 4) (n := 3) (by decide) (by decide)
    have hnbe : lowF (shrF xx 4) 3 = nI nb := hnbe
    refine lv_aload_n hx hb dL_act_52 rfl (lv_at hl 0 rfl) ?_
    refine lv_iload_n hx hb dL_act_53 rfl (lv_at hl 2 rfl) ?_
    refine lv_bipush (v := 100) hx hb dL_act_54 (by decide) ?_
    have ct := k_cut_T (wp := []) (T := (WW a K KS st hs sc)) (wc := []) (wr := []) (tc := []) hG hS hA hK hP hD [] [] [] rfl rfl (by decide) (by decide) (by decide) rfl
    refine k_endi (As := [.int yy, .int 100]) ct (k_runS (As := [.int yy, .int 100]) (rest := [.ref (a 0)]) S0 Ls_L_72 ct (c_low l D yy 100 (by first | assumption | decide) H.size) hl.1 rfl (Nat.le_of_ble_eq_true rfl) rfl dL_act_56 ⟨⟨Nat.le_of_ble_eq_true rfl, Nat.le_of_ble_eq_true rfl⟩, Nat.le_of_ble_eq_true rfl, Nat.le_of_ble_eq_true rfl⟩) rfl rfl (fun r_9 _ H locs hw_10 hP hD hK hS => ?_)
    have hP : va_P D vwCl ((WW a K KS st hs sc)) H := k_swapP (a := []) (b := (WW a K KS st hs sc)) (c := []) hP
    have hD : va_D A ((WW a K KS st hs sc)) := va_D.swap (a := []) (b := (WW a K KS st hs sc)) (c := []) hD
    have hK : va_K D vwCl [(K, .int), (KS, .object "BarcodeWand$State")] s := hK
    have hP : va_P D vwCl ((WW a K KS st hs sc)) H := hP
    have hD : va_D A ((WW a K KS st hs sc)) := hD
    have hw_10 : r_9 = (lowF yy 100) := hw_10
    have hw_10 := hw_10.symm
    subst hw_10
    refine k_nrm (y := (lowF yy 100)) rfl ?_
    refine k_nrm (y := (nI na)) (hnae) ?_
    refine lv_iload_n hx hb dL_act_59 rfl (lv_at hl 1 rfl) ?_
    refine lv_iconst (v := 4) hx hb dL_act_60 (by decide) ?_
    refine lv_ishr hx hb dL_act_61 ?_
    refine k_nrm (y := (shrF xx 4)) rfl ?_
    refine lv_iconst (v := 3) hx hb dL_act_62 (by decide) ?_
    have ct := k_cut_T (wp := []) (T := (WW a K KS st hs sc)) (wc := []) (wr := []) (tc := []) hG hS hA hK hP hD [] [] [] rfl rfl (by decide) (by decide) (by decide) rfl
    refine k_endi (As := [.int (shrF xx 4), .int 3]) ct (k_runS (As := [.int (shrF xx 4), .int 3]) (rest := [.int (nI na), .ref (a 0)]) S0 Ls_L_72 ct (c_low l D (shrF xx 4) 3 (by first | assumption | decide) H.size) hl.1 rfl (Nat.le_of_ble_eq_true rfl) rfl dL_act_63 ⟨⟨Nat.le_of_ble_eq_true rfl, Nat.le_of_ble_eq_true rfl⟩, Nat.le_of_ble_eq_true rfl, Nat.le_of_ble_eq_true rfl⟩) rfl rfl (fun r_11 _ H locs hw_12 hP hD hK hS => ?_)
    have hP : va_P D vwCl ((WW a K KS st hs sc)) H := k_swapP (a := []) (b := (WW a K KS st hs sc)) (c := []) hP
    have hD : va_D A ((WW a K KS st hs sc)) := va_D.swap (a := []) (b := (WW a K KS st hs sc)) (c := []) hD
    have hK : va_K D vwCl [(K, .int), (KS, .object "BarcodeWand$State")] s := hK
    have hP : va_P D vwCl ((WW a K KS st hs sc)) H := hP
    have hD : va_D A ((WW a K KS st hs sc)) := hD
    have hw_12 : r_11 = (lowF (shrF xx 4) 3) := hw_12
    have hw_12 := hw_12.symm
    subst hw_12
    refine k_nrm (y := (lowF (shrF xx 4) 3)) rfl ?_
    refine k_nrm (y := (nI nb)) (hnbe) ?_
    refine lv_iconst (v := 2) hx hb dL_act_66 (by decide) ?_
    refine lv_iadd hx hb dL_act_67 ?_
    refine k_nrm (y := (nI (nb + 2))) (nI_add nb 2) ?_
    have ct := k_cut_TT (wp := []) (T := (WW a K KS st hs sc)) (wc := []) (wr := []) (tc := [(K, .int), (KS, .object "BarcodeWand$State")]) hG hS hA hK hP hD [] [] [0, 1] rfl rfl (by decide) (by decide) (by decide) rfl
    refine k_endi (As := [.ref (a 0), .int (nI na), .int (nI (nb + 2))]) ct (k_runSW (As := [.ref (a 0), .int (nI na), .int (nI (nb + 2))]) (rest := []) S0 Ls_L_77 ct (c_L_print l D a K KS st hs sc (nI na) (nb + 2) hii.1 hh (by omega) (by omega) (nI_pos (by omega)) (pw_lt (k := 2) (by omega) (by omega) (by omega)) H.size) hl.1 rfl (Nat.le_of_ble_eq_true rfl) rfl dL_act_68 ⟨⟨Nat.le_of_ble_eq_true rfl, Nat.le_of_ble_eq_true rfl⟩, Nat.le_of_ble_eq_true rfl, Nat.le_of_ble_eq_true rfl⟩) rfl rfl (fun r_13 _ H locs hw_14 hP hD hK hS => ?_)
    have hK : va_K D vwCl [(K, .int), (KS, .object "BarcodeWand$State")] s := hK
    have hP : va_P D vwCl ((WW a K KS (setP (nI na) (nb + 2) st) (svH hs st) sc)) H := hP
    have hD : va_D A ((WW a K KS (setP (nI na) (nb + 2) st) (svH hs st) sc)) := hD
    have hw_14 : r_13 = (chkd (cS (nI na) (nb + 2))) := hw_14
    have hw_14 := hw_14.symm
    subst hw_14
    refine k_nrm (y := (chkd (cS (nI na) (nb + 2)))) rfl ?_
    have hP9 : va_P D vwCl ((WW a K KS (setP (nI na) (nb + 2) st) (svH hs st) sc)) H := k_subP (wp := []) (wp' := []) (T := (WW a K KS (setP (nI na) (nb + 2) st) (svH hs st) sc)) hP [] rfl
    have hD9 : va_D A ((WW a K KS (setP (nI na) (nb + 2) st) (svH hs st) sc)) := k_subD (wp := []) (wp' := []) (T := (WW a K KS (setP (nI na) (nb + 2) st) (svH hs st) sc)) hD [] (by decide) rfl
    have hP9 : va_P D vwCl ((WW a K KS (setP (nI na) (nb + 2) st) (svH hs st) sc)) H := hP9
    have hD9 : va_D A ((WW a K KS (setP (nI na) (nb + 2) st) (svH hs st) sc)) := hD9
    have hK9 : va_K D vwCl [] s := hK.sub [] rfl
    refine W.widen (k := 1) (n := 6) (by first | exact Nat.le_of_ble_eq_true rfl | omega) (by first | exact Nat.le_of_ble_eq_true rfl | omega) ?_
    exact W.iret (v := (chkd (cS (nI na) (nb + 2)))) hx hb hr (fun t ht9 hW9 => ⟨⟨(chkd (cS (nI na) (nb + 2))), ((setP (nI na) (nb + 2) st), (svH hs st), sc), rfl, by (refine ⟨?_, Or.inl ⟨?_, rfl, (setP_inv hii (by omega) (by omega) (by omega)).mono (Nat.le_succ N)⟩⟩; unfold actV; rw [hqe, if_pos (show nI 1 < (2 : Int32) by decide), hnae, hnbe, show nI nb + 2 = nI (nb + 2) from nI_add nb 2, nI_clamp (by omega)]; obtain ⟨d, hd, he⟩ := chk_9 (n := na) (j := nb + 2) (by omega) (by omega); rw [he]; exact neg_k (by omega)), ⟨by rw [ht9]; exact hP9, va_K.moved hW9.alike hK9, hD9⟩⟩, hS.F ht9⟩) hS.2.2 dL_act_71
  · refine k_nrm (y := 2) hqe ?_
    refine lv_tableIn (x := 2) (off := 66) (tgt := 72) hx hb dL_act_6 (by decide) (by decide) (by decide) (by decide) ?_
    obtain ⟨en, henl, hene⟩ := low_nI (shrF xx 4) (n := 22) (by decide) (by decide)
    have hene : lowF (shrF xx 4) 22 = nI en := hene
    obtain ⟨tt, httl, htte⟩ := low_nI yy (n := 19) (by decide) (by decide)
    have htte : lowF yy 19 = nI tt := htte
    have htr := t19 tt httl
    refine lv_aload_n hx hb dL_act_72 rfl (lv_at hl 0 rfl) ?_
    refine lv_iload_n hx hb dL_act_73 rfl (lv_at hl 1 rfl) ?_
    refine lv_iconst (v := 4) hx hb dL_act_74 (by decide) ?_
    refine lv_ishr hx hb dL_act_75 ?_
    refine k_nrm (y := (shrF xx 4)) rfl ?_
    refine lv_bipush (v := 22) hx hb dL_act_76 (by decide) ?_
    have ct := k_cut_T (wp := []) (T := (WW a K KS st hs sc)) (wc := []) (wr := []) (tc := []) hG hS hA hK hP hD [] [] [] rfl rfl (by decide) (by decide) (by decide) rfl
    refine k_endi (As := [.int (shrF xx 4), .int 22]) ct (k_runS (As := [.int (shrF xx 4), .int 22]) (rest := [.ref (a 0)]) S0 Ls_L_72 ct (c_low l D (shrF xx 4) 22 (by first | assumption | decide) H.size) hl.1 rfl (Nat.le_of_ble_eq_true rfl) rfl dL_act_78 ⟨⟨Nat.le_of_ble_eq_true rfl, Nat.le_of_ble_eq_true rfl⟩, Nat.le_of_ble_eq_true rfl, Nat.le_of_ble_eq_true rfl⟩) rfl rfl (fun r_15 _ H locs hw_16 hP hD hK hS => ?_)
    have hP : va_P D vwCl ((WW a K KS st hs sc)) H := k_swapP (a := []) (b := (WW a K KS st hs sc)) (c := []) hP
    have hD : va_D A ((WW a K KS st hs sc)) := va_D.swap (a := []) (b := (WW a K KS st hs sc)) (c := []) hD
    have hK : va_K D vwCl [(K, .int), (KS, .object "BarcodeWand$State")] s := hK
    have hP : va_P D vwCl ((WW a K KS st hs sc)) H := hP
    have hD : va_D A ((WW a K KS st hs sc)) := hD
    have hw_16 : r_15 = (lowF (shrF xx 4) 22) := hw_16
    have hw_16 := hw_16.symm
    subst hw_16
    refine k_nrm (y := (lowF (shrF xx 4) 22)) rfl ?_
    refine k_nrm (y := (nI en)) (hene) ?_
    refine lv_iload_n hx hb dL_act_81 rfl (lv_at hl 2 rfl) ?_
    refine lv_bipush (v := 19) hx hb dL_act_82 (by decide) ?_
    have ct := k_cut_T (wp := []) (T := (WW a K KS st hs sc)) (wc := []) (wr := []) (tc := []) hG hS hA hK hP hD [] [] [] rfl rfl (by decide) (by decide) (by decide) rfl
    refine k_endi (As := [.int yy, .int 19]) ct (k_runS (As := [.int yy, .int 19]) (rest := [.int (nI en), .ref (a 0)]) S0 Ls_L_72 ct (c_low l D yy 19 (by first | assumption | decide) H.size) hl.1 rfl (Nat.le_of_ble_eq_true rfl) rfl dL_act_84 ⟨⟨Nat.le_of_ble_eq_true rfl, Nat.le_of_ble_eq_true rfl⟩, Nat.le_of_ble_eq_true rfl, Nat.le_of_ble_eq_true rfl⟩) rfl rfl (fun r_17 _ H locs hw_18 hP hD hK hS => ?_)
    have hP : va_P D vwCl ((WW a K KS st hs sc)) H := k_swapP (a := []) (b := (WW a K KS st hs sc)) (c := []) hP
    have hD : va_D A ((WW a K KS st hs sc)) := va_D.swap (a := []) (b := (WW a K KS st hs sc)) (c := []) hD
    have hK : va_K D vwCl [(K, .int), (KS, .object "BarcodeWand$State")] s := hK
    have hP : va_P D vwCl ((WW a K KS st hs sc)) H := hP
    have hD : va_D A ((WW a K KS st hs sc)) := hD
    have hw_18 : r_17 = (lowF yy 19) := hw_18
    have hw_18 := hw_18.symm
    subst hw_18
    refine k_nrm (y := (lowF yy 19)) rfl ?_
    refine k_nrm (y := (nI tt)) (htte) ?_
    refine lv_bipush (v := 9) hx hb dL_act_87 (by decide) ?_
    refine lv_isub hx hb dL_act_89 ?_
    refine k_nrm (y := (nI tt - 9)) (rfl) ?_
    rcases Nat.lt_or_ge en (s_ns st) with hmd | hmd
    · skip
      have hzm : ¬ s_zf st en < (-9) ∧ s_zf st en ≤ 9 := by rcases hii.2.1 with ⟨_, q9⟩ | ⟨_, _, _, _, q9, _⟩; omega; exact q9 en hmd
      have ct := k_cut_TT (wp := []) (T := (WW a K KS st hs sc)) (wc := []) (wr := []) (tc := [(K, .int), (KS, .object "BarcodeWand$State")]) hG hS hA hK hP hD [] [] [0, 1] rfl rfl (by decide) (by decide) (by decide) rfl
      refine k_endi (As := [.ref (a 0), .int (nI en), .int (nI tt - 9)]) ct (k_runSW (As := [.ref (a 0), .int (nI en), .int (nI tt - 9)]) (rest := []) S0 Ls_L_80 ct (c_L_smudge l D a K KS st hs sc en (nI tt - 9) hii.1 hh htr.1 htr.2 hmd H.size) hl.1 rfl (Nat.le_of_ble_eq_true rfl) rfl dL_act_90 ⟨⟨Nat.le_of_ble_eq_true rfl, Nat.le_of_ble_eq_true rfl⟩, Nat.le_of_ble_eq_true rfl, Nat.le_of_ble_eq_true rfl⟩) rfl rfl (fun r_19 _ H locs hw_20 hP hD hK hS => ?_)
      have hK : va_K D vwCl [(K, .int), (KS, .object "BarcodeWand$State")] s := hK
      have hP : va_P D vwCl ((WW a K KS (setZ en (nI tt - 9) st) (svH hs st) sc)) H := hP
      have hD : va_D A ((WW a K KS (setZ en (nI tt - 9) st) (svH hs st) sc)) := hD
      have hw_20 : r_19 = (s_zf st en) := hw_20
      have hw_20 := hw_20.symm
      subst hw_20
      refine k_nrm (y := (s_zf st en)) rfl ?_
      have hP9 : va_P D vwCl ((WW a K KS (setZ en (nI tt - 9) st) (svH hs st) sc)) H := k_subP (wp := []) (wp' := []) (T := (WW a K KS (setZ en (nI tt - 9) st) (svH hs st) sc)) hP [] rfl
      have hD9 : va_D A ((WW a K KS (setZ en (nI tt - 9) st) (svH hs st) sc)) := k_subD (wp := []) (wp' := []) (T := (WW a K KS (setZ en (nI tt - 9) st) (svH hs st) sc)) hD [] (by decide) rfl
      have hP9 : va_P D vwCl ((WW a K KS (setZ en (nI tt - 9) st) (svH hs st) sc)) H := hP9
      have hD9 : va_D A ((WW a K KS (setZ en (nI tt - 9) st) (svH hs st) sc)) := hD9
      have hK9 : va_K D vwCl [] s := hK.sub [] rfl
      refine W.widen (k := 1) (n := 6) (by first | exact Nat.le_of_ble_eq_true rfl | omega) (by first | exact Nat.le_of_ble_eq_true rfl | omega) ?_
      exact W.iret (v := (s_zf st en)) hx hb hr (fun t ht9 hW9 => ⟨⟨(s_zf st en), ((setZ en (nI tt - 9) st), (svH hs st), sc), rfl, by (refine ⟨?_, Or.inl ⟨?_, rfl, (setZ_inv hii htr.1 htr.2).mono (Nat.le_succ N)⟩⟩; unfold actV; rw [hqe, if_neg (show ¬ nI 2 < (2 : Int32) by decide), if_pos (show nI 2 < (5 : Int32) by decide), hene, if_neg (nI_ge hmd (by omega)), rowAt_lt hmd hb2 (by decide)]; exact neg_9 hzm.1), ⟨by rw [ht9]; exact hP9, va_K.moved hW9.alike hK9, hD9⟩⟩, hS.F ht9⟩) hS.2.2 dL_act_93
    · skip
      have ct := k_cut_TT (wp := []) (T := (WW a K KS st hs sc)) (wc := []) (wr := []) (tc := [(K, .int), (KS, .object "BarcodeWand$State")]) hG hS hA hK hP hD [] [] [0, 1] rfl rfl (by decide) (by decide) (by decide) rfl
      refine k_endi (As := [.ref (a 0), .int (nI en), .int (nI tt - 9)]) ct (k_runSW (As := [.ref (a 0), .int (nI en), .int (nI tt - 9)]) (rest := []) S0 Ls_L_80 ct (c_L_smudgeX l hst D a K KS st hs sc en (nI tt - 9) (inR_out hmd (by omega)) H.size) hl.1 rfl (Nat.le_of_ble_eq_true rfl) rfl dL_act_90 ⟨⟨Nat.le_of_ble_eq_true rfl, Nat.le_of_ble_eq_true rfl⟩, Nat.le_of_ble_eq_true rfl, Nat.le_of_ble_eq_true rfl⟩) rfl rfl (fun r_21 _ H locs hw_22 hP hD hK hS => ?_)
      have hK : va_K D vwCl [(K, .int), (KS, .object "BarcodeWand$State")] s := hK
      have hP : va_P D vwCl ((WW a K KS st hs sc)) H := hP
      have hD : va_D A ((WW a K KS st hs sc)) := hD
      have hw_22 : r_21 = (-1000001) := hw_22
      have hw_22 := hw_22.symm
      subst hw_22
      refine k_nrm (y := (-1000001)) rfl ?_
      have hP9 : va_P D vwCl ((WW a K KS st hs sc)) H := k_subP (wp := []) (wp' := []) (T := (WW a K KS st hs sc)) hP [] rfl
      have hD9 : va_D A ((WW a K KS st hs sc)) := k_subD (wp := []) (wp' := []) (T := (WW a K KS st hs sc)) hD [] (by decide) rfl
      have hP9 : va_P D vwCl ((WW a K KS st hs sc)) H := hP9
      have hD9 : va_D A ((WW a K KS st hs sc)) := hD9
      have hK9 : va_K D vwCl [] s := hK.sub [] rfl
      exact W.iret (v := (-1000001)) hx hb hr (fun t ht9 hW9 => ⟨⟨(-1000001), (st, hs, sc), rfl, by (refine ⟨?_, Or.inr ⟨by decide, rfl, rfl⟩⟩; unfold actV; rw [hqe, if_neg (show ¬ nI 2 < (2 : Int32) by decide), if_pos (show nI 2 < (5 : Int32) by decide), hene, if_pos (nI_le hmd (by omega))]), ⟨by rw [ht9]; exact hP9, va_K.moved hW9.alike hK9, hD9⟩⟩, hS.F ht9⟩) hS.2.2 dL_act_93
  · refine k_nrm (y := 3) hqe ?_
    refine lv_tableIn (x := 3) (off := 66) (tgt := 72) hx hb dL_act_6 (by decide) (by decide) (by decide) (by decide) ?_
    obtain ⟨en, henl, hene⟩ := low_nI (shrF xx 4) (n := 22) (by decide) (by decide)
    have hene : lowF (shrF xx 4) 22 = nI en := hene
    obtain ⟨tt, httl, htte⟩ := low_nI yy (n := 19) (by decide) (by decide)
    have htte : lowF yy 19 = nI tt := htte
    have htr := t19 tt httl
    refine lv_aload_n hx hb dL_act_72 rfl (lv_at hl 0 rfl) ?_
    refine lv_iload_n hx hb dL_act_73 rfl (lv_at hl 1 rfl) ?_
    refine lv_iconst (v := 4) hx hb dL_act_74 (by decide) ?_
    refine lv_ishr hx hb dL_act_75 ?_
    refine k_nrm (y := (shrF xx 4)) rfl ?_
    refine lv_bipush (v := 22) hx hb dL_act_76 (by decide) ?_
    have ct := k_cut_T (wp := []) (T := (WW a K KS st hs sc)) (wc := []) (wr := []) (tc := []) hG hS hA hK hP hD [] [] [] rfl rfl (by decide) (by decide) (by decide) rfl
    refine k_endi (As := [.int (shrF xx 4), .int 22]) ct (k_runS (As := [.int (shrF xx 4), .int 22]) (rest := [.ref (a 0)]) S0 Ls_L_72 ct (c_low l D (shrF xx 4) 22 (by first | assumption | decide) H.size) hl.1 rfl (Nat.le_of_ble_eq_true rfl) rfl dL_act_78 ⟨⟨Nat.le_of_ble_eq_true rfl, Nat.le_of_ble_eq_true rfl⟩, Nat.le_of_ble_eq_true rfl, Nat.le_of_ble_eq_true rfl⟩) rfl rfl (fun r_23 _ H locs hw_24 hP hD hK hS => ?_)
    have hP : va_P D vwCl ((WW a K KS st hs sc)) H := k_swapP (a := []) (b := (WW a K KS st hs sc)) (c := []) hP
    have hD : va_D A ((WW a K KS st hs sc)) := va_D.swap (a := []) (b := (WW a K KS st hs sc)) (c := []) hD
    have hK : va_K D vwCl [(K, .int), (KS, .object "BarcodeWand$State")] s := hK
    have hP : va_P D vwCl ((WW a K KS st hs sc)) H := hP
    have hD : va_D A ((WW a K KS st hs sc)) := hD
    have hw_24 : r_23 = (lowF (shrF xx 4) 22) := hw_24
    have hw_24 := hw_24.symm
    subst hw_24
    refine k_nrm (y := (lowF (shrF xx 4) 22)) rfl ?_
    refine k_nrm (y := (nI en)) (hene) ?_
    refine lv_iload_n hx hb dL_act_81 rfl (lv_at hl 2 rfl) ?_
    refine lv_bipush (v := 19) hx hb dL_act_82 (by decide) ?_
    have ct := k_cut_T (wp := []) (T := (WW a K KS st hs sc)) (wc := []) (wr := []) (tc := []) hG hS hA hK hP hD [] [] [] rfl rfl (by decide) (by decide) (by decide) rfl
    refine k_endi (As := [.int yy, .int 19]) ct (k_runS (As := [.int yy, .int 19]) (rest := [.int (nI en), .ref (a 0)]) S0 Ls_L_72 ct (c_low l D yy 19 (by first | assumption | decide) H.size) hl.1 rfl (Nat.le_of_ble_eq_true rfl) rfl dL_act_84 ⟨⟨Nat.le_of_ble_eq_true rfl, Nat.le_of_ble_eq_true rfl⟩, Nat.le_of_ble_eq_true rfl, Nat.le_of_ble_eq_true rfl⟩) rfl rfl (fun r_25 _ H locs hw_26 hP hD hK hS => ?_)
    have hP : va_P D vwCl ((WW a K KS st hs sc)) H := k_swapP (a := []) (b := (WW a K KS st hs sc)) (c := []) hP
    have hD : va_D A ((WW a K KS st hs sc)) := va_D.swap (a := []) (b := (WW a K KS st hs sc)) (c := []) hD
    have hK : va_K D vwCl [(K, .int), (KS, .object "BarcodeWand$State")] s := hK
    have hP : va_P D vwCl ((WW a K KS st hs sc)) H := hP
    have hD : va_D A ((WW a K KS st hs sc)) := hD
    have hw_26 : r_25 = (lowF yy 19) := hw_26
    have hw_26 := hw_26.symm
    subst hw_26
    refine k_nrm (y := (lowF yy 19)) rfl ?_
    refine k_nrm (y := (nI tt)) (htte) ?_
    refine lv_bipush (v := 9) hx hb dL_act_87 (by decide) ?_
    refine lv_isub hx hb dL_act_89 ?_
    refine k_nrm (y := (nI tt - 9)) (rfl) ?_
    rcases Nat.lt_or_ge en (s_ns st) with hmd | hmd
    · skip
      have hzm : ¬ s_zf st en < (-9) ∧ s_zf st en ≤ 9 := by rcases hii.2.1 with ⟨_, q9⟩ | ⟨_, _, _, _, q9, _⟩; omega; exact q9 en hmd
      have ct := k_cut_TT (wp := []) (T := (WW a K KS st hs sc)) (wc := []) (wr := []) (tc := [(K, .int), (KS, .object "BarcodeWand$State")]) hG hS hA hK hP hD [] [] [0, 1] rfl rfl (by decide) (by decide) (by decide) rfl
      refine k_endi (As := [.ref (a 0), .int (nI en), .int (nI tt - 9)]) ct (k_runSW (As := [.ref (a 0), .int (nI en), .int (nI tt - 9)]) (rest := []) S0 Ls_L_80 ct (c_L_smudge l D a K KS st hs sc en (nI tt - 9) hii.1 hh htr.1 htr.2 hmd H.size) hl.1 rfl (Nat.le_of_ble_eq_true rfl) rfl dL_act_90 ⟨⟨Nat.le_of_ble_eq_true rfl, Nat.le_of_ble_eq_true rfl⟩, Nat.le_of_ble_eq_true rfl, Nat.le_of_ble_eq_true rfl⟩) rfl rfl (fun r_27 _ H locs hw_28 hP hD hK hS => ?_)
      have hK : va_K D vwCl [(K, .int), (KS, .object "BarcodeWand$State")] s := hK
      have hP : va_P D vwCl ((WW a K KS (setZ en (nI tt - 9) st) (svH hs st) sc)) H := hP
      have hD : va_D A ((WW a K KS (setZ en (nI tt - 9) st) (svH hs st) sc)) := hD
      have hw_28 : r_27 = (s_zf st en) := hw_28
      have hw_28 := hw_28.symm
      subst hw_28
      refine k_nrm (y := (s_zf st en)) rfl ?_
      have hP9 : va_P D vwCl ((WW a K KS (setZ en (nI tt - 9) st) (svH hs st) sc)) H := k_subP (wp := []) (wp' := []) (T := (WW a K KS (setZ en (nI tt - 9) st) (svH hs st) sc)) hP [] rfl
      have hD9 : va_D A ((WW a K KS (setZ en (nI tt - 9) st) (svH hs st) sc)) := k_subD (wp := []) (wp' := []) (T := (WW a K KS (setZ en (nI tt - 9) st) (svH hs st) sc)) hD [] (by decide) rfl
      have hP9 : va_P D vwCl ((WW a K KS (setZ en (nI tt - 9) st) (svH hs st) sc)) H := hP9
      have hD9 : va_D A ((WW a K KS (setZ en (nI tt - 9) st) (svH hs st) sc)) := hD9
      have hK9 : va_K D vwCl [] s := hK.sub [] rfl
      refine W.widen (k := 1) (n := 6) (by first | exact Nat.le_of_ble_eq_true rfl | omega) (by first | exact Nat.le_of_ble_eq_true rfl | omega) ?_
      exact W.iret (v := (s_zf st en)) hx hb hr (fun t ht9 hW9 => ⟨⟨(s_zf st en), ((setZ en (nI tt - 9) st), (svH hs st), sc), rfl, by (refine ⟨?_, Or.inl ⟨?_, rfl, (setZ_inv hii htr.1 htr.2).mono (Nat.le_succ N)⟩⟩; unfold actV; rw [hqe, if_neg (show ¬ nI 3 < (2 : Int32) by decide), if_pos (show nI 3 < (5 : Int32) by decide), hene, if_neg (nI_ge hmd (by omega)), rowAt_lt hmd hb2 (by decide)]; exact neg_9 hzm.1), ⟨by rw [ht9]; exact hP9, va_K.moved hW9.alike hK9, hD9⟩⟩, hS.F ht9⟩) hS.2.2 dL_act_93
    · skip
      have ct := k_cut_TT (wp := []) (T := (WW a K KS st hs sc)) (wc := []) (wr := []) (tc := [(K, .int), (KS, .object "BarcodeWand$State")]) hG hS hA hK hP hD [] [] [0, 1] rfl rfl (by decide) (by decide) (by decide) rfl
      refine k_endi (As := [.ref (a 0), .int (nI en), .int (nI tt - 9)]) ct (k_runSW (As := [.ref (a 0), .int (nI en), .int (nI tt - 9)]) (rest := []) S0 Ls_L_80 ct (c_L_smudgeX l hst D a K KS st hs sc en (nI tt - 9) (inR_out hmd (by omega)) H.size) hl.1 rfl (Nat.le_of_ble_eq_true rfl) rfl dL_act_90 ⟨⟨Nat.le_of_ble_eq_true rfl, Nat.le_of_ble_eq_true rfl⟩, Nat.le_of_ble_eq_true rfl, Nat.le_of_ble_eq_true rfl⟩) rfl rfl (fun r_29 _ H locs hw_30 hP hD hK hS => ?_)
      have hK : va_K D vwCl [(K, .int), (KS, .object "BarcodeWand$State")] s := hK
      have hP : va_P D vwCl ((WW a K KS st hs sc)) H := hP
      have hD : va_D A ((WW a K KS st hs sc)) := hD
      have hw_30 : r_29 = (-1000001) := hw_30
      have hw_30 := hw_30.symm
      subst hw_30
      refine k_nrm (y := (-1000001)) rfl ?_
      have hP9 : va_P D vwCl ((WW a K KS st hs sc)) H := k_subP (wp := []) (wp' := []) (T := (WW a K KS st hs sc)) hP [] rfl
      have hD9 : va_D A ((WW a K KS st hs sc)) := k_subD (wp := []) (wp' := []) (T := (WW a K KS st hs sc)) hD [] (by decide) rfl
      have hP9 : va_P D vwCl ((WW a K KS st hs sc)) H := hP9
      have hD9 : va_D A ((WW a K KS st hs sc)) := hD9
      have hK9 : va_K D vwCl [] s := hK.sub [] rfl
      exact W.iret (v := (-1000001)) hx hb hr (fun t ht9 hW9 => ⟨⟨(-1000001), (st, hs, sc), rfl, by (refine ⟨?_, Or.inr ⟨by decide, rfl, rfl⟩⟩; unfold actV; rw [hqe, if_neg (show ¬ nI 3 < (2 : Int32) by decide), if_pos (show nI 3 < (5 : Int32) by decide), hene, if_pos (nI_le hmd (by omega))]), ⟨by rw [ht9]; exact hP9, va_K.moved hW9.alike hK9, hD9⟩⟩, hS.F ht9⟩) hS.2.2 dL_act_93
  · refine k_nrm (y := 4) hqe ?_
    refine lv_tableIn (x := 4) (off := 66) (tgt := 72) hx hb dL_act_6 (by decide) (by decide) (by decide) (by decide) ?_
    obtain ⟨en, henl, hene⟩ := low_nI (shrF xx 4) (n := 22) (by decide) (by decide)
    have hene : lowF (shrF xx 4) 22 = nI en := hene
    obtain ⟨tt, httl, htte⟩ := low_nI yy (n := 19) (by decide) (by decide)
    have htte : lowF yy 19 = nI tt := htte
    have htr := t19 tt httl
    refine lv_aload_n hx hb dL_act_72 rfl (lv_at hl 0 rfl) ?_
    refine lv_iload_n hx hb dL_act_73 rfl (lv_at hl 1 rfl) ?_
    refine lv_iconst (v := 4) hx hb dL_act_74 (by decide) ?_
    refine lv_ishr hx hb dL_act_75 ?_
    refine k_nrm (y := (shrF xx 4)) rfl ?_
    refine lv_bipush (v := 22) hx hb dL_act_76 (by decide) ?_
    have ct := k_cut_T (wp := []) (T := (WW a K KS st hs sc)) (wc := []) (wr := []) (tc := []) hG hS hA hK hP hD [] [] [] rfl rfl (by decide) (by decide) (by decide) rfl
    refine k_endi (As := [.int (shrF xx 4), .int 22]) ct (k_runS (As := [.int (shrF xx 4), .int 22]) (rest := [.ref (a 0)]) S0 Ls_L_72 ct (c_low l D (shrF xx 4) 22 (by first | assumption | decide) H.size) hl.1 rfl (Nat.le_of_ble_eq_true rfl) rfl dL_act_78 ⟨⟨Nat.le_of_ble_eq_true rfl, Nat.le_of_ble_eq_true rfl⟩, Nat.le_of_ble_eq_true rfl, Nat.le_of_ble_eq_true rfl⟩) rfl rfl (fun r_31 _ H locs hw_32 hP hD hK hS => ?_)
    have hP : va_P D vwCl ((WW a K KS st hs sc)) H := k_swapP (a := []) (b := (WW a K KS st hs sc)) (c := []) hP
    have hD : va_D A ((WW a K KS st hs sc)) := va_D.swap (a := []) (b := (WW a K KS st hs sc)) (c := []) hD
    have hK : va_K D vwCl [(K, .int), (KS, .object "BarcodeWand$State")] s := hK
    have hP : va_P D vwCl ((WW a K KS st hs sc)) H := hP
    have hD : va_D A ((WW a K KS st hs sc)) := hD
    have hw_32 : r_31 = (lowF (shrF xx 4) 22) := hw_32
    have hw_32 := hw_32.symm
    subst hw_32
    refine k_nrm (y := (lowF (shrF xx 4) 22)) rfl ?_
    refine k_nrm (y := (nI en)) (hene) ?_
    refine lv_iload_n hx hb dL_act_81 rfl (lv_at hl 2 rfl) ?_
    refine lv_bipush (v := 19) hx hb dL_act_82 (by decide) ?_
    have ct := k_cut_T (wp := []) (T := (WW a K KS st hs sc)) (wc := []) (wr := []) (tc := []) hG hS hA hK hP hD [] [] [] rfl rfl (by decide) (by decide) (by decide) rfl
    refine k_endi (As := [.int yy, .int 19]) ct (k_runS (As := [.int yy, .int 19]) (rest := [.int (nI en), .ref (a 0)]) S0 Ls_L_72 ct (c_low l D yy 19 (by first | assumption | decide) H.size) hl.1 rfl (Nat.le_of_ble_eq_true rfl) rfl dL_act_84 ⟨⟨Nat.le_of_ble_eq_true rfl, Nat.le_of_ble_eq_true rfl⟩, Nat.le_of_ble_eq_true rfl, Nat.le_of_ble_eq_true rfl⟩) rfl rfl (fun r_33 _ H locs hw_34 hP hD hK hS => ?_)
    have hP : va_P D vwCl ((WW a K KS st hs sc)) H := k_swapP (a := []) (b := (WW a K KS st hs sc)) (c := []) hP
    have hD : va_D A ((WW a K KS st hs sc)) := va_D.swap (a := []) (b := (WW a K KS st hs sc)) (c := []) hD
    have hK : va_K D vwCl [(K, .int), (KS, .object "BarcodeWand$State")] s := hK
    have hP : va_P D vwCl ((WW a K KS st hs sc)) H := hP
    have hD : va_D A ((WW a K KS st hs sc)) := hD
    have hw_34 : r_33 = (lowF yy 19) := hw_34
    have hw_34 := hw_34.symm
    subst hw_34
    refine k_nrm (y := (lowF yy 19)) rfl ?_
    refine k_nrm (y := (nI tt)) (htte) ?_
    refine lv_bipush (v := 9) hx hb dL_act_87 (by decide) ?_
    refine lv_isub hx hb dL_act_89 ?_
    refine k_nrm (y := (nI tt - 9)) (rfl) ?_
    rcases Nat.lt_or_ge en (s_ns st) with hmd | hmd
    · skip
      have hzm : ¬ s_zf st en < (-9) ∧ s_zf st en ≤ 9 := by rcases hii.2.1 with ⟨_, q9⟩ | ⟨_, _, _, _, q9, _⟩; omega; exact q9 en hmd
      have ct := k_cut_TT (wp := []) (T := (WW a K KS st hs sc)) (wc := []) (wr := []) (tc := [(K, .int), (KS, .object "BarcodeWand$State")]) hG hS hA hK hP hD [] [] [0, 1] rfl rfl (by decide) (by decide) (by decide) rfl
      refine k_endi (As := [.ref (a 0), .int (nI en), .int (nI tt - 9)]) ct (k_runSW (As := [.ref (a 0), .int (nI en), .int (nI tt - 9)]) (rest := []) S0 Ls_L_80 ct (c_L_smudge l D a K KS st hs sc en (nI tt - 9) hii.1 hh htr.1 htr.2 hmd H.size) hl.1 rfl (Nat.le_of_ble_eq_true rfl) rfl dL_act_90 ⟨⟨Nat.le_of_ble_eq_true rfl, Nat.le_of_ble_eq_true rfl⟩, Nat.le_of_ble_eq_true rfl, Nat.le_of_ble_eq_true rfl⟩) rfl rfl (fun r_35 _ H locs hw_36 hP hD hK hS => ?_)
      have hK : va_K D vwCl [(K, .int), (KS, .object "BarcodeWand$State")] s := hK
      have hP : va_P D vwCl ((WW a K KS (setZ en (nI tt - 9) st) (svH hs st) sc)) H := hP
      have hD : va_D A ((WW a K KS (setZ en (nI tt - 9) st) (svH hs st) sc)) := hD
      have hw_36 : r_35 = (s_zf st en) := hw_36
      have hw_36 := hw_36.symm
      subst hw_36
      refine k_nrm (y := (s_zf st en)) rfl ?_
      have hP9 : va_P D vwCl ((WW a K KS (setZ en (nI tt - 9) st) (svH hs st) sc)) H := k_subP (wp := []) (wp' := []) (T := (WW a K KS (setZ en (nI tt - 9) st) (svH hs st) sc)) hP [] rfl
      have hD9 : va_D A ((WW a K KS (setZ en (nI tt - 9) st) (svH hs st) sc)) := k_subD (wp := []) (wp' := []) (T := (WW a K KS (setZ en (nI tt - 9) st) (svH hs st) sc)) hD [] (by decide) rfl
      have hP9 : va_P D vwCl ((WW a K KS (setZ en (nI tt - 9) st) (svH hs st) sc)) H := hP9
      have hD9 : va_D A ((WW a K KS (setZ en (nI tt - 9) st) (svH hs st) sc)) := hD9
      have hK9 : va_K D vwCl [] s := hK.sub [] rfl
      refine W.widen (k := 1) (n := 6) (by first | exact Nat.le_of_ble_eq_true rfl | omega) (by first | exact Nat.le_of_ble_eq_true rfl | omega) ?_
      exact W.iret (v := (s_zf st en)) hx hb hr (fun t ht9 hW9 => ⟨⟨(s_zf st en), ((setZ en (nI tt - 9) st), (svH hs st), sc), rfl, by (refine ⟨?_, Or.inl ⟨?_, rfl, (setZ_inv hii htr.1 htr.2).mono (Nat.le_succ N)⟩⟩; unfold actV; rw [hqe, if_neg (show ¬ nI 4 < (2 : Int32) by decide), if_pos (show nI 4 < (5 : Int32) by decide), hene, if_neg (nI_ge hmd (by omega)), rowAt_lt hmd hb2 (by decide)]; exact neg_9 hzm.1), ⟨by rw [ht9]; exact hP9, va_K.moved hW9.alike hK9, hD9⟩⟩, hS.F ht9⟩) hS.2.2 dL_act_93
    · skip
      have ct := k_cut_TT (wp := []) (T := (WW a K KS st hs sc)) (wc := []) (wr := []) (tc := [(K, .int), (KS, .object "BarcodeWand$State")]) hG hS hA hK hP hD [] [] [0, 1] rfl rfl (by decide) (by decide) (by decide) rfl
      refine k_endi (As := [.ref (a 0), .int (nI en), .int (nI tt - 9)]) ct (k_runSW (As := [.ref (a 0), .int (nI en), .int (nI tt - 9)]) (rest := []) S0 Ls_L_80 ct (c_L_smudgeX l hst D a K KS st hs sc en (nI tt - 9) (inR_out hmd (by omega)) H.size) hl.1 rfl (Nat.le_of_ble_eq_true rfl) rfl dL_act_90 ⟨⟨Nat.le_of_ble_eq_true rfl, Nat.le_of_ble_eq_true rfl⟩, Nat.le_of_ble_eq_true rfl, Nat.le_of_ble_eq_true rfl⟩) rfl rfl (fun r_37 _ H locs hw_38 hP hD hK hS => ?_)
      have hK : va_K D vwCl [(K, .int), (KS, .object "BarcodeWand$State")] s := hK
      have hP : va_P D vwCl ((WW a K KS st hs sc)) H := hP
      have hD : va_D A ((WW a K KS st hs sc)) := hD
      have hw_38 : r_37 = (-1000001) := hw_38
      have hw_38 := hw_38.symm
      subst hw_38
      refine k_nrm (y := (-1000001)) rfl ?_
      have hP9 : va_P D vwCl ((WW a K KS st hs sc)) H := k_subP (wp := []) (wp' := []) (T := (WW a K KS st hs sc)) hP [] rfl
      have hD9 : va_D A ((WW a K KS st hs sc)) := k_subD (wp := []) (wp' := []) (T := (WW a K KS st hs sc)) hD [] (by decide) rfl
      have hP9 : va_P D vwCl ((WW a K KS st hs sc)) H := hP9
      have hD9 : va_D A ((WW a K KS st hs sc)) := hD9
      have hK9 : va_K D vwCl [] s := hK.sub [] rfl
      exact W.iret (v := (-1000001)) hx hb hr (fun t ht9 hW9 => ⟨⟨(-1000001), (st, hs, sc), rfl, by (refine ⟨?_, Or.inr ⟨by decide, rfl, rfl⟩⟩; unfold actV; rw [hqe, if_neg (show ¬ nI 4 < (2 : Int32) by decide), if_pos (show nI 4 < (5 : Int32) by decide), hene, if_pos (nI_le hmd (by omega))]), ⟨by rw [ht9]; exact hP9, va_K.moved hW9.alike hK9, hD9⟩⟩, hS.F ht9⟩) hS.2.2 dL_act_93
  · refine k_nrm (y := 5) hqe ?_
    refine lv_tableIn (x := 5) (off := 88) (tgt := 94) hx hb dL_act_6 (by decide) (by decide) (by decide) (by decide) ?_
    obtain ⟨na, hnal, hnae⟩ := low_nI yy (n := 60) (by decide) (by decide)
    have hnae : lowF yy 60 = nI na := hnae
    refine lv_aload_n hx hb dL_act_94 rfl (lv_at hl 0 rfl) ?_
    refine lv_iconst (v := 1) hx hb dL_act_95 (by decide) ?_
    refine lv_iload_n hx hb dL_act_96 rfl (lv_at hl 2 rfl) ?_
    refine lv_bipush (v := 60) hx hb dL_act_97 (by decide) ?_
    have ct := k_cut_T (wp := []) (T := (WW a K KS st hs sc)) (wc := []) (wr := []) (tc := []) hG hS hA hK hP hD [] [] [] rfl rfl (by decide) (by decide) (by decide) rfl
    refine k_endi (As := [.int yy, .int 60]) ct (k_runS (As := [.int yy, .int 60]) (rest := [.int 1, .ref (a 0)]) S0 Ls_L_72 ct (c_low l D yy 60 (by first | assumption | decide) H.size) hl.1 rfl (Nat.le_of_ble_eq_true rfl) rfl dL_act_99 ⟨⟨Nat.le_of_ble_eq_true rfl, Nat.le_of_ble_eq_true rfl⟩, Nat.le_of_ble_eq_true rfl, Nat.le_of_ble_eq_true rfl⟩) rfl rfl (fun r_39 _ H locs hw_40 hP hD hK hS => ?_)
    have hP : va_P D vwCl ((WW a K KS st hs sc)) H := k_swapP (a := []) (b := (WW a K KS st hs sc)) (c := []) hP
    have hD : va_D A ((WW a K KS st hs sc)) := va_D.swap (a := []) (b := (WW a K KS st hs sc)) (c := []) hD
    have hK : va_K D vwCl [(K, .int), (KS, .object "BarcodeWand$State")] s := hK
    have hP : va_P D vwCl ((WW a K KS st hs sc)) H := hP
    have hD : va_D A ((WW a K KS st hs sc)) := hD
    have hw_40 : r_39 = (lowF yy 60) := hw_40
    have hw_40 := hw_40.symm
    subst hw_40
    refine k_nrm (y := (lowF yy 60)) rfl ?_
    refine k_nrm (y := (nI na)) (hnae) ?_
    refine lv_iadd hx hb dL_act_102 ?_
    refine k_nrm (y := (nI (1 + na))) (nI_add 1 na) ?_
    rcases Nat.lt_or_ge (s_tn st) 41 with hmd | hmd
    · skip
      have ct := k_cut_TT (wp := []) (T := (WW a K KS st hs sc)) (wc := []) (wr := []) (tc := [(K, .int), (KS, .object "BarcodeWand$State")]) hG hS hA hK hP hD [] [] [0, 1] rfl rfl (by decide) (by decide) (by decide) rfl
      refine k_endi (As := [.ref (a 0), .int (nI (1 + na))]) ct (k_runSW (As := [.ref (a 0), .int (nI (1 + na))]) (rest := []) S0 Ls_L_82 ct (c_L_measure l D a K KS st hs sc (nI (1 + na)) hii.1 hh (nI_nlt (b := 1) (by omega) (by omega)) (nI_le (b := 9999) (by omega) (by decide)) hmd H.size) hl.1 rfl (Nat.le_of_ble_eq_true rfl) rfl dL_act_103 ⟨⟨Nat.le_of_ble_eq_true rfl, Nat.le_of_ble_eq_true rfl⟩, Nat.le_of_ble_eq_true rfl, Nat.le_of_ble_eq_true rfl⟩) rfl rfl (fun r_41 _ H locs hw_42 hP hD hK hS => ?_)
      have hK : va_K D vwCl [(K, .int), (KS, .object "BarcodeWand$State")] s := hK
      have hP : va_P D vwCl ((WW a K KS (setT (s_tn st + 1) (upd (s_tf st) (s_tn st) (nI (1 + na))) st) (svH hs st) sc)) H := hP
      have hD : va_D A ((WW a K KS (setT (s_tn st + 1) (upd (s_tf st) (s_tn st) (nI (1 + na))) st) (svH hs st) sc)) := hD
      have hw_42 : r_41 = (nI (s_tn st + 1)) := hw_42
      have hw_42 := hw_42.symm
      subst hw_42
      refine k_nrm (y := (nI (s_tn st + 1))) rfl ?_
      have hP9 : va_P D vwCl ((WW a K KS (setT (s_tn st + 1) (upd (s_tf st) (s_tn st) (nI (1 + na))) st) (svH hs st) sc)) H := k_subP (wp := []) (wp' := []) (T := (WW a K KS (setT (s_tn st + 1) (upd (s_tf st) (s_tn st) (nI (1 + na))) st) (svH hs st) sc)) hP [] rfl
      have hD9 : va_D A ((WW a K KS (setT (s_tn st + 1) (upd (s_tf st) (s_tn st) (nI (1 + na))) st) (svH hs st) sc)) := k_subD (wp := []) (wp' := []) (T := (WW a K KS (setT (s_tn st + 1) (upd (s_tf st) (s_tn st) (nI (1 + na))) st) (svH hs st) sc)) hD [] (by decide) rfl
      have hP9 : va_P D vwCl ((WW a K KS (setT (s_tn st + 1) (upd (s_tf st) (s_tn st) (nI (1 + na))) st) (svH hs st) sc)) H := hP9
      have hD9 : va_D A ((WW a K KS (setT (s_tn st + 1) (upd (s_tf st) (s_tn st) (nI (1 + na))) st) (svH hs st) sc)) := hD9
      have hK9 : va_K D vwCl [] s := hK.sub [] rfl
      refine W.widen (k := 1) (n := 6) (by first | exact Nat.le_of_ble_eq_true rfl | omega) (by first | exact Nat.le_of_ble_eq_true rfl | omega) ?_
      exact W.iret (v := (nI (s_tn st + 1))) hx hb hr (fun t ht9 hW9 => ⟨⟨(nI (s_tn st + 1)), ((setT (s_tn st + 1) (upd (s_tf st) (s_tn st) (nI (1 + na))) st), (svH hs st), sc), rfl, by (refine ⟨?_, Or.inl ⟨neg_k (by omega), rfl, (setT_inv hii (by omega)).mono (Nat.le_succ N)⟩⟩; unfold actV; rw [hqe, if_neg (show ¬ nI 5 < (2 : Int32) by decide), if_neg (show ¬ nI 5 < (5 : Int32) by decide), if_pos (show nI 5 = (5 : Int32) by decide), if_neg (by omega)]), ⟨by rw [ht9]; exact hP9, va_K.moved hW9.alike hK9, hD9⟩⟩, hS.F ht9⟩) hS.2.2 dL_act_106
    · skip
      have ct := k_cut_TT (wp := []) (T := (WW a K KS st hs sc)) (wc := []) (wr := []) (tc := [(K, .int), (KS, .object "BarcodeWand$State")]) hG hS hA hK hP hD [] [] [0, 1] rfl rfl (by decide) (by decide) (by decide) rfl
      refine k_endi (As := [.ref (a 0), .int (nI (1 + na))]) ct (k_runSW (As := [.ref (a 0), .int (nI (1 + na))]) (rest := []) S0 Ls_L_82 ct (c_L_measureX l hst D a K KS st hs sc (nI (1 + na)) hii.1 (nI_nlt (b := 1) (by omega) (by omega)) (nI_le (b := 9999) (by omega) (by decide)) hmd H.size) hl.1 rfl (Nat.le_of_ble_eq_true rfl) rfl dL_act_103 ⟨⟨Nat.le_of_ble_eq_true rfl, Nat.le_of_ble_eq_true rfl⟩, Nat.le_of_ble_eq_true rfl, Nat.le_of_ble_eq_true rfl⟩) rfl rfl (fun r_43 _ H locs hw_44 hP hD hK hS => ?_)
      have hK : va_K D vwCl [(K, .int), (KS, .object "BarcodeWand$State")] s := hK
      have hP : va_P D vwCl ((WW a K KS st hs sc)) H := hP
      have hD : va_D A ((WW a K KS st hs sc)) := hD
      have hw_44 : r_43 = (-1000002) := hw_44
      have hw_44 := hw_44.symm
      subst hw_44
      refine k_nrm (y := (-1000002)) rfl ?_
      have hP9 : va_P D vwCl ((WW a K KS st hs sc)) H := k_subP (wp := []) (wp' := []) (T := (WW a K KS st hs sc)) hP [] rfl
      have hD9 : va_D A ((WW a K KS st hs sc)) := k_subD (wp := []) (wp' := []) (T := (WW a K KS st hs sc)) hD [] (by decide) rfl
      have hP9 : va_P D vwCl ((WW a K KS st hs sc)) H := hP9
      have hD9 : va_D A ((WW a K KS st hs sc)) := hD9
      have hK9 : va_K D vwCl [] s := hK.sub [] rfl
      exact W.iret (v := (-1000002)) hx hb hr (fun t ht9 hW9 => ⟨⟨(-1000002), (st, hs, sc), rfl, by (refine ⟨?_, Or.inr ⟨by decide, rfl, rfl⟩⟩; unfold actV; rw [hqe, if_neg (show ¬ nI 5 < (2 : Int32) by decide), if_neg (show ¬ nI 5 < (5 : Int32) by decide), if_pos (show nI 5 = (5 : Int32) by decide), if_pos (by omega)]), ⟨by rw [ht9]; exact hP9, va_K.moved hW9.alike hK9, hD9⟩⟩, hS.F ht9⟩) hS.2.2 dL_act_106
  · refine k_nrm (y := 6) hqe ?_
    refine lv_tableIn (x := 6) (off := 101) (tgt := 107) hx hb dL_act_6 (by decide) (by decide) (by decide) (by decide) ?_
    refine lv_iload_n hx hb dL_act_107 rfl (lv_at hl 2 rfl) ?_
    refine lv_iconst (v := 3) hx hb dL_act_108 (by decide) ?_
    have ct := k_cut_T (wp := []) (T := (WW a K KS st hs sc)) (wc := []) (wr := []) (tc := []) hG hS hA hK hP hD [] [] [] rfl rfl (by decide) (by decide) (by decide) rfl
    refine k_endi (As := [.int yy, .int 3]) ct (k_runS (As := [.int yy, .int 3]) (rest := []) S0 Ls_L_72 ct (c_low l D yy 3 (by first | assumption | decide) H.size) hl.1 rfl (Nat.le_of_ble_eq_true rfl) rfl dL_act_109 ⟨⟨Nat.le_of_ble_eq_true rfl, Nat.le_of_ble_eq_true rfl⟩, Nat.le_of_ble_eq_true rfl, Nat.le_of_ble_eq_true rfl⟩) rfl rfl (fun r_45 _ H locs hw_46 hP hD hK hS => ?_)
    have hP : va_P D vwCl ((WW a K KS st hs sc)) H := k_swapP (a := []) (b := (WW a K KS st hs sc)) (c := []) hP
    have hD : va_D A ((WW a K KS st hs sc)) := va_D.swap (a := []) (b := (WW a K KS st hs sc)) (c := []) hD
    have hK : va_K D vwCl [(K, .int), (KS, .object "BarcodeWand$State")] s := hK
    have hP : va_P D vwCl ((WW a K KS st hs sc)) H := hP
    have hD : va_D A ((WW a K KS st hs sc)) := hD
    have hw_46 : r_45 = (lowF yy 3) := hw_46
    have hw_46 := hw_46.symm
    subst hw_46
    refine k_nrm (y := (lowF yy 3)) rfl ?_
    refine lv_if_ne (tgt := 122) hx hb dL_act_112 (by decide) (fun c_47 => ?_) (fun c_47 => ?_)
    · have hc9 := c_47
      refine lv_aload_n hx hb dL_act_122 rfl (lv_at hl 0 rfl) ?_
      have ct := k_cut_TT (wp := []) (T := (WW a K KS st hs sc)) (wc := []) (wr := []) (tc := [(K, .int), (KS, .object "BarcodeWand$State")]) hG hS hA hK hP hD [] [] [0, 1] rfl rfl (by decide) (by decide) (by decide) rfl
      refine k_endi (As := [.ref (a 0)]) ct (k_runV (As := []) (rest := []) S0 Lv_L_88 rfl (ci := 7) (q0 := 0) rfl (WW_0 a K KS st hs sc) ct (c_B_read l D a K KS st hs sc hii.1 hh H.size) hl.1 rfl (Nat.le_of_ble_eq_true rfl) rfl dL_act_123 ⟨⟨Nat.le_of_ble_eq_true rfl, Nat.le_of_ble_eq_true rfl⟩, Nat.le_of_ble_eq_true rfl, Nat.le_of_ble_eq_true rfl⟩) rfl rfl (fun r_48 u H locs hw_51 hP hD hK hS => ?_)
      obtain ⟨st1v_49, sc1v_50⟩ := u
      have hK : va_K D vwCl [(K, .int), (KS, .object "BarcodeWand$State")] s := hK
      have hP : va_P D vwCl ((WW a K KS st1v_49 (svH hs st) sc1v_50)) H := hP
      have hD : va_D A ((WW a K KS st1v_49 (svH hs st) sc1v_50)) := hD
      have hw_51 : RC st st1v_49 r_48 := hw_51
      have hP9 : va_P D vwCl ((WW a K KS st1v_49 (svH hs st) sc1v_50)) H := k_subP (wp := []) (wp' := []) (T := (WW a K KS st1v_49 (svH hs st) sc1v_50)) hP [] rfl
      have hD9 : va_D A ((WW a K KS st1v_49 (svH hs st) sc1v_50)) := k_subD (wp := []) (wp' := []) (T := (WW a K KS st1v_49 (svH hs st) sc1v_50)) hD [] (by decide) rfl
      have hP9 : va_P D vwCl ((WW a K KS st1v_49 (svH hs st) sc1v_50)) H := hP9
      have hD9 : va_D A ((WW a K KS st1v_49 (svH hs st) sc1v_50)) := hD9
      have hK9 : va_K D vwCl [] s := hK.sub [] rfl
      refine W.widen (k := 1) (n := 6) (by first | exact Nat.le_of_ble_eq_true rfl | omega) (by first | exact Nat.le_of_ble_eq_true rfl | omega) ?_
      exact W.iret (v := r_48) hx hb hr (fun t ht9 hW9 => ⟨⟨r_48, (st1v_49, (svH hs st), sc1v_50), rfl, by (refine ⟨(RC_out hw_51).1.trans ?_, Or.inl ⟨?_, rfl, RC_inv hii hw_51⟩⟩; unfold actV; rw [hqe, if_neg (show ¬ nI 6 < (2 : Int32) by decide), if_neg (show ¬ nI 6 < (5 : Int32) by decide), if_neg (show ¬ nI 6 = (5 : Int32) by decide), if_pos (show nI 6 = (6 : Int32) by decide), if_neg c_47]; rw [(RC_out hw_51).1]; exact (res_in _ _ _).1), ⟨by rw [ht9]; exact hP9, va_K.moved hW9.alike hK9, hD9⟩⟩, hS.F ht9⟩) hS.2.2 dL_act_126
    · have hc9 := c_47
      refine lv_aload_n hx hb dL_act_115 rfl (lv_at hl 0 rfl) ?_
      have ct := k_cut_TT (wp := []) (T := (WW a K KS st hs sc)) (wc := []) (wr := []) (tc := [(K, .int), (KS, .object "BarcodeWand$State")]) hG hS hA hK hP hD [] [] [0, 1] rfl rfl (by decide) (by decide) (by decide) rfl
      refine k_endi (As := [.ref (a 0)]) ct (k_runV (As := []) (rest := []) S0 Lv_L_85 rfl (ci := 7) (q0 := 0) rfl (WW_0 a K KS st hs sc) ct (c_B_clear l D a K KS st hs sc hii.1 hh H.size) hl.1 rfl (Nat.le_of_ble_eq_true rfl) rfl dL_act_116 ⟨⟨Nat.le_of_ble_eq_true rfl, Nat.le_of_ble_eq_true rfl⟩, Nat.le_of_ble_eq_true rfl, Nat.le_of_ble_eq_true rfl⟩) rfl rfl (fun r_52 _ H locs hw_53 hP hD hK hS => ?_)
      have hK : va_K D vwCl [(K, .int), (KS, .object "BarcodeWand$State")] s := hK
      have hP : va_P D vwCl ((WW a K KS (setT 0 (s_tf st) st) (svH hs st) sc)) H := hP
      have hD : va_D A ((WW a K KS (setT 0 (s_tf st) st) (svH hs st) sc)) := hD
      have hw_53 : r_52 = (nI (s_tn st)) := hw_53
      have hw_53 := hw_53.symm
      subst hw_53
      refine k_nrm (y := (nI (s_tn st))) rfl ?_
      refine lv_goto (tgt := 126) hx hb dL_act_119 (by decide) ?_
      have hP9 : va_P D vwCl ((WW a K KS (setT 0 (s_tf st) st) (svH hs st) sc)) H := k_subP (wp := []) (wp' := []) (T := (WW a K KS (setT 0 (s_tf st) st) (svH hs st) sc)) hP [] rfl
      have hD9 : va_D A ((WW a K KS (setT 0 (s_tf st) st) (svH hs st) sc)) := k_subD (wp := []) (wp' := []) (T := (WW a K KS (setT 0 (s_tf st) st) (svH hs st) sc)) hD [] (by decide) rfl
      have hP9 : va_P D vwCl ((WW a K KS (setT 0 (s_tf st) st) (svH hs st) sc)) H := hP9
      have hD9 : va_D A ((WW a K KS (setT 0 (s_tf st) st) (svH hs st) sc)) := hD9
      have hK9 : va_K D vwCl [] s := hK.sub [] rfl
      refine W.widen (k := 1) (n := 6) (by first | exact Nat.le_of_ble_eq_true rfl | omega) (by first | exact Nat.le_of_ble_eq_true rfl | omega) ?_
      exact W.iret (v := (nI (s_tn st))) hx hb hr (fun t ht9 hW9 => ⟨⟨(nI (s_tn st)), ((setT 0 (s_tf st) st), (svH hs st), sc), rfl, by (refine ⟨?_, Or.inl ⟨neg_k (by omega), rfl, (setT_inv hii (by omega)).mono (Nat.le_succ N)⟩⟩; unfold actV; rw [hqe, if_neg (show ¬ nI 6 < (2 : Int32) by decide), if_neg (show ¬ nI 6 < (5 : Int32) by decide), if_neg (show ¬ nI 6 = (5 : Int32) by decide), if_pos (show nI 6 = (6 : Int32) by decide), if_pos c_47]), ⟨by rw [ht9]; exact hP9, va_K.moved hW9.alike hK9, hD9⟩⟩, hS.F ht9⟩) hS.2.2 dL_act_126
  · refine k_nrm (y := 7) hqe ?_
    refine lv_tableIn (x := 7) (off := 121) (tgt := 127) hx hb dL_act_6 (by decide) (by decide) (by decide) (by decide) ?_
    obtain ⟨na, hnal, hnae⟩ := low_nI yy (n := 8) (by decide) (by decide)
    have hnae : lowF yy 8 = nI na := hnae
    refine lv_aload_n hx hb dL_act_127 rfl (lv_at hl 0 rfl) ?_
    refine lv_iconst (v := 1) hx hb dL_act_128 (by decide) ?_
    refine lv_iload_n hx hb dL_act_129 rfl (lv_at hl 2 rfl) ?_
    refine lv_bipush (v := 8) hx hb dL_act_130 (by decide) ?_
    have ct := k_cut_T (wp := []) (T := (WW a K KS st hs sc)) (wc := []) (wr := []) (tc := []) hG hS hA hK hP hD [] [] [] rfl rfl (by decide) (by decide) (by decide) rfl
    refine k_endi (As := [.int yy, .int 8]) ct (k_runS (As := [.int yy, .int 8]) (rest := [.int 1, .ref (a 0)]) S0 Ls_L_72 ct (c_low l D yy 8 (by first | assumption | decide) H.size) hl.1 rfl (Nat.le_of_ble_eq_true rfl) rfl dL_act_132 ⟨⟨Nat.le_of_ble_eq_true rfl, Nat.le_of_ble_eq_true rfl⟩, Nat.le_of_ble_eq_true rfl, Nat.le_of_ble_eq_true rfl⟩) rfl rfl (fun r_54 _ H locs hw_55 hP hD hK hS => ?_)
    have hP : va_P D vwCl ((WW a K KS st hs sc)) H := k_swapP (a := []) (b := (WW a K KS st hs sc)) (c := []) hP
    have hD : va_D A ((WW a K KS st hs sc)) := va_D.swap (a := []) (b := (WW a K KS st hs sc)) (c := []) hD
    have hK : va_K D vwCl [(K, .int), (KS, .object "BarcodeWand$State")] s := hK
    have hP : va_P D vwCl ((WW a K KS st hs sc)) H := hP
    have hD : va_D A ((WW a K KS st hs sc)) := hD
    have hw_55 : r_54 = (lowF yy 8) := hw_55
    have hw_55 := hw_55.symm
    subst hw_55
    refine k_nrm (y := (lowF yy 8)) rfl ?_
    refine k_nrm (y := (nI na)) (hnae) ?_
    refine lv_iadd hx hb dL_act_135 ?_
    refine k_nrm (y := (nI (1 + na))) (nI_add 1 na) ?_
    have ct := k_cut_TT (wp := []) (T := (WW a K KS st hs sc)) (wc := []) (wr := []) (tc := [(K, .int), (KS, .object "BarcodeWand$State")]) hG hS hA hK hP hD [] [] [0, 1] rfl rfl (by decide) (by decide) (by decide) rfl
    refine k_endi (As := [.ref (a 0), .int (nI (1 + na))]) ct (k_runSW (As := [.ref (a 0), .int (nI (1 + na))]) (rest := []) S0 Ls_L_91 ct (c_L_setTol l D a K KS st hs sc (nI (1 + na)) hii.1 hh (nI_nlt (b := 1) (by omega) (by omega)) (nI_le (b := 8) (by omega) (by decide)) H.size) hl.1 rfl (Nat.le_of_ble_eq_true rfl) rfl dL_act_136 ⟨⟨Nat.le_of_ble_eq_true rfl, Nat.le_of_ble_eq_true rfl⟩, Nat.le_of_ble_eq_true rfl, Nat.le_of_ble_eq_true rfl⟩) rfl rfl (fun r_56 _ H locs hw_57 hP hD hK hS => ?_)
    have hK : va_K D vwCl [(K, .int), (KS, .object "BarcodeWand$State")] s := hK
    have hP : va_P D vwCl ((WW a K KS (setL (nI (1 + na)) st) (svH hs st) sc)) H := hP
    have hD : va_D A ((WW a K KS (setL (nI (1 + na)) st) (svH hs st) sc)) := hD
    have hw_57 : r_56 = (s_tol st) := hw_57
    have hw_57 := hw_57.symm
    subst hw_57
    refine k_nrm (y := (s_tol st)) rfl ?_
    have hP9 : va_P D vwCl ((WW a K KS (setL (nI (1 + na)) st) (svH hs st) sc)) H := k_subP (wp := []) (wp' := []) (T := (WW a K KS (setL (nI (1 + na)) st) (svH hs st) sc)) hP [] rfl
    have hD9 : va_D A ((WW a K KS (setL (nI (1 + na)) st) (svH hs st) sc)) := k_subD (wp := []) (wp' := []) (T := (WW a K KS (setL (nI (1 + na)) st) (svH hs st) sc)) hD [] (by decide) rfl
    have hP9 : va_P D vwCl ((WW a K KS (setL (nI (1 + na)) st) (svH hs st) sc)) H := hP9
    have hD9 : va_D A ((WW a K KS (setL (nI (1 + na)) st) (svH hs st) sc)) := hD9
    have hK9 : va_K D vwCl [] s := hK.sub [] rfl
    refine W.widen (k := 1) (n := 6) (by first | exact Nat.le_of_ble_eq_true rfl | omega) (by first | exact Nat.le_of_ble_eq_true rfl | omega) ?_
    exact W.iret (v := (s_tol st)) hx hb hr (fun t ht9 hW9 => ⟨⟨(s_tol st), ((setL (nI (1 + na)) st), (svH hs st), sc), rfl, by (refine ⟨?_, Or.inl ⟨?_, rfl, (setL_inv (t := 1 + na) hii (by omega) (by omega)).mono (Nat.le_succ N)⟩⟩; unfold actV; rw [hqe, if_neg (show ¬ nI 7 < (2 : Int32) by decide), if_neg (show ¬ nI 7 < (5 : Int32) by decide), if_neg (show ¬ nI 7 = (5 : Int32) by decide), if_neg (show ¬ nI 7 = (6 : Int32) by decide), if_pos (show nI 7 = (7 : Int32) by decide)]; obtain ⟨t9, h91, h98, h9e⟩ := hii.2.2.1; rw [h9e]; exact neg_k (by omega)), ⟨by rw [ht9]; exact hP9, va_K.moved hW9.alike hK9, hD9⟩⟩, hS.F ht9⟩) hS.2.2 dL_act_139
  · have hqi : (nI q).toInt = (q : Int) := nI_toInt (by omega)
    refine lv_tableOut (x := lowF xx 12) (tgt := 140) hx hb dL_act_6 (Or.inr (by rw [hqe, hqi]; omega)) (by decide) ?_
    refine lv_aload_n hx hb dL_act_140 rfl (lv_at hl 0 rfl) ?_
    refine lv_iconst (v := 1) hx hb dL_act_141 (by decide) ?_
    refine lv_iload_n hx hb dL_act_142 rfl (lv_at hl 2 rfl) ?_
    refine lv_bipush (v := 20) hx hb dL_act_143 (by decide) ?_
    have ct := k_cut_T (wp := []) (T := (WW a K KS st hs sc)) (wc := []) (wr := []) (tc := []) hG hS hA hK hP hD [] [] [] rfl rfl (by decide) (by decide) (by decide) rfl
    refine k_endi (As := [.int yy, .int 20]) ct (k_runS (As := [.int yy, .int 20]) (rest := [.int 1, .ref (a 0)]) S0 Ls_L_72 ct (c_low l D yy 20 (by first | assumption | decide) H.size) hl.1 rfl (Nat.le_of_ble_eq_true rfl) rfl dL_act_145 ⟨⟨Nat.le_of_ble_eq_true rfl, Nat.le_of_ble_eq_true rfl⟩, Nat.le_of_ble_eq_true rfl, Nat.le_of_ble_eq_true rfl⟩) rfl rfl (fun r_58 _ H locs hw_59 hP hD hK hS => ?_)
    have hP : va_P D vwCl ((WW a K KS st hs sc)) H := k_swapP (a := []) (b := (WW a K KS st hs sc)) (c := []) hP
    have hD : va_D A ((WW a K KS st hs sc)) := va_D.swap (a := []) (b := (WW a K KS st hs sc)) (c := []) hD
    have hK : va_K D vwCl [(K, .int), (KS, .object "BarcodeWand$State")] s := hK
    have hP : va_P D vwCl ((WW a K KS st hs sc)) H := hP
    have hD : va_D A ((WW a K KS st hs sc)) := hD
    have hw_59 : r_58 = (lowF yy 20) := hw_59
    have hw_59 := hw_59.symm
    subst hw_59
    refine k_nrm (y := (lowF yy 20)) rfl ?_
    refine lv_iadd hx hb dL_act_148 ?_
    refine k_nrm (y := (1 + lowF yy 20)) (rfl) ?_
    refine lv_iconst (v := 1) hx hb dL_act_149 (by decide) ?_
    refine lv_iload_n hx hb dL_act_150 rfl (lv_at hl 2 rfl) ?_
    refine lv_bipush (v := 9) hx hb dL_act_151 (by decide) ?_
    refine lv_ishr hx hb dL_act_153 ?_
    refine k_nrm (y := (shrF yy 9)) rfl ?_
    refine lv_iconst (v := 2) hx hb dL_act_154 (by decide) ?_
    have ct := k_cut_T (wp := []) (T := (WW a K KS st hs sc)) (wc := []) (wr := []) (tc := []) hG hS hA hK hP hD [] [] [] rfl rfl (by decide) (by decide) (by decide) rfl
    refine k_endi (As := [.int (shrF yy 9), .int 2]) ct (k_runS (As := [.int (shrF yy 9), .int 2]) (rest := [.int 1, .int (1 + lowF yy 20), .ref (a 0)]) S0 Ls_L_72 ct (c_low l D (shrF yy 9) 2 (by first | assumption | decide) H.size) hl.1 rfl (Nat.le_of_ble_eq_true rfl) rfl dL_act_155 ⟨⟨Nat.le_of_ble_eq_true rfl, Nat.le_of_ble_eq_true rfl⟩, Nat.le_of_ble_eq_true rfl, Nat.le_of_ble_eq_true rfl⟩) rfl rfl (fun r_60 _ H locs hw_61 hP hD hK hS => ?_)
    have hP : va_P D vwCl ((WW a K KS st hs sc)) H := k_swapP (a := []) (b := (WW a K KS st hs sc)) (c := []) hP
    have hD : va_D A ((WW a K KS st hs sc)) := va_D.swap (a := []) (b := (WW a K KS st hs sc)) (c := []) hD
    have hK : va_K D vwCl [(K, .int), (KS, .object "BarcodeWand$State")] s := hK
    have hP : va_P D vwCl ((WW a K KS st hs sc)) H := hP
    have hD : va_D A ((WW a K KS st hs sc)) := hD
    have hw_61 : r_60 = (lowF (shrF yy 9) 2) := hw_61
    have hw_61 := hw_61.symm
    subst hw_61
    refine k_nrm (y := (lowF (shrF yy 9) 2)) rfl ?_
    refine lv_if_ne (tgt := 165) hx hb dL_act_158 (by decide) (fun c_62 => ?_) (fun c_62 => ?_)
    · have hc9 := c_62
      refine lv_iload_n hx hb dL_act_165 rfl (lv_at hl 2 rfl) ?_
      refine lv_iconst (v := 4) hx hb dL_act_166 (by decide) ?_
      refine lv_ishr hx hb dL_act_167 ?_
      refine k_nrm (y := (shrF yy 4)) rfl ?_
      refine lv_bipush (v := 20) hx hb dL_act_168 (by decide) ?_
      have ct := k_cut_T (wp := []) (T := (WW a K KS st hs sc)) (wc := []) (wr := []) (tc := []) hG hS hA hK hP hD [] [] [] rfl rfl (by decide) (by decide) (by decide) rfl
      refine k_endi (As := [.int (shrF yy 4), .int 20]) ct (k_runS (As := [.int (shrF yy 4), .int 20]) (rest := [.int 1, .int (1 + lowF yy 20), .ref (a 0)]) S0 Ls_L_72 ct (c_low l D (shrF yy 4) 20 (by first | assumption | decide) H.size) hl.1 rfl (Nat.le_of_ble_eq_true rfl) rfl dL_act_170 ⟨⟨Nat.le_of_ble_eq_true rfl, Nat.le_of_ble_eq_true rfl⟩, Nat.le_of_ble_eq_true rfl, Nat.le_of_ble_eq_true rfl⟩) rfl rfl (fun r_63 _ H locs hw_64 hP hD hK hS => ?_)
      have hP : va_P D vwCl ((WW a K KS st hs sc)) H := k_swapP (a := []) (b := (WW a K KS st hs sc)) (c := []) hP
      have hD : va_D A ((WW a K KS st hs sc)) := va_D.swap (a := []) (b := (WW a K KS st hs sc)) (c := []) hD
      have hK : va_K D vwCl [(K, .int), (KS, .object "BarcodeWand$State")] s := hK
      have hP : va_P D vwCl ((WW a K KS st hs sc)) H := hP
      have hD : va_D A ((WW a K KS st hs sc)) := hD
      have hw_64 : r_63 = (lowF (shrF yy 4) 20) := hw_64
      have hw_64 := hw_64.symm
      subst hw_64
      refine k_nrm (y := (lowF (shrF yy 4) 20)) rfl ?_
      refine lv_iadd hx hb dL_act_173 ?_
      refine k_nrm (y := (1 + (lowF (shrF yy 4) 20))) (rfl) ?_
      refine lv_iload_n hx hb dL_act_174 rfl (lv_at hl 1 rfl) ?_
      refine lv_iconst (v := 5) hx hb dL_act_175 (by decide) ?_
      refine lv_ishr hx hb dL_act_176 ?_
      refine k_nrm (y := (shrF xx 5)) rfl ?_
      refine lv_iconst (v := 2) hx hb dL_act_177 (by decide) ?_
      have ct := k_cut_T (wp := []) (T := (WW a K KS st hs sc)) (wc := []) (wr := []) (tc := []) hG hS hA hK hP hD [] [] [] rfl rfl (by decide) (by decide) (by decide) rfl
      refine k_endi (As := [.int (shrF xx 5), .int 2]) ct (k_runS (As := [.int (shrF xx 5), .int 2]) (rest := [.int (1 + (lowF (shrF yy 4) 20)), .int (1 + lowF yy 20), .ref (a 0)]) S0 Ls_L_72 ct (c_low l D (shrF xx 5) 2 (by first | assumption | decide) H.size) hl.1 rfl (Nat.le_of_ble_eq_true rfl) rfl dL_act_178 ⟨⟨Nat.le_of_ble_eq_true rfl, Nat.le_of_ble_eq_true rfl⟩, Nat.le_of_ble_eq_true rfl, Nat.le_of_ble_eq_true rfl⟩) rfl rfl (fun r_65 _ H locs hw_66 hP hD hK hS => ?_)
      have hP : va_P D vwCl ((WW a K KS st hs sc)) H := k_swapP (a := []) (b := (WW a K KS st hs sc)) (c := []) hP
      have hD : va_D A ((WW a K KS st hs sc)) := va_D.swap (a := []) (b := (WW a K KS st hs sc)) (c := []) hD
      have hK : va_K D vwCl [(K, .int), (KS, .object "BarcodeWand$State")] s := hK
      have hP : va_P D vwCl ((WW a K KS st hs sc)) H := hP
      have hD : va_D A ((WW a K KS st hs sc)) := hD
      have hw_66 : r_65 = (lowF (shrF xx 5) 2) := hw_66
      have hw_66 := hw_66.symm
      subst hw_66
      refine k_nrm (y := (lowF (shrF xx 5) 2)) rfl ?_
      refine lv_if_ne (tgt := 188) hx hb dL_act_181 (by decide) (fun c_67 => ?_) (fun c_67 => ?_)
      · have hc9 := c_67
        refine lv_iconst (v := 0) hx hb dL_act_188 (by decide) ?_
        rcases (show ¬ s_ns st = 0 ∨ s_ns st = 0 by omega) with hmd | hmd
        · skip
          have ct := k_cut_TT (wp := []) (T := (WW a K KS st hs sc)) (wc := []) (wr := []) (tc := [(K, .int), (KS, .object "BarcodeWand$State")]) hG hS hA hK hP hD [] [] [0, 1] rfl rfl (by decide) (by decide) (by decide) rfl
          refine k_endi (As := [.ref (a 0), .int (1 + lowF yy 20), .int (1 + (lowF (shrF yy 4) 20)), .int 0]) ct (k_runSW (As := [.ref (a 0), .int (1 + lowF yy 20), .int (1 + (lowF (shrF yy 4) 20)), .int 0]) (rest := []) S0 Ls_L_93 ct (c_L_draw l D a K KS st hs sc (1 + lowF yy 20) (1 + (lowF (shrF yy 4) 20)) 0 hii.1 hh (per_low _ _ (n := 20) (by decide) (by decide)) hmd H.size) hl.1 rfl (Nat.le_of_ble_eq_true rfl) rfl dL_act_189 ⟨⟨Nat.le_of_ble_eq_true rfl, Nat.le_of_ble_eq_true rfl⟩, Nat.le_of_ble_eq_true rfl, Nat.le_of_ble_eq_true rfl⟩) rfl rfl (fun r_68 u H locs hw_71 hP hD hK hS => ?_)
          obtain ⟨st1v_69, sc1v_70⟩ := u
          have hK : va_K D vwCl [(K, .int), (KS, .object "BarcodeWand$State")] s := hK
          have hP : va_P D vwCl ((WW a K KS st1v_69 (svH hs st) sc1v_70)) H := hP
          have hD : va_D A ((WW a K KS st1v_69 (svH hs st) sc1v_70)) := hD
          have hw_71 : RC (setT (s_ns st) (cpy (s_drw st (1 + lowF yy 20) (1 + (lowF (shrF yy 4) 20)) 0) (s_tf st) (s_ns st)) st) st1v_69 r_68 := hw_71
          have hP9 : va_P D vwCl ((WW a K KS st1v_69 (svH hs st) sc1v_70)) H := k_subP (wp := []) (wp' := []) (T := (WW a K KS st1v_69 (svH hs st) sc1v_70)) hP [] rfl
          have hD9 : va_D A ((WW a K KS st1v_69 (svH hs st) sc1v_70)) := k_subD (wp := []) (wp' := []) (T := (WW a K KS st1v_69 (svH hs st) sc1v_70)) hD [] (by decide) rfl
          have hP9 : va_P D vwCl ((WW a K KS st1v_69 (svH hs st) sc1v_70)) H := hP9
          have hD9 : va_D A ((WW a K KS st1v_69 (svH hs st) sc1v_70)) := hD9
          have hK9 : va_K D vwCl [] s := hK.sub [] rfl
          refine W.widen (k := 1) (n := 6) (by first | exact Nat.le_of_ble_eq_true rfl | omega) (by first | exact Nat.le_of_ble_eq_true rfl | omega) ?_
          exact W.iret (v := r_68) hx hb hr (fun t ht9 hW9 => ⟨⟨r_68, (st1v_69, (svH hs st), sc1v_70), rfl, by (refine ⟨(drw_out hii.1 hw_71).1.trans ?_, Or.inl ⟨?_, rfl, drw_inv hii hw_71⟩⟩; unfold actV; rw [hqe, if_neg (show ¬ nI q < (2 : Int32) from nI_nlt (b := 2) (by omega) (by omega)), if_neg (show ¬ nI q < (5 : Int32) from nI_nlt (b := 5) (by omega) (by omega)), if_neg (show ¬ nI q = (5 : Int32) from fun q9 => absurd ((nI_eq (b := 5) (by omega) (by decide)).mp q9) (by omega)), if_neg (show ¬ nI q = (6 : Int32) from fun q9 => absurd ((nI_eq (b := 6) (by omega) (by decide)).mp q9) (by omega)), if_neg (show ¬ nI q = (7 : Int32) from fun q9 => absurd ((nI_eq (b := 7) (by omega) (by decide)).mp q9) (by omega)), if_neg hmd, if_neg c_62, if_neg c_67]; rw [(drw_out hii.1 hw_71).1]; exact (res_in _ _ _).1), ⟨by rw [ht9]; exact hP9, va_K.moved hW9.alike hK9, hD9⟩⟩, hS.F ht9⟩) hS.2.2 dL_act_192
        · skip
          have ct := k_cut_TT (wp := []) (T := (WW a K KS st hs sc)) (wc := []) (wr := []) (tc := [(K, .int), (KS, .object "BarcodeWand$State")]) hG hS hA hK hP hD [] [] [0, 1] rfl rfl (by decide) (by decide) (by decide) rfl
          refine k_endi (As := [.ref (a 0), .int (1 + lowF yy 20), .int (1 + (lowF (shrF yy 4) 20)), .int 0]) ct (k_runSW (As := [.ref (a 0), .int (1 + lowF yy 20), .int (1 + (lowF (shrF yy 4) 20)), .int 0]) (rest := []) S0 Ls_L_93 ct (c_L_drawX l hst D a K KS st hs sc (1 + lowF yy 20) (1 + (lowF (shrF yy 4) 20)) 0 (per_low _ _ (n := 20) (by decide) (by decide)) hmd H.size) hl.1 rfl (Nat.le_of_ble_eq_true rfl) rfl dL_act_189 ⟨⟨Nat.le_of_ble_eq_true rfl, Nat.le_of_ble_eq_true rfl⟩, Nat.le_of_ble_eq_true rfl, Nat.le_of_ble_eq_true rfl⟩) rfl rfl (fun r_72 _ H locs hw_73 hP hD hK hS => ?_)
          have hK : va_K D vwCl [(K, .int), (KS, .object "BarcodeWand$State")] s := hK
          have hP : va_P D vwCl ((WW a K KS st hs sc)) H := hP
          have hD : va_D A ((WW a K KS st hs sc)) := hD
          have hw_73 : r_72 = (-1000002) := hw_73
          have hw_73 := hw_73.symm
          subst hw_73
          refine k_nrm (y := (-1000002)) rfl ?_
          have hP9 : va_P D vwCl ((WW a K KS st hs sc)) H := k_subP (wp := []) (wp' := []) (T := (WW a K KS st hs sc)) hP [] rfl
          have hD9 : va_D A ((WW a K KS st hs sc)) := k_subD (wp := []) (wp' := []) (T := (WW a K KS st hs sc)) hD [] (by decide) rfl
          have hP9 : va_P D vwCl ((WW a K KS st hs sc)) H := hP9
          have hD9 : va_D A ((WW a K KS st hs sc)) := hD9
          have hK9 : va_K D vwCl [] s := hK.sub [] rfl
          exact W.iret (v := (-1000002)) hx hb hr (fun t ht9 hW9 => ⟨⟨(-1000002), (st, hs, sc), rfl, by (refine ⟨?_, Or.inr ⟨by decide, rfl, rfl⟩⟩; unfold actV; rw [hqe, if_neg (show ¬ nI q < (2 : Int32) from nI_nlt (b := 2) (by omega) (by omega)), if_neg (show ¬ nI q < (5 : Int32) from nI_nlt (b := 5) (by omega) (by omega)), if_neg (show ¬ nI q = (5 : Int32) from fun q9 => absurd ((nI_eq (b := 5) (by omega) (by decide)).mp q9) (by omega)), if_neg (show ¬ nI q = (6 : Int32) from fun q9 => absurd ((nI_eq (b := 6) (by omega) (by decide)).mp q9) (by omega)), if_neg (show ¬ nI q = (7 : Int32) from fun q9 => absurd ((nI_eq (b := 7) (by omega) (by decide)).mp q9) (by omega)), if_pos hmd]), ⟨by rw [ht9]; exact hP9, va_K.moved hW9.alike hK9, hD9⟩⟩, hS.F ht9⟩) hS.2.2 dL_act_192
      · have hc9 := c_67
        refine lv_iconst (v := 1) hx hb dL_act_184 (by decide) ?_
        refine lv_goto (tgt := 189) hx hb dL_act_185 (by decide) ?_
        rcases (show ¬ s_ns st = 0 ∨ s_ns st = 0 by omega) with hmd | hmd
        · skip
          have ct := k_cut_TT (wp := []) (T := (WW a K KS st hs sc)) (wc := []) (wr := []) (tc := [(K, .int), (KS, .object "BarcodeWand$State")]) hG hS hA hK hP hD [] [] [0, 1] rfl rfl (by decide) (by decide) (by decide) rfl
          refine k_endi (As := [.ref (a 0), .int (1 + lowF yy 20), .int (1 + (lowF (shrF yy 4) 20)), .int 1]) ct (k_runSW (As := [.ref (a 0), .int (1 + lowF yy 20), .int (1 + (lowF (shrF yy 4) 20)), .int 1]) (rest := []) S0 Ls_L_93 ct (c_L_draw l D a K KS st hs sc (1 + lowF yy 20) (1 + (lowF (shrF yy 4) 20)) 1 hii.1 hh (per_low _ _ (n := 20) (by decide) (by decide)) hmd H.size) hl.1 rfl (Nat.le_of_ble_eq_true rfl) rfl dL_act_189 ⟨⟨Nat.le_of_ble_eq_true rfl, Nat.le_of_ble_eq_true rfl⟩, Nat.le_of_ble_eq_true rfl, Nat.le_of_ble_eq_true rfl⟩) rfl rfl (fun r_74 u H locs hw_77 hP hD hK hS => ?_)
          obtain ⟨st1v_75, sc1v_76⟩ := u
          have hK : va_K D vwCl [(K, .int), (KS, .object "BarcodeWand$State")] s := hK
          have hP : va_P D vwCl ((WW a K KS st1v_75 (svH hs st) sc1v_76)) H := hP
          have hD : va_D A ((WW a K KS st1v_75 (svH hs st) sc1v_76)) := hD
          have hw_77 : RC (setT (s_ns st) (cpy (s_drw st (1 + lowF yy 20) (1 + (lowF (shrF yy 4) 20)) 1) (s_tf st) (s_ns st)) st) st1v_75 r_74 := hw_77
          have hP9 : va_P D vwCl ((WW a K KS st1v_75 (svH hs st) sc1v_76)) H := k_subP (wp := []) (wp' := []) (T := (WW a K KS st1v_75 (svH hs st) sc1v_76)) hP [] rfl
          have hD9 : va_D A ((WW a K KS st1v_75 (svH hs st) sc1v_76)) := k_subD (wp := []) (wp' := []) (T := (WW a K KS st1v_75 (svH hs st) sc1v_76)) hD [] (by decide) rfl
          have hP9 : va_P D vwCl ((WW a K KS st1v_75 (svH hs st) sc1v_76)) H := hP9
          have hD9 : va_D A ((WW a K KS st1v_75 (svH hs st) sc1v_76)) := hD9
          have hK9 : va_K D vwCl [] s := hK.sub [] rfl
          refine W.widen (k := 1) (n := 6) (by first | exact Nat.le_of_ble_eq_true rfl | omega) (by first | exact Nat.le_of_ble_eq_true rfl | omega) ?_
          exact W.iret (v := r_74) hx hb hr (fun t ht9 hW9 => ⟨⟨r_74, (st1v_75, (svH hs st), sc1v_76), rfl, by (refine ⟨(drw_out hii.1 hw_77).1.trans ?_, Or.inl ⟨?_, rfl, drw_inv hii hw_77⟩⟩; unfold actV; rw [hqe, if_neg (show ¬ nI q < (2 : Int32) from nI_nlt (b := 2) (by omega) (by omega)), if_neg (show ¬ nI q < (5 : Int32) from nI_nlt (b := 5) (by omega) (by omega)), if_neg (show ¬ nI q = (5 : Int32) from fun q9 => absurd ((nI_eq (b := 5) (by omega) (by decide)).mp q9) (by omega)), if_neg (show ¬ nI q = (6 : Int32) from fun q9 => absurd ((nI_eq (b := 6) (by omega) (by decide)).mp q9) (by omega)), if_neg (show ¬ nI q = (7 : Int32) from fun q9 => absurd ((nI_eq (b := 7) (by omega) (by decide)).mp q9) (by omega)), if_neg hmd, if_neg c_62, if_pos c_67]; rw [(drw_out hii.1 hw_77).1]; exact (res_in _ _ _).1), ⟨by rw [ht9]; exact hP9, va_K.moved hW9.alike hK9, hD9⟩⟩, hS.F ht9⟩) hS.2.2 dL_act_192
        · skip
          have ct := k_cut_TT (wp := []) (T := (WW a K KS st hs sc)) (wc := []) (wr := []) (tc := [(K, .int), (KS, .object "BarcodeWand$State")]) hG hS hA hK hP hD [] [] [0, 1] rfl rfl (by decide) (by decide) (by decide) rfl
          refine k_endi (As := [.ref (a 0), .int (1 + lowF yy 20), .int (1 + (lowF (shrF yy 4) 20)), .int 1]) ct (k_runSW (As := [.ref (a 0), .int (1 + lowF yy 20), .int (1 + (lowF (shrF yy 4) 20)), .int 1]) (rest := []) S0 Ls_L_93 ct (c_L_drawX l hst D a K KS st hs sc (1 + lowF yy 20) (1 + (lowF (shrF yy 4) 20)) 1 (per_low _ _ (n := 20) (by decide) (by decide)) hmd H.size) hl.1 rfl (Nat.le_of_ble_eq_true rfl) rfl dL_act_189 ⟨⟨Nat.le_of_ble_eq_true rfl, Nat.le_of_ble_eq_true rfl⟩, Nat.le_of_ble_eq_true rfl, Nat.le_of_ble_eq_true rfl⟩) rfl rfl (fun r_78 _ H locs hw_79 hP hD hK hS => ?_)
          have hK : va_K D vwCl [(K, .int), (KS, .object "BarcodeWand$State")] s := hK
          have hP : va_P D vwCl ((WW a K KS st hs sc)) H := hP
          have hD : va_D A ((WW a K KS st hs sc)) := hD
          have hw_79 : r_78 = (-1000002) := hw_79
          have hw_79 := hw_79.symm
          subst hw_79
          refine k_nrm (y := (-1000002)) rfl ?_
          have hP9 : va_P D vwCl ((WW a K KS st hs sc)) H := k_subP (wp := []) (wp' := []) (T := (WW a K KS st hs sc)) hP [] rfl
          have hD9 : va_D A ((WW a K KS st hs sc)) := k_subD (wp := []) (wp' := []) (T := (WW a K KS st hs sc)) hD [] (by decide) rfl
          have hP9 : va_P D vwCl ((WW a K KS st hs sc)) H := hP9
          have hD9 : va_D A ((WW a K KS st hs sc)) := hD9
          have hK9 : va_K D vwCl [] s := hK.sub [] rfl
          exact W.iret (v := (-1000002)) hx hb hr (fun t ht9 hW9 => ⟨⟨(-1000002), (st, hs, sc), rfl, by (refine ⟨?_, Or.inr ⟨by decide, rfl, rfl⟩⟩; unfold actV; rw [hqe, if_neg (show ¬ nI q < (2 : Int32) from nI_nlt (b := 2) (by omega) (by omega)), if_neg (show ¬ nI q < (5 : Int32) from nI_nlt (b := 5) (by omega) (by omega)), if_neg (show ¬ nI q = (5 : Int32) from fun q9 => absurd ((nI_eq (b := 5) (by omega) (by decide)).mp q9) (by omega)), if_neg (show ¬ nI q = (6 : Int32) from fun q9 => absurd ((nI_eq (b := 6) (by omega) (by decide)).mp q9) (by omega)), if_neg (show ¬ nI q = (7 : Int32) from fun q9 => absurd ((nI_eq (b := 7) (by omega) (by decide)).mp q9) (by omega)), if_pos hmd]), ⟨by rw [ht9]; exact hP9, va_K.moved hW9.alike hK9, hD9⟩⟩, hS.F ht9⟩) hS.2.2 dL_act_192
    · have hc9 := c_62
      refine lv_iload_n hx hb dL_act_161 rfl (lv_at hl 2 rfl) ?_
      refine lv_goto (tgt := 168) hx hb dL_act_162 (by decide) ?_
      refine lv_bipush (v := 20) hx hb dL_act_168 (by decide) ?_
      have ct := k_cut_T (wp := []) (T := (WW a K KS st hs sc)) (wc := []) (wr := []) (tc := []) hG hS hA hK hP hD [] [] [] rfl rfl (by decide) (by decide) (by decide) rfl
      refine k_endi (As := [.int yy, .int 20]) ct (k_runS (As := [.int yy, .int 20]) (rest := [.int 1, .int (1 + lowF yy 20), .ref (a 0)]) S0 Ls_L_72 ct (c_low l D yy 20 (by first | assumption | decide) H.size) hl.1 rfl (Nat.le_of_ble_eq_true rfl) rfl dL_act_170 ⟨⟨Nat.le_of_ble_eq_true rfl, Nat.le_of_ble_eq_true rfl⟩, Nat.le_of_ble_eq_true rfl, Nat.le_of_ble_eq_true rfl⟩) rfl rfl (fun r_80 _ H locs hw_81 hP hD hK hS => ?_)
      have hP : va_P D vwCl ((WW a K KS st hs sc)) H := k_swapP (a := []) (b := (WW a K KS st hs sc)) (c := []) hP
      have hD : va_D A ((WW a K KS st hs sc)) := va_D.swap (a := []) (b := (WW a K KS st hs sc)) (c := []) hD
      have hK : va_K D vwCl [(K, .int), (KS, .object "BarcodeWand$State")] s := hK
      have hP : va_P D vwCl ((WW a K KS st hs sc)) H := hP
      have hD : va_D A ((WW a K KS st hs sc)) := hD
      have hw_81 : r_80 = (lowF yy 20) := hw_81
      have hw_81 := hw_81.symm
      subst hw_81
      refine k_nrm (y := (lowF yy 20)) rfl ?_
      refine lv_iadd hx hb dL_act_173 ?_
      refine k_nrm (y := (1 + (lowF yy 20))) (rfl) ?_
      refine lv_iload_n hx hb dL_act_174 rfl (lv_at hl 1 rfl) ?_
      refine lv_iconst (v := 5) hx hb dL_act_175 (by decide) ?_
      refine lv_ishr hx hb dL_act_176 ?_
      refine k_nrm (y := (shrF xx 5)) rfl ?_
      refine lv_iconst (v := 2) hx hb dL_act_177 (by decide) ?_
      have ct := k_cut_T (wp := []) (T := (WW a K KS st hs sc)) (wc := []) (wr := []) (tc := []) hG hS hA hK hP hD [] [] [] rfl rfl (by decide) (by decide) (by decide) rfl
      refine k_endi (As := [.int (shrF xx 5), .int 2]) ct (k_runS (As := [.int (shrF xx 5), .int 2]) (rest := [.int (1 + (lowF yy 20)), .int (1 + lowF yy 20), .ref (a 0)]) S0 Ls_L_72 ct (c_low l D (shrF xx 5) 2 (by first | assumption | decide) H.size) hl.1 rfl (Nat.le_of_ble_eq_true rfl) rfl dL_act_178 ⟨⟨Nat.le_of_ble_eq_true rfl, Nat.le_of_ble_eq_true rfl⟩, Nat.le_of_ble_eq_true rfl, Nat.le_of_ble_eq_true rfl⟩) rfl rfl (fun r_82 _ H locs hw_83 hP hD hK hS => ?_)
      have hP : va_P D vwCl ((WW a K KS st hs sc)) H := k_swapP (a := []) (b := (WW a K KS st hs sc)) (c := []) hP
      have hD : va_D A ((WW a K KS st hs sc)) := va_D.swap (a := []) (b := (WW a K KS st hs sc)) (c := []) hD
      have hK : va_K D vwCl [(K, .int), (KS, .object "BarcodeWand$State")] s := hK
      have hP : va_P D vwCl ((WW a K KS st hs sc)) H := hP
      have hD : va_D A ((WW a K KS st hs sc)) := hD
      have hw_83 : r_82 = (lowF (shrF xx 5) 2) := hw_83
      have hw_83 := hw_83.symm
      subst hw_83
      refine k_nrm (y := (lowF (shrF xx 5) 2)) rfl ?_
      refine lv_if_ne (tgt := 188) hx hb dL_act_181 (by decide) (fun c_84 => ?_) (fun c_84 => ?_)
      · have hc9 := c_84
        refine lv_iconst (v := 0) hx hb dL_act_188 (by decide) ?_
        rcases (show ¬ s_ns st = 0 ∨ s_ns st = 0 by omega) with hmd | hmd
        · skip
          have ct := k_cut_TT (wp := []) (T := (WW a K KS st hs sc)) (wc := []) (wr := []) (tc := [(K, .int), (KS, .object "BarcodeWand$State")]) hG hS hA hK hP hD [] [] [0, 1] rfl rfl (by decide) (by decide) (by decide) rfl
          refine k_endi (As := [.ref (a 0), .int (1 + lowF yy 20), .int (1 + (lowF yy 20)), .int 0]) ct (k_runSW (As := [.ref (a 0), .int (1 + lowF yy 20), .int (1 + (lowF yy 20)), .int 0]) (rest := []) S0 Ls_L_93 ct (c_L_draw l D a K KS st hs sc (1 + lowF yy 20) (1 + (lowF yy 20)) 0 hii.1 hh (per_low _ _ (n := 20) (by decide) (by decide)) hmd H.size) hl.1 rfl (Nat.le_of_ble_eq_true rfl) rfl dL_act_189 ⟨⟨Nat.le_of_ble_eq_true rfl, Nat.le_of_ble_eq_true rfl⟩, Nat.le_of_ble_eq_true rfl, Nat.le_of_ble_eq_true rfl⟩) rfl rfl (fun r_85 u H locs hw_88 hP hD hK hS => ?_)
          obtain ⟨st1v_86, sc1v_87⟩ := u
          have hK : va_K D vwCl [(K, .int), (KS, .object "BarcodeWand$State")] s := hK
          have hP : va_P D vwCl ((WW a K KS st1v_86 (svH hs st) sc1v_87)) H := hP
          have hD : va_D A ((WW a K KS st1v_86 (svH hs st) sc1v_87)) := hD
          have hw_88 : RC (setT (s_ns st) (cpy (s_drw st (1 + lowF yy 20) (1 + (lowF yy 20)) 0) (s_tf st) (s_ns st)) st) st1v_86 r_85 := hw_88
          have hP9 : va_P D vwCl ((WW a K KS st1v_86 (svH hs st) sc1v_87)) H := k_subP (wp := []) (wp' := []) (T := (WW a K KS st1v_86 (svH hs st) sc1v_87)) hP [] rfl
          have hD9 : va_D A ((WW a K KS st1v_86 (svH hs st) sc1v_87)) := k_subD (wp := []) (wp' := []) (T := (WW a K KS st1v_86 (svH hs st) sc1v_87)) hD [] (by decide) rfl
          have hP9 : va_P D vwCl ((WW a K KS st1v_86 (svH hs st) sc1v_87)) H := hP9
          have hD9 : va_D A ((WW a K KS st1v_86 (svH hs st) sc1v_87)) := hD9
          have hK9 : va_K D vwCl [] s := hK.sub [] rfl
          refine W.widen (k := 1) (n := 6) (by first | exact Nat.le_of_ble_eq_true rfl | omega) (by first | exact Nat.le_of_ble_eq_true rfl | omega) ?_
          exact W.iret (v := r_85) hx hb hr (fun t ht9 hW9 => ⟨⟨r_85, (st1v_86, (svH hs st), sc1v_87), rfl, by (refine ⟨(drw_out hii.1 hw_88).1.trans ?_, Or.inl ⟨?_, rfl, drw_inv hii hw_88⟩⟩; unfold actV; rw [hqe, if_neg (show ¬ nI q < (2 : Int32) from nI_nlt (b := 2) (by omega) (by omega)), if_neg (show ¬ nI q < (5 : Int32) from nI_nlt (b := 5) (by omega) (by omega)), if_neg (show ¬ nI q = (5 : Int32) from fun q9 => absurd ((nI_eq (b := 5) (by omega) (by decide)).mp q9) (by omega)), if_neg (show ¬ nI q = (6 : Int32) from fun q9 => absurd ((nI_eq (b := 6) (by omega) (by decide)).mp q9) (by omega)), if_neg (show ¬ nI q = (7 : Int32) from fun q9 => absurd ((nI_eq (b := 7) (by omega) (by decide)).mp q9) (by omega)), if_neg hmd, if_pos c_62, if_neg c_84]; rw [(drw_out hii.1 hw_88).1]; exact (res_in _ _ _).1), ⟨by rw [ht9]; exact hP9, va_K.moved hW9.alike hK9, hD9⟩⟩, hS.F ht9⟩) hS.2.2 dL_act_192
        · skip
          have ct := k_cut_TT (wp := []) (T := (WW a K KS st hs sc)) (wc := []) (wr := []) (tc := [(K, .int), (KS, .object "BarcodeWand$State")]) hG hS hA hK hP hD [] [] [0, 1] rfl rfl (by decide) (by decide) (by decide) rfl
          refine k_endi (As := [.ref (a 0), .int (1 + lowF yy 20), .int (1 + (lowF yy 20)), .int 0]) ct (k_runSW (As := [.ref (a 0), .int (1 + lowF yy 20), .int (1 + (lowF yy 20)), .int 0]) (rest := []) S0 Ls_L_93 ct (c_L_drawX l hst D a K KS st hs sc (1 + lowF yy 20) (1 + (lowF yy 20)) 0 (per_low _ _ (n := 20) (by decide) (by decide)) hmd H.size) hl.1 rfl (Nat.le_of_ble_eq_true rfl) rfl dL_act_189 ⟨⟨Nat.le_of_ble_eq_true rfl, Nat.le_of_ble_eq_true rfl⟩, Nat.le_of_ble_eq_true rfl, Nat.le_of_ble_eq_true rfl⟩) rfl rfl (fun r_89 _ H locs hw_90 hP hD hK hS => ?_)
          have hK : va_K D vwCl [(K, .int), (KS, .object "BarcodeWand$State")] s := hK
          have hP : va_P D vwCl ((WW a K KS st hs sc)) H := hP
          have hD : va_D A ((WW a K KS st hs sc)) := hD
          have hw_90 : r_89 = (-1000002) := hw_90
          have hw_90 := hw_90.symm
          subst hw_90
          refine k_nrm (y := (-1000002)) rfl ?_
          have hP9 : va_P D vwCl ((WW a K KS st hs sc)) H := k_subP (wp := []) (wp' := []) (T := (WW a K KS st hs sc)) hP [] rfl
          have hD9 : va_D A ((WW a K KS st hs sc)) := k_subD (wp := []) (wp' := []) (T := (WW a K KS st hs sc)) hD [] (by decide) rfl
          have hP9 : va_P D vwCl ((WW a K KS st hs sc)) H := hP9
          have hD9 : va_D A ((WW a K KS st hs sc)) := hD9
          have hK9 : va_K D vwCl [] s := hK.sub [] rfl
          exact W.iret (v := (-1000002)) hx hb hr (fun t ht9 hW9 => ⟨⟨(-1000002), (st, hs, sc), rfl, by (refine ⟨?_, Or.inr ⟨by decide, rfl, rfl⟩⟩; unfold actV; rw [hqe, if_neg (show ¬ nI q < (2 : Int32) from nI_nlt (b := 2) (by omega) (by omega)), if_neg (show ¬ nI q < (5 : Int32) from nI_nlt (b := 5) (by omega) (by omega)), if_neg (show ¬ nI q = (5 : Int32) from fun q9 => absurd ((nI_eq (b := 5) (by omega) (by decide)).mp q9) (by omega)), if_neg (show ¬ nI q = (6 : Int32) from fun q9 => absurd ((nI_eq (b := 6) (by omega) (by decide)).mp q9) (by omega)), if_neg (show ¬ nI q = (7 : Int32) from fun q9 => absurd ((nI_eq (b := 7) (by omega) (by decide)).mp q9) (by omega)), if_pos hmd]), ⟨by rw [ht9]; exact hP9, va_K.moved hW9.alike hK9, hD9⟩⟩, hS.F ht9⟩) hS.2.2 dL_act_192
      · have hc9 := c_84
        refine lv_iconst (v := 1) hx hb dL_act_184 (by decide) ?_
        refine lv_goto (tgt := 189) hx hb dL_act_185 (by decide) ?_
        rcases (show ¬ s_ns st = 0 ∨ s_ns st = 0 by omega) with hmd | hmd
        · skip
          have ct := k_cut_TT (wp := []) (T := (WW a K KS st hs sc)) (wc := []) (wr := []) (tc := [(K, .int), (KS, .object "BarcodeWand$State")]) hG hS hA hK hP hD [] [] [0, 1] rfl rfl (by decide) (by decide) (by decide) rfl
          refine k_endi (As := [.ref (a 0), .int (1 + lowF yy 20), .int (1 + (lowF yy 20)), .int 1]) ct (k_runSW (As := [.ref (a 0), .int (1 + lowF yy 20), .int (1 + (lowF yy 20)), .int 1]) (rest := []) S0 Ls_L_93 ct (c_L_draw l D a K KS st hs sc (1 + lowF yy 20) (1 + (lowF yy 20)) 1 hii.1 hh (per_low _ _ (n := 20) (by decide) (by decide)) hmd H.size) hl.1 rfl (Nat.le_of_ble_eq_true rfl) rfl dL_act_189 ⟨⟨Nat.le_of_ble_eq_true rfl, Nat.le_of_ble_eq_true rfl⟩, Nat.le_of_ble_eq_true rfl, Nat.le_of_ble_eq_true rfl⟩) rfl rfl (fun r_91 u H locs hw_94 hP hD hK hS => ?_)
          obtain ⟨st1v_92, sc1v_93⟩ := u
          have hK : va_K D vwCl [(K, .int), (KS, .object "BarcodeWand$State")] s := hK
          have hP : va_P D vwCl ((WW a K KS st1v_92 (svH hs st) sc1v_93)) H := hP
          have hD : va_D A ((WW a K KS st1v_92 (svH hs st) sc1v_93)) := hD
          have hw_94 : RC (setT (s_ns st) (cpy (s_drw st (1 + lowF yy 20) (1 + (lowF yy 20)) 1) (s_tf st) (s_ns st)) st) st1v_92 r_91 := hw_94
          have hP9 : va_P D vwCl ((WW a K KS st1v_92 (svH hs st) sc1v_93)) H := k_subP (wp := []) (wp' := []) (T := (WW a K KS st1v_92 (svH hs st) sc1v_93)) hP [] rfl
          have hD9 : va_D A ((WW a K KS st1v_92 (svH hs st) sc1v_93)) := k_subD (wp := []) (wp' := []) (T := (WW a K KS st1v_92 (svH hs st) sc1v_93)) hD [] (by decide) rfl
          have hP9 : va_P D vwCl ((WW a K KS st1v_92 (svH hs st) sc1v_93)) H := hP9
          have hD9 : va_D A ((WW a K KS st1v_92 (svH hs st) sc1v_93)) := hD9
          have hK9 : va_K D vwCl [] s := hK.sub [] rfl
          refine W.widen (k := 1) (n := 6) (by first | exact Nat.le_of_ble_eq_true rfl | omega) (by first | exact Nat.le_of_ble_eq_true rfl | omega) ?_
          exact W.iret (v := r_91) hx hb hr (fun t ht9 hW9 => ⟨⟨r_91, (st1v_92, (svH hs st), sc1v_93), rfl, by (refine ⟨(drw_out hii.1 hw_94).1.trans ?_, Or.inl ⟨?_, rfl, drw_inv hii hw_94⟩⟩; unfold actV; rw [hqe, if_neg (show ¬ nI q < (2 : Int32) from nI_nlt (b := 2) (by omega) (by omega)), if_neg (show ¬ nI q < (5 : Int32) from nI_nlt (b := 5) (by omega) (by omega)), if_neg (show ¬ nI q = (5 : Int32) from fun q9 => absurd ((nI_eq (b := 5) (by omega) (by decide)).mp q9) (by omega)), if_neg (show ¬ nI q = (6 : Int32) from fun q9 => absurd ((nI_eq (b := 6) (by omega) (by decide)).mp q9) (by omega)), if_neg (show ¬ nI q = (7 : Int32) from fun q9 => absurd ((nI_eq (b := 7) (by omega) (by decide)).mp q9) (by omega)), if_neg hmd, if_pos c_62, if_pos c_84]; rw [(drw_out hii.1 hw_94).1]; exact (res_in _ _ _).1), ⟨by rw [ht9]; exact hP9, va_K.moved hW9.alike hK9, hD9⟩⟩, hS.F ht9⟩) hS.2.2 dL_act_192
        · skip
          have ct := k_cut_TT (wp := []) (T := (WW a K KS st hs sc)) (wc := []) (wr := []) (tc := [(K, .int), (KS, .object "BarcodeWand$State")]) hG hS hA hK hP hD [] [] [0, 1] rfl rfl (by decide) (by decide) (by decide) rfl
          refine k_endi (As := [.ref (a 0), .int (1 + lowF yy 20), .int (1 + (lowF yy 20)), .int 1]) ct (k_runSW (As := [.ref (a 0), .int (1 + lowF yy 20), .int (1 + (lowF yy 20)), .int 1]) (rest := []) S0 Ls_L_93 ct (c_L_drawX l hst D a K KS st hs sc (1 + lowF yy 20) (1 + (lowF yy 20)) 1 (per_low _ _ (n := 20) (by decide) (by decide)) hmd H.size) hl.1 rfl (Nat.le_of_ble_eq_true rfl) rfl dL_act_189 ⟨⟨Nat.le_of_ble_eq_true rfl, Nat.le_of_ble_eq_true rfl⟩, Nat.le_of_ble_eq_true rfl, Nat.le_of_ble_eq_true rfl⟩) rfl rfl (fun r_95 _ H locs hw_96 hP hD hK hS => ?_)
          have hK : va_K D vwCl [(K, .int), (KS, .object "BarcodeWand$State")] s := hK
          have hP : va_P D vwCl ((WW a K KS st hs sc)) H := hP
          have hD : va_D A ((WW a K KS st hs sc)) := hD
          have hw_96 : r_95 = (-1000002) := hw_96
          have hw_96 := hw_96.symm
          subst hw_96
          refine k_nrm (y := (-1000002)) rfl ?_
          have hP9 : va_P D vwCl ((WW a K KS st hs sc)) H := k_subP (wp := []) (wp' := []) (T := (WW a K KS st hs sc)) hP [] rfl
          have hD9 : va_D A ((WW a K KS st hs sc)) := k_subD (wp := []) (wp' := []) (T := (WW a K KS st hs sc)) hD [] (by decide) rfl
          have hP9 : va_P D vwCl ((WW a K KS st hs sc)) H := hP9
          have hD9 : va_D A ((WW a K KS st hs sc)) := hD9
          have hK9 : va_K D vwCl [] s := hK.sub [] rfl
          exact W.iret (v := (-1000002)) hx hb hr (fun t ht9 hW9 => ⟨⟨(-1000002), (st, hs, sc), rfl, by (refine ⟨?_, Or.inr ⟨by decide, rfl, rfl⟩⟩; unfold actV; rw [hqe, if_neg (show ¬ nI q < (2 : Int32) from nI_nlt (b := 2) (by omega) (by omega)), if_neg (show ¬ nI q < (5 : Int32) from nI_nlt (b := 5) (by omega) (by omega)), if_neg (show ¬ nI q = (5 : Int32) from fun q9 => absurd ((nI_eq (b := 5) (by omega) (by decide)).mp q9) (by omega)), if_neg (show ¬ nI q = (6 : Int32) from fun q9 => absurd ((nI_eq (b := 6) (by omega) (by decide)).mp q9) (by omega)), if_neg (show ¬ nI q = (7 : Int32) from fun q9 => absurd ((nI_eq (b := 7) (by omega) (by decide)).mp q9) (by omega)), if_pos hmd]), ⟨by rw [ht9]; exact hP9, va_K.moved hW9.alike hK9, hD9⟩⟩, hS.F ht9⟩) hS.2.2 dL_act_192
