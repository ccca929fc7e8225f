set_option maxRecDepth 20000 in
theorem lx_L_142 : Cond.constantLong RL 142 31 ∈ wsA := mA 671 rfl rfl
set_option maxRecDepth 20000 in
theorem lk_X7_successes : Cond.code yX7_successes cX7_successes 1 (some .int) ∈ wsA := mA 667 rfl rfl
theorem ly_X7_successes : k_y yX7_successes 0 := ⟨by decide +kernel, by decide +kernel, by decide +kernel⟩
set_option maxRecDepth 20000 in
theorem lm_X7_successes : Cond.instanceMethod yX7_successes ∈ wsA := mA 665 rfl rfl
set_option maxRecDepth 20000 in
theorem le_X7_successes : Cond.selects (yX7_successes).cls yX7_successes yX7_successes ∈ wsA := mA 666 rfl rfl
set_option maxRecDepth 20000 in
theorem Lv_L_129 : k_LV RL 129 yX7_successes cX7_successes 1 (some .int) 0 := ⟨mA 664 rfl rfl, lm_X7_successes, le_X7_successes, li_BarcodeWand, lk_X7_successes, ly_X7_successes⟩
set_option maxRecDepth 20000 in
theorem lk_X7_failures : Cond.code yX7_failures cX7_failures 1 (some .int) ∈ wsA := mA 675 rfl rfl
theorem ly_X7_failures : k_y yX7_failures 0 := ⟨by decide +kernel, by decide +kernel, by decide +kernel⟩
set_option maxRecDepth 20000 in
theorem lm_X7_failures : Cond.instanceMethod yX7_failures ∈ wsA := mA 673 rfl rfl
set_option maxRecDepth 20000 in
theorem le_X7_failures : Cond.selects (yX7_failures).cls yX7_failures yX7_failures ∈ wsA := mA 674 rfl rfl
set_option maxRecDepth 20000 in
theorem Lv_L_144 : k_LV RL 144 yX7_failures cX7_failures 1 (some .int) 0 := ⟨mA 672 rfl rfl, lm_X7_failures, le_X7_failures, li_BarcodeWand, lk_X7_failures, ly_X7_failures⟩
set_option maxRecDepth 20000 in
theorem lk_X7_elements : Cond.code yX7_elements cX7_elements 1 (some .int) ∈ wsA := mA 577 rfl rfl
theorem ly_X7_elements : k_y yX7_elements 0 := ⟨by decide +kernel, by decide +kernel, by decide +kernel⟩
set_option maxRecDepth 20000 in
theorem lm_X7_elements : Cond.instanceMethod yX7_elements ∈ wsA := mA 575 rfl rfl
set_option maxRecDepth 20000 in
theorem le_X7_elements : Cond.selects (yX7_elements).cls yX7_elements yX7_elements ∈ wsA := mA 576 rfl rfl
set_option maxRecDepth 20000 in
theorem Lv_L_96 : k_LV RL 96 yX7_elements cX7_elements 1 (some .int) 0 := ⟨mA 574 rfl rfl, lm_X7_elements, le_X7_elements, li_BarcodeWand, lk_X7_elements, ly_X7_elements⟩
set_option maxRecDepth 20000 in
theorem lk_X7_leastTolerance : Cond.code yX7_leastTolerance cX7_leastTolerance 2 (some .int) ∈ wsA := mA 609 rfl rfl
theorem ly_X7_leastTolerance : k_y yX7_leastTolerance 0 := ⟨by decide +kernel, by decide +kernel, by decide +kernel⟩
set_option maxRecDepth 20000 in
theorem lm_X7_leastTolerance : Cond.instanceMethod yX7_leastTolerance ∈ wsA := mA 607 rfl rfl
set_option maxRecDepth 20000 in
theorem le_X7_leastTolerance : Cond.selects (yX7_leastTolerance).cls yX7_leastTolerance yX7_leastTolerance ∈ wsA := mA 608 rfl rfl
set_option maxRecDepth 20000 in
theorem Lv_L_110 : k_LV RL 110 yX7_leastTolerance cX7_leastTolerance 2 (some .int) 0 := ⟨mA 606 rfl rfl, lm_X7_leastTolerance, le_X7_leastTolerance, li_BarcodeWand, lk_X7_leastTolerance, ly_X7_leastTolerance⟩
set_option maxRecDepth 20000 in
theorem lk_X7_times : Cond.code yX7_times cX7_times 1 (some .int) ∈ wsA := mA 613 rfl rfl
theorem ly_X7_times : k_y yX7_times 0 := ⟨by decide +kernel, by decide +kernel, by decide +kernel⟩
set_option maxRecDepth 20000 in
theorem lm_X7_times : Cond.instanceMethod yX7_times ∈ wsA := mA 611 rfl rfl
set_option maxRecDepth 20000 in
theorem le_X7_times : Cond.selects (yX7_times).cls yX7_times yX7_times ∈ wsA := mA 612 rfl rfl
set_option maxRecDepth 20000 in
theorem Lv_L_113 : k_LV RL 113 yX7_times cX7_times 1 (some .int) 0 := ⟨mA 610 rfl rfl, lm_X7_times, le_X7_times, li_BarcodeWand, lk_X7_times, ly_X7_times⟩
set_option maxRecDepth 20000 in
theorem lk_X7_codes : Cond.code yX7_codes cX7_codes 1 (some .int) ∈ wsA := mA 637 rfl rfl
theorem ly_X7_codes : k_y yX7_codes 0 := ⟨by decide +kernel, by decide +kernel, by decide +kernel⟩
set_option maxRecDepth 20000 in
theorem lm_X7_codes : Cond.instanceMethod yX7_codes ∈ wsA := mA 635 rfl rfl
set_option maxRecDepth 20000 in
theorem le_X7_codes : Cond.selects (yX7_codes).cls yX7_codes yX7_codes ∈ wsA := mA 636 rfl rfl
set_option maxRecDepth 20000 in
theorem Lv_L_120 : k_LV RL 120 yX7_codes cX7_codes 1 (some .int) 0 := ⟨mA 634 rfl rfl, lm_X7_codes, le_X7_codes, li_BarcodeWand, lk_X7_codes, ly_X7_codes⟩
set_option maxRecDepth 20000 in
theorem lk_X7_result : Cond.code yX7_result cX7_result 1 (some .int) ∈ wsA := mA 600 rfl rfl
theorem ly_X7_result : k_y yX7_result 0 := ⟨by decide +kernel, by decide +kernel, by decide +kernel⟩
set_option maxRecDepth 20000 in
theorem lm_X7_result : Cond.instanceMethod yX7_result ∈ wsA := mA 598 rfl rfl
set_option maxRecDepth 20000 in
theorem le_X7_result : Cond.selects (yX7_result).cls yX7_result yX7_result ∈ wsA := mA 599 rfl rfl
set_option maxRecDepth 20000 in
theorem Lv_L_103 : k_LV RL 103 yX7_result cX7_result 1 (some .int) 0 := ⟨mA 597 rfl rfl, lm_X7_result, le_X7_result, li_BarcodeWand, lk_X7_result, ly_X7_result⟩
theorem li_BarcodeWandLaw : Cond.initialized "BarcodeWandLaw" ∈ wsA := mA 0 rfl rfl
theorem ly_L_ifDrawn : k_y yL_ifDrawn 4 := ⟨by decide +kernel, by decide +kernel, by decide +kernel⟩
set_option maxRecDepth 20000 in
theorem ls_L_ifDrawn : Cond.static yL_ifDrawn ∈ wsA := mA 686 rfl rfl
set_option maxRecDepth 20000 in
theorem Ls_L_151 : k_LW RL 151 yL_ifDrawn cL_ifDrawn 5 (some .int) [(0, 7, 8, 16), (0, 7, 13, 36)] 4 := ⟨mA 685 rfl rfl, ls_L_ifDrawn, li_BarcodeWandLaw, mA 687 rfl rfl, ly_L_ifDrawn⟩
theorem ly_L_code : k_y yL_code 2 := ⟨by decide +kernel, by decide +kernel, by decide +kernel⟩
set_option maxRecDepth 20000 in
theorem ls_L_code : Cond.static yL_code ∈ wsA := mA 651 rfl rfl
set_option maxRecDepth 20000 in
theorem Ls_L_125 : k_LW RL 125 yL_code cL_code 3 (some .int) [(0, 5, 6, 22)] 2 := ⟨mA 650 rfl rfl, ls_L_code, li_BarcodeWandLaw, mA 652 rfl rfl, ly_L_code⟩
set_option maxRecDepth 20000 in
theorem lx_L_149 : Cond.constantLong RL 149 50 ∈ wsA := mA 684 rfl rfl
theorem ly_L_codeLength : k_y yL_codeLength 2 := ⟨by decide +kernel, by decide +kernel, by decide +kernel⟩
set_option maxRecDepth 20000 in
theorem ls_L_codeLength : Cond.static yL_codeLength ∈ wsA := mA 639 rfl rfl
set_option maxRecDepth 20000 in
theorem Ls_L_123 : k_LW RL 123 yL_codeLength cL_codeLength 3 (some .int) [(0, 5, 6, 22)] 2 := ⟨mA 638 rfl rfl, ls_L_codeLength, li_BarcodeWandLaw, mA 640 rfl rfl, ly_L_codeLength⟩
theorem ly_L_count : k_y yL_count 2 := ⟨by decide +kernel, by decide +kernel, by decide +kernel⟩
set_option maxRecDepth 20000 in
theorem ls_L_count : Cond.static yL_count ∈ wsA := mA 658 rfl rfl
set_option maxRecDepth 20000 in
theorem Ls_L_127 : k_LW RL 127 yL_count cL_count 3 (some .int) [(0, 5, 6, 22)] 2 := ⟨mA 657 rfl rfl, ls_L_count, li_BarcodeWandLaw, mA 659 rfl rfl, ly_L_count⟩
theorem ly_L_time : k_y yL_time 2 := ⟨by decide +kernel, by decide +kernel, by decide +kernel⟩
set_option maxRecDepth 20000 in
theorem ls_L_time : Cond.static yL_time ∈ wsA := mA 677 rfl rfl
set_option maxRecDepth 20000 in
theorem Ls_L_147 : k_LW RL 147 yL_time cL_time 3 (some .int) [(0, 5, 6, 22)] 2 := ⟨mA 676 rfl rfl, ls_L_time, li_BarcodeWandLaw, mA 678 rfl rfl, ly_L_time⟩
theorem ly_L_width : k_y yL_width 2 := ⟨by decide +kernel, by decide +kernel, by decide +kernel⟩
set_option maxRecDepth 20000 in
theorem ls_L_width : Cond.static yL_width ∈ wsA := mA 587 rfl rfl
set_option maxRecDepth 20000 in
theorem Ls_L_101 : k_LW RL 101 yL_width cL_width 3 (some .int) [(0, 5, 6, 22)] 2 := ⟨mA 586 rfl rfl, ls_L_width, li_BarcodeWandLaw, mA 588 rfl rfl, ly_L_width⟩
theorem ly_L_labelDigit : k_y yL_labelDigit 2 := ⟨by decide +kernel, by decide +kernel, by decide +kernel⟩
set_option maxRecDepth 20000 in
theorem ls_L_labelDigit : Cond.static yL_labelDigit ∈ wsA := mA 579 rfl rfl
set_option maxRecDepth 20000 in
theorem Ls_L_99 : k_LW RL 99 yL_labelDigit cL_labelDigit 3 (some .int) [(0, 5, 6, 22)] 2 := ⟨mA 578 rfl rfl, ls_L_labelDigit, li_BarcodeWandLaw, mA 580 rfl rfl, ly_L_labelDigit⟩
theorem dL_print0_0 : decode cL_print0 0 = .ok (.ldc2_w 142, 3) := by decide +kernel
theorem dL_print0_3 : decode cL_print0 3 = .ok (.aload_n 0, 1) := by decide +kernel
theorem dL_print0_4 : decode cL_print0 4 = .ok (.invokevirtual 129, 3) := by decide +kernel
theorem dL_print0_7 : decode cL_print0 7 = .ok (.i2l, 1) := by decide +kernel
theorem dL_print0_8 : decode cL_print0 8 = .ok (.lmul, 1) := by decide +kernel
theorem dL_print0_9 : decode cL_print0 9 = .ok (.aload_n 0, 1) := by decide +kernel
theorem dL_print0_10 : decode cL_print0 10 = .ok (.invokevirtual 144, 3) := by decide +kernel
theorem dL_print0_13 : decode cL_print0 13 = .ok (.i2l, 1) := by decide +kernel
theorem dL_print0_14 : decode cL_print0 14 = .ok (.ladd, 1) := by decide +kernel
theorem dL_print0_15 : decode cL_print0 15 = .ok (.lstore_n 1, 1) := by decide +kernel
theorem dL_print0_16 : decode cL_print0 16 = .ok (.iconst 0, 1) := by decide +kernel
theorem dL_print0_17 : decode cL_print0 17 = .ok (.istore_n 3, 1) := by decide +kernel
theorem dL_print0_18 : decode cL_print0 18 = .ok (.iload_n 3, 1) := by decide +kernel
theorem dL_print0_19 : decode cL_print0 19 = .ok (.aload_n 0, 1) := by decide +kernel
theorem dL_print0_20 : decode cL_print0 20 = .ok (.invokevirtual 96, 3) := by decide +kernel
theorem dL_print0_23 : decode cL_print0 23 = .ok (.if_icmp .ge 22, 3) := by decide +kernel
theorem dL_print0_26 : decode cL_print0 26 = .ok (.ldc2_w 142, 3) := by decide +kernel
theorem dL_print0_29 : decode cL_print0 29 = .ok (.lload_n 1, 1) := by decide +kernel
theorem dL_print0_30 : decode cL_print0 30 = .ok (.lmul, 1) := by decide +kernel
theorem dL_print0_31 : decode cL_print0 31 = .ok (.aload_n 0, 1) := by decide +kernel
theorem dL_print0_32 : decode cL_print0 32 = .ok (.iload_n 3, 1) := by decide +kernel
theorem dL_print0_33 : decode cL_print0 33 = .ok (.invokestatic 101, 3) := by decide +kernel
theorem dL_print0_36 : decode cL_print0 36 = .ok (.i2l, 1) := by decide +kernel
theorem dL_print0_37 : decode cL_print0 37 = .ok (.ladd, 1) := by decide +kernel
theorem dL_print0_38 : decode cL_print0 38 = .ok (.lstore_n 1, 1) := by decide +kernel
theorem dL_print0_39 : decode cL_print0 39 = .ok (.iinc 3 1, 3) := by decide +kernel
theorem dL_print0_42 : decode cL_print0 42 = .ok (.goto (-24), 3) := by decide +kernel
theorem dL_print0_45 : decode cL_print0 45 = .ok (.ldc2_w 142, 3) := by decide +kernel
theorem dL_print0_48 : decode cL_print0 48 = .ok (.lload_n 1, 1) := by decide +kernel
theorem dL_print0_49 : decode cL_print0 49 = .ok (.lmul, 1) := by decide +kernel
theorem dL_print0_50 : decode cL_print0 50 = .ok (.aload_n 0, 1) := by decide +kernel
theorem dL_print0_51 : decode cL_print0 51 = .ok (.invokevirtual 110, 3) := by decide +kernel
theorem dL_print0_54 : decode cL_print0 54 = .ok (.i2l, 1) := by decide +kernel
theorem dL_print0_55 : decode cL_print0 55 = .ok (.ladd, 1) := by decide +kernel
theorem dL_print0_56 : decode cL_print0 56 = .ok (.lstore_n 1, 1) := by decide +kernel
theorem dL_print0_57 : decode cL_print0 57 = .ok (.iconst 0, 1) := by decide +kernel
theorem dL_print0_58 : decode cL_print0 58 = .ok (.istore_n 3, 1) := by decide +kernel
theorem dL_print0_59 : decode cL_print0 59 = .ok (.iload_n 3, 1) := by decide +kernel
theorem dL_print0_60 : decode cL_print0 60 = .ok (.aload_n 0, 1) := by decide +kernel
theorem dL_print0_61 : decode cL_print0 61 = .ok (.invokevirtual 113, 3) := by decide +kernel
theorem dL_print0_64 : decode cL_print0 64 = .ok (.if_icmp .ge 22, 3) := by decide +kernel
theorem dL_print0_67 : decode cL_print0 67 = .ok (.ldc2_w 142, 3) := by decide +kernel
theorem dL_print0_70 : decode cL_print0 70 = .ok (.lload_n 1, 1) := by decide +kernel
theorem dL_print0_71 : decode cL_print0 71 = .ok (.lmul, 1) := by decide +kernel
theorem dL_print0_72 : decode cL_print0 72 = .ok (.aload_n 0, 1) := by decide +kernel
theorem dL_print0_73 : decode cL_print0 73 = .ok (.iload_n 3, 1) := by decide +kernel
theorem dL_print0_74 : decode cL_print0 74 = .ok (.invokestatic 147, 3) := by decide +kernel
theorem dL_print0_77 : decode cL_print0 77 = .ok (.i2l, 1) := by decide +kernel
theorem dL_print0_78 : decode cL_print0 78 = .ok (.ladd, 1) := by decide +kernel
theorem dL_print0_79 : decode cL_print0 79 = .ok (.lstore_n 1, 1) := by decide +kernel
theorem dL_print0_80 : decode cL_print0 80 = .ok (.iinc 3 1, 3) := by decide +kernel
theorem dL_print0_83 : decode cL_print0 83 = .ok (.goto (-24), 3) := by decide +kernel
theorem dL_print0_86 : decode cL_print0 86 = .ok (.iconst 0, 1) := by decide +kernel
theorem dL_print0_87 : decode cL_print0 87 = .ok (.istore_n 3, 1) := by decide +kernel
theorem dL_print0_88 : decode cL_print0 88 = .ok (.iload_n 3, 1) := by decide +kernel
theorem dL_print0_89 : decode cL_print0 89 = .ok (.aload_n 0, 1) := by decide +kernel
theorem dL_print0_90 : decode cL_print0 90 = .ok (.invokevirtual 120, 3) := by decide +kernel
theorem dL_print0_93 : decode cL_print0 93 = .ok (.if_icmp .ge 46, 3) := by decide +kernel
theorem dL_print0_96 : decode cL_print0 96 = .ok (.ldc2_w 142, 3) := by decide +kernel
theorem dL_print0_99 : decode cL_print0 99 = .ok (.lload_n 1, 1) := by decide +kernel
theorem dL_print0_100 : decode cL_print0 100 = .ok (.lmul, 1) := by decide +kernel
theorem dL_print0_101 : decode cL_print0 101 = .ok (.aload_n 0, 1) := by decide +kernel
theorem dL_print0_102 : decode cL_print0 102 = .ok (.iload_n 3, 1) := by decide +kernel
theorem dL_print0_103 : decode cL_print0 103 = .ok (.invokestatic 125, 3) := by decide +kernel
theorem dL_print0_106 : decode cL_print0 106 = .ok (.i2l, 1) := by decide +kernel
theorem dL_print0_107 : decode cL_print0 107 = .ok (.ladd, 1) := by decide +kernel
theorem dL_print0_108 : decode cL_print0 108 = .ok (.lstore_n 1, 1) := by decide +kernel
theorem dL_print0_109 : decode cL_print0 109 = .ok (.ldc2_w 142, 3) := by decide +kernel
theorem dL_print0_112 : decode cL_print0 112 = .ok (.lload_n 1, 1) := by decide +kernel
theorem dL_print0_113 : decode cL_print0 113 = .ok (.lmul, 1) := by decide +kernel
theorem dL_print0_114 : decode cL_print0 114 = .ok (.ldc2_w 149, 3) := by decide +kernel
theorem dL_print0_117 : decode cL_print0 117 = .ok (.aload_n 0, 1) := by decide +kernel
theorem dL_print0_118 : decode cL_print0 118 = .ok (.iload_n 3, 1) := by decide +kernel
theorem dL_print0_119 : decode cL_print0 119 = .ok (.invokestatic 123, 3) := by decide +kernel
theorem dL_print0_122 : decode cL_print0 122 = .ok (.i2l, 1) := by decide +kernel
theorem dL_print0_123 : decode cL_print0 123 = .ok (.lmul, 1) := by decide +kernel
theorem dL_print0_124 : decode cL_print0 124 = .ok (.ladd, 1) := by decide +kernel
theorem dL_print0_125 : decode cL_print0 125 = .ok (.aload_n 0, 1) := by decide +kernel
theorem dL_print0_126 : decode cL_print0 126 = .ok (.iload_n 3, 1) := by decide +kernel
theorem dL_print0_127 : decode cL_print0 127 = .ok (.invokestatic 127, 3) := by decide +kernel
theorem dL_print0_130 : decode cL_print0 130 = .ok (.i2l, 1) := by decide +kernel
theorem dL_print0_131 : decode cL_print0 131 = .ok (.ladd, 1) := by decide +kernel
theorem dL_print0_132 : decode cL_print0 132 = .ok (.lstore_n 1, 1) := by decide +kernel
theorem dL_print0_133 : decode cL_print0 133 = .ok (.iinc 3 1, 3) := by decide +kernel
theorem dL_print0_136 : decode cL_print0 136 = .ok (.goto (-48), 3) := by decide +kernel
theorem dL_print0_139 : decode cL_print0 139 = .ok (.ldc2_w 142, 3) := by decide +kernel
theorem dL_print0_142 : decode cL_print0 142 = .ok (.lload_n 1, 1) := by decide +kernel
theorem dL_print0_143 : decode cL_print0 143 = .ok (.lmul, 1) := by decide +kernel
theorem dL_print0_144 : decode cL_print0 144 = .ok (.aload_n 0, 1) := by decide +kernel
theorem dL_print0_145 : decode cL_print0 145 = .ok (.invokevirtual 103, 3) := by decide +kernel
theorem dL_print0_148 : decode cL_print0 148 = .ok (.i2l, 1) := by decide +kernel
theorem dL_print0_149 : decode cL_print0 149 = .ok (.ladd, 1) := by decide +kernel
theorem dL_print0_150 : decode cL_print0 150 = .ok (.lstore_n 1, 1) := by decide +kernel
theorem dL_print0_151 : decode cL_print0 151 = .ok (.aload_n 0, 1) := by decide +kernel
theorem dL_print0_152 : decode cL_print0 152 = .ok (.invokevirtual 96, 3) := by decide +kernel
theorem dL_print0_155 : decode cL_print0 155 = .ok (.ifCond .ne 7, 3) := by decide +kernel
theorem dL_print0_158 : decode cL_print0 158 = .ok (.lload_n 1, 1) := by decide +kernel
theorem dL_print0_159 : decode cL_print0 159 = .ok (.goto 19, 3) := by decide +kernel
theorem dL_print0_162 : decode cL_print0 162 = .ok (.ldc2_w 142, 3) := by decide +kernel
theorem dL_print0_165 : decode cL_print0 165 = .ok (.lload_n 1, 1) := by decide +kernel
theorem dL_print0_166 : decode cL_print0 166 = .ok (.lmul, 1) := by decide +kernel
theorem dL_print0_167 : decode cL_print0 167 = .ok (.aload_n 0, 1) := by decide +kernel
theorem dL_print0_168 : decode cL_print0 168 = .ok (.bipush 13, 2) := by decide +kernel
theorem dL_print0_170 : decode cL_print0 170 = .ok (.bipush 9, 2) := by decide +kernel
theorem dL_print0_172 : decode cL_print0 172 = .ok (.iconst 0, 1) := by decide +kernel
theorem dL_print0_173 : decode cL_print0 173 = .ok (.invokestatic 151, 3) := by decide +kernel
theorem dL_print0_176 : decode cL_print0 176 = .ok (.i2l, 1) := by decide +kernel
theorem dL_print0_177 : decode cL_print0 177 = .ok (.ladd, 1) := by decide +kernel
theorem dL_print0_178 : decode cL_print0 178 = .ok (.lreturn, 1) := by decide +kernel
theorem dL_label_0 : decode cL_label 0 = .ok (.aload_n 0, 1) := by decide +kernel
theorem dL_label_1 : decode cL_label 1 = .ok (.invokevirtual 96, 3) := by decide +kernel
theorem dL_label_4 : decode cL_label 4 = .ok (.istore_n 1, 1) := by decide +kernel
theorem dL_label_5 : decode cL_label 5 = .ok (.iload_n 1, 1) := by decide +kernel
theorem dL_label_6 : decode cL_label 6 = .ok (.ifCond .ne 29, 3) := by decide +kernel
theorem dL_label_9 : decode cL_label 9 = .ok (.aload_n 0, 1) := by decide +kernel
theorem dL_label_10 : decode cL_label 10 = .ok (.iconst 0, 1) := by decide +kernel
theorem dL_label_11 : decode cL_label 11 = .ok (.invokestatic 99, 3) := by decide +kernel
theorem dL_label_14 : decode cL_label 14 = .ok (.ldc 18, 2) := by decide +kernel
theorem dL_label_16 : decode cL_label 16 = .ok (.if_icmp .ne 17, 3) := by decide +kernel
theorem dL_label_19 : decode cL_label 19 = .ok (.aload_n 0, 1) := by decide +kernel
theorem dL_label_20 : decode cL_label 20 = .ok (.iconst 0, 1) := by decide +kernel
theorem dL_label_21 : decode cL_label 21 = .ok (.invokestatic 101, 3) := by decide +kernel
theorem dL_label_24 : decode cL_label 24 = .ok (.ldc 18, 2) := by decide +kernel
theorem dL_label_26 : decode cL_label 26 = .ok (.if_icmp .ne 7, 3) := by decide +kernel
theorem dL_label_29 : decode cL_label 29 = .ok (.iconst 1, 1) := by decide +kernel
theorem dL_label_30 : decode cL_label 30 = .ok (.goto 4, 3) := by decide +kernel
theorem dL_label_33 : decode cL_label 33 = .ok (.iconst 0, 1) := by decide +kernel
theorem dL_label_34 : decode cL_label 34 = .ok (.ireturn, 1) := by decide +kernel
theorem dL_label_35 : decode cL_label 35 = .ok (.iload_n 1, 1) := by decide +kernel
theorem dL_label_36 : decode cL_label 36 = .ok (.iconst 5, 1) := by decide +kernel
theorem dL_label_37 : decode cL_label 37 = .ok (.isub, 1) := by decide +kernel
theorem dL_label_38 : decode cL_label 38 = .ok (.iconst 4, 1) := by decide +kernel
theorem dL_label_39 : decode cL_label 39 = .ok (.idiv, 1) := by decide +kernel
theorem dL_label_40 : decode cL_label 40 = .ok (.istore_n 2, 1) := by decide +kernel
theorem dL_label_41 : decode cL_label 41 = .ok (.iconst 0, 1) := by decide +kernel
theorem dL_label_42 : decode cL_label 42 = .ok (.istore_n 3, 1) := by decide +kernel
theorem dL_label_43 : decode cL_label 43 = .ok (.iconst 0, 1) := by decide +kernel
theorem dL_label_44 : decode cL_label 44 = .ok (.istore 4, 2) := by decide +kernel
theorem dL_label_46 : decode cL_label 46 = .ok (.iload 4, 2) := by decide +kernel
theorem dL_label_48 : decode cL_label 48 = .ok (.iload_n 2, 1) := by decide +kernel
theorem dL_label_49 : decode cL_label 49 = .ok (.if_icmp .ge 103, 3) := by decide +kernel
theorem dL_label_52 : decode cL_label 52 = .ok (.iconst 0, 1) := by decide +kernel
theorem dL_label_53 : decode cL_label 53 = .ok (.istore 5, 2) := by decide +kernel
theorem dL_label_55 : decode cL_label 55 = .ok (.iconst 0, 1) := by decide +kernel
theorem dL_label_56 : decode cL_label 56 = .ok (.istore 6, 2) := by decide +kernel
theorem dL_label_58 : decode cL_label 58 = .ok (.iload 6, 2) := by decide +kernel
theorem dL_label_60 : decode cL_label 60 = .ok (.iconst 4, 1) := by decide +kernel
theorem dL_label_61 : decode cL_label 61 = .ok (.if_icmp .ge 27, 3) := by decide +kernel
theorem dL_label_64 : decode cL_label 64 = .ok (.iload 5, 2) := by decide +kernel
theorem dL_label_66 : decode cL_label 66 = .ok (.aload_n 0, 1) := by decide +kernel
theorem dL_label_67 : decode cL_label 67 = .ok (.iconst 3, 1) := by decide +kernel
theorem dL_label_68 : decode cL_label 68 = .ok (.iconst 4, 1) := by decide +kernel
theorem dL_label_69 : decode cL_label 69 = .ok (.iload 4, 2) := by decide +kernel
theorem dL_label_71 : decode cL_label 71 = .ok (.imul, 1) := by decide +kernel
theorem dL_label_72 : decode cL_label 72 = .ok (.iadd, 1) := by decide +kernel
theorem dL_label_73 : decode cL_label 73 = .ok (.iload 6, 2) := by decide +kernel
theorem dL_label_75 : decode cL_label 75 = .ok (.iadd, 1) := by decide +kernel
theorem dL_label_76 : decode cL_label 76 = .ok (.invokestatic 101, 3) := by decide +kernel
theorem dL_label_79 : decode cL_label 79 = .ok (.iadd, 1) := by decide +kernel
theorem dL_label_80 : decode cL_label 80 = .ok (.istore 5, 2) := by decide +kernel
theorem dL_label_82 : decode cL_label 82 = .ok (.iinc 6 1, 3) := by decide +kernel
theorem dL_label_85 : decode cL_label 85 = .ok (.goto (-27), 3) := by decide +kernel
theorem dL_label_88 : decode cL_label 88 = .ok (.iload_n 3, 1) := by decide +kernel
theorem dL_label_89 : decode cL_label 89 = .ok (.iload_n 2, 1) := by decide +kernel
theorem dL_label_90 : decode cL_label 90 = .ok (.iload 4, 2) := by decide +kernel
theorem dL_label_92 : decode cL_label 92 = .ok (.isub, 1) := by decide +kernel
theorem dL_label_93 : decode cL_label 93 = .ok (.iconst 2, 1) := by decide +kernel
theorem dL_label_94 : decode cL_label 94 = .ok (.irem, 1) := by decide +kernel
theorem dL_label_95 : decode cL_label 95 = .ok (.ifCond .ne 14, 3) := by decide +kernel
theorem dL_label_98 : decode cL_label 98 = .ok (.iconst 3, 1) := by decide +kernel
theorem dL_label_99 : decode cL_label 99 = .ok (.aload_n 0, 1) := by decide +kernel
theorem dL_label_100 : decode cL_label 100 = .ok (.iload 4, 2) := by decide +kernel
theorem dL_label_102 : decode cL_label 102 = .ok (.invokestatic 99, 3) := by decide +kernel
theorem dL_label_105 : decode cL_label 105 = .ok (.imul, 1) := by decide +kernel
theorem dL_label_106 : decode cL_label 106 = .ok (.goto 9, 3) := by decide +kernel
theorem dL_label_109 : decode cL_label 109 = .ok (.aload_n 0, 1) := by decide +kernel
theorem dL_label_110 : decode cL_label 110 = .ok (.iload 4, 2) := by decide +kernel
theorem dL_label_112 : decode cL_label 112 = .ok (.invokestatic 99, 3) := by decide +kernel
theorem dL_label_115 : decode cL_label 115 = .ok (.iadd, 1) := by decide +kernel
theorem dL_label_116 : decode cL_label 116 = .ok (.istore_n 3, 1) := by decide +kernel
theorem dL_label_117 : decode cL_label 117 = .ok (.iload 5, 2) := by decide +kernel
theorem dL_label_119 : decode cL_label 119 = .ok (.bipush 7, 2) := by decide +kernel
theorem dL_label_121 : decode cL_label 121 = .ok (.if_icmp .ne 23, 3) := by decide +kernel
theorem dL_label_124 : decode cL_label 124 = .ok (.aload_n 0, 1) := by decide +kernel
theorem dL_label_125 : decode cL_label 125 = .ok (.iload 4, 2) := by decide +kernel
theorem dL_label_127 : decode cL_label 127 = .ok (.invokestatic 99, 3) := by decide +kernel
theorem dL_label_130 : decode cL_label 130 = .ok (.ifCond .lt 14, 3) := by decide +kernel
theorem dL_label_133 : decode cL_label 133 = .ok (.aload_n 0, 1) := by decide +kernel
theorem dL_label_134 : decode cL_label 134 = .ok (.iload 4, 2) := by decide +kernel
theorem dL_label_136 : decode cL_label 136 = .ok (.invokestatic 99, 3) := by decide +kernel
theorem dL_label_139 : decode cL_label 139 = .ok (.bipush 9, 2) := by decide +kernel
theorem dL_label_141 : decode cL_label 141 = .ok (.if_icmp .le 5, 3) := by decide +kernel
theorem dL_label_144 : decode cL_label 144 = .ok (.iconst 0, 1) := by decide +kernel
theorem dL_label_145 : decode cL_label 145 = .ok (.ireturn, 1) := by decide +kernel
theorem dL_label_146 : decode cL_label 146 = .ok (.iinc 4 1, 3) := by decide +kernel
theorem dL_label_149 : decode cL_label 149 = .ok (.goto (-103), 3) := by decide +kernel
theorem dL_label_152 : decode cL_label 152 = .ok (.iload_n 1, 1) := by decide +kernel
theorem dL_label_153 : decode cL_label 153 = .ok (.iconst 4, 1) := by decide +kernel
theorem dL_label_154 : decode cL_label 154 = .ok (.iload_n 2, 1) := by decide +kernel
theorem dL_label_155 : decode cL_label 155 = .ok (.imul, 1) := by decide +kernel
theorem dL_label_156 : decode cL_label 156 = .ok (.iconst 5, 1) := by decide +kernel
theorem dL_label_157 : decode cL_label 157 = .ok (.iadd, 1) := by decide +kernel
theorem dL_label_158 : decode cL_label 158 = .ok (.if_icmp .ne 88, 3) := by decide +kernel
theorem dL_label_161 : decode cL_label 161 = .ok (.iload_n 2, 1) := by decide +kernel
theorem dL_label_162 : decode cL_label 162 = .ok (.iconst 1, 1) := by decide +kernel
theorem dL_label_163 : decode cL_label 163 = .ok (.if_icmp .le 83, 3) := by decide +kernel
theorem dL_label_166 : decode cL_label 166 = .ok (.iload_n 2, 1) := by decide +kernel
theorem dL_label_167 : decode cL_label 167 = .ok (.bipush 10, 2) := by decide +kernel
theorem dL_label_169 : decode cL_label 169 = .ok (.if_icmp .ge 77, 3) := by decide +kernel
theorem dL_label_172 : decode cL_label 172 = .ok (.iload_n 3, 1) := by decide +kernel
theorem dL_label_173 : decode cL_label 173 = .ok (.bipush 10, 2) := by decide +kernel
theorem dL_label_175 : decode cL_label 175 = .ok (.irem, 1) := by decide +kernel
theorem dL_label_176 : decode cL_label 176 = .ok (.ifCond .ne 70, 3) := by decide +kernel
theorem dL_label_179 : decode cL_label 179 = .ok (.aload_n 0, 1) := by decide +kernel
theorem dL_label_180 : decode cL_label 180 = .ok (.iload_n 2, 1) := by decide +kernel
theorem dL_label_181 : decode cL_label 181 = .ok (.invokestatic 99, 3) := by decide +kernel
theorem dL_label_184 : decode cL_label 184 = .ok (.ldc 18, 2) := by decide +kernel
theorem dL_label_186 : decode cL_label 186 = .ok (.if_icmp .ne 60, 3) := by decide +kernel
theorem dL_label_189 : decode cL_label 189 = .ok (.aload_n 0, 1) := by decide +kernel
theorem dL_label_190 : decode cL_label 190 = .ok (.iconst 0, 1) := by decide +kernel
theorem dL_label_191 : decode cL_label 191 = .ok (.invokestatic 101, 3) := by decide +kernel
theorem dL_label_194 : decode cL_label 194 = .ok (.aload_n 0, 1) := by decide +kernel
theorem dL_label_195 : decode cL_label 195 = .ok (.iconst 1, 1) := by decide +kernel
theorem dL_label_196 : decode cL_label 196 = .ok (.invokestatic 101, 3) := by decide +kernel
theorem dL_label_199 : decode cL_label 199 = .ok (.iadd, 1) := by decide +kernel
theorem dL_label_200 : decode cL_label 200 = .ok (.aload_n 0, 1) := by decide +kernel
theorem dL_label_201 : decode cL_label 201 = .ok (.iconst 2, 1) := by decide +kernel
theorem dL_label_202 : decode cL_label 202 = .ok (.invokestatic 101, 3) := by decide +kernel
theorem dL_label_205 : decode cL_label 205 = .ok (.iadd, 1) := by decide +kernel
theorem dL_label_206 : decode cL_label 206 = .ok (.iconst 3, 1) := by decide +kernel
theorem dL_label_207 : decode cL_label 207 = .ok (.if_icmp .ne 39, 3) := by decide +kernel
theorem dL_label_210 : decode cL_label 210 = .ok (.aload_n 0, 1) := by decide +kernel
theorem dL_label_211 : decode cL_label 211 = .ok (.iload_n 1, 1) := by decide +kernel
theorem dL_label_212 : decode cL_label 212 = .ok (.iconst 2, 1) := by decide +kernel
theorem dL_label_213 : decode cL_label 213 = .ok (.isub, 1) := by decide +kernel
theorem dL_label_214 : decode cL_label 214 = .ok (.invokestatic 101, 3) := by decide +kernel
theorem dL_label_217 : decode cL_label 217 = .ok (.iconst 1, 1) := by decide +kernel
theorem dL_label_218 : decode cL_label 218 = .ok (.if_icmp .ne 28, 3) := by decide +kernel
theorem dL_label_221 : decode cL_label 221 = .ok (.aload_n 0, 1) := by decide +kernel
theorem dL_label_222 : decode cL_label 222 = .ok (.iload_n 1, 1) := by decide +kernel
theorem dL_label_223 : decode cL_label 223 = .ok (.iconst 1, 1) := by decide +kernel
theorem dL_label_224 : decode cL_label 224 = .ok (.isub, 1) := by decide +kernel
theorem dL_label_225 : decode cL_label 225 = .ok (.invokestatic 101, 3) := by decide +kernel
theorem dL_label_228 : decode cL_label 228 = .ok (.iconst 2, 1) := by decide +kernel
theorem dL_label_229 : decode cL_label 229 = .ok (.if_icmp .ne 17, 3) := by decide +kernel
theorem dL_label_232 : decode cL_label 232 = .ok (.aload_n 0, 1) := by decide +kernel
theorem dL_label_233 : decode cL_label 233 = .ok (.iload_n 1, 1) := by decide +kernel
theorem dL_label_234 : decode cL_label 234 = .ok (.invokestatic 101, 3) := by decide +kernel
theorem dL_label_237 : decode cL_label 237 = .ok (.ldc 18, 2) := by decide +kernel
theorem dL_label_239 : decode cL_label 239 = .ok (.if_icmp .ne 7, 3) := by decide +kernel
theorem dL_label_242 : decode cL_label 242 = .ok (.iconst 1, 1) := by decide +kernel
theorem dL_label_243 : decode cL_label 243 = .ok (.goto 4, 3) := by decide +kernel
theorem dL_label_246 : decode cL_label 246 = .ok (.iconst 0, 1) := by decide +kernel
theorem dL_label_247 : decode cL_label 247 = .ok (.ireturn, 1) := by decide +kernel
set_option maxHeartbeats 4000000 in
set_option maxRecDepth 100000 in
theorem c_L_print0 (l : Launch) (D : va_G) (a : Nat → Nat) (K : ClassId) (KS : ClassId) (st : ST) (hs : HT) (sc : SCT) (hbst : bST st) (sz : Nat) : k_Ml (S := SCT) l D yL_print0 cL_print0 4 (some .long) 7 0 0 164 [.ref (a 0)] ((WW a K KS st hs sc)) [(K, .int), (KS, .object "BarcodeWand$State")] (fun (r : Int64) (sc1 : SCT) => r = (P0 st)) (fun sc1 => ((WW a K KS st hs sc1))) (fun sc1 => []) sz := by
  refine Met.ofW (cc := cL_print0) (maxL := 4) (ret := (some .long)) (by decide) rfl ?_
  intro p e s m args below meth c s₁ B hml hv
  obtain ⟨rfl, hsz, hP, hK, hD0, hG⟩ := hv
  have hx := B.exec
  have hb := B.bytes
  have hr := B.returns
  have ht : ∀ v9 ∈ wsA, v9.before ([.ref (a 0)] : List Value).toArray s = true := fun v9 h9 => atoms_spec (ws := k_ws yL_print0 cL_print0 4 (some .long)) B.pre v9 (List.mem_cons_of_mem _ h9)
  have hown : s.vm.findClass RL = some m.cls := findClass_of_methodNamed B.named
  have S0 : k_C p s m ([.ref (a 0)] : List Value).toArray c cL_print0 4 RL := ⟨hx, hb, hml, hown, ht⟩
  have hlocks := B.notSynchronized
  subst hsz
  have hD := hD0.self (sz := s.heap.size)
  generalize hAe : va_A ((WW a K KS st hs sc)) s.heap.size = A at hD hG ⊢
  have hA : ∀ q : Nat, s.heap.size ≤ q → A q := fun q h => by rw [← hAe]; exact Or.inr h
  have hS : va_S A s.heap s.heap [] := va_S.rf
  have hl := lv_entry ([.ref (a 0)]) (n := 4) (Nat.le_of_ble_eq_true rfl)
  rw [lg_entry_eq]
  generalize (lg_sl ([.ref (a 0)]) ++ List.replicate (4 - (lg_sl ([.ref (a 0)])).length) Slot.unset).toArray = ls at hl ⊢
  have hl : lv_has ls 4 [(0, .ref (a 0))] := hl
  have hP : va_P D vwCl ((WW a K KS st hs sc)) s.heap := hP
  obtain ⟨hb1, hb2, hb3, hb4⟩ := bST_le hbst
  refine lv_ldc2 (v := 31) hx hb hown (ht _ lx_L_142) dL_print0_0 ?_
  refine lv_aload_n hx hb dL_print0_3 rfl (lv_at hl 0 rfl) ?_
  have ct := k_cut_TT (wp := []) (T := (WW a K KS st hs sc)) (wc := []) (wr := []) (tc := [(K, .int), (KS, .object "BarcodeWand$State")]) hG hS hA hK hP hD [] [] [0, 1] rfl rfl (by decide) (by decide) (by decide) rfl
  refine k_endi (As := [.ref (a 0)]) ct (k_runV (As := []) (rest := [.long 31]) S0 Lv_L_129 rfl (ci := 7) (q0 := 0) rfl (WW_0 a K KS st hs sc) ct (c_B_successes l D a K KS st hs sc s.heap.size) hl.1 rfl (Nat.le_of_ble_eq_true rfl) rfl dL_print0_4 ⟨⟨Nat.le_of_ble_eq_true rfl, Nat.le_of_ble_eq_true rfl⟩, Nat.le_of_ble_eq_true rfl, Nat.le_of_ble_eq_true rfl⟩) rfl rfl (fun r_1 _ H locs hw_2 hP hD hK hS => ?_)
  have hK : va_K D vwCl [(K, .int), (KS, .object "BarcodeWand$State")] s := hK
  have hP : va_P D vwCl ((WW a K KS st hs sc)) H := hP
  have hD : va_D A ((WW a K KS st hs sc)) := hD
  have hw_2 : r_1 = (s_suc st) := hw_2
  have hw_2 := hw_2.symm
  subst hw_2
  refine k_nrm (y := (s_suc st)) rfl ?_
  refine lv_i2l (v := (s_suc st).toInt64) hx hb dL_print0_7 rfl ?_
  refine lv_lmul hx hb dL_print0_8 ?_
  refine k_nrml (y := (31 * (s_suc st).toInt64)) (rfl) ?_
  refine lv_aload_n hx hb dL_print0_9 rfl (lv_at hl 0 rfl) ?_
  have ct := k_cut_TT (wp := []) (T := (WW a K KS st hs sc)) (wc := []) (wr := []) (tc := [(K, .int), (KS, .object "BarcodeWand$State")]) hG hS hA hK hP hD [] [] [0, 1] rfl rfl (by decide) (by decide) (by decide) rfl
  refine k_endi (As := [.ref (a 0)]) ct (k_runV (As := []) (rest := [.long (31 * (s_suc st).toInt64)]) S0 Lv_L_144 rfl (ci := 7) (q0 := 0) rfl (WW_0 a K KS st hs sc) ct (c_B_failures l D a K KS st hs sc H.size) hl.1 rfl (Nat.le_of_ble_eq_true rfl) rfl dL_print0_10 ⟨⟨Nat.le_of_ble_eq_true rfl, Nat.le_of_ble_eq_true rfl⟩, Nat.le_of_ble_eq_true rfl, Nat.le_of_ble_eq_true rfl⟩) rfl rfl (fun r_3 _ H locs hw_4 hP hD hK hS => ?_)
  have hK : va_K D vwCl [(K, .int), (KS, .object "BarcodeWand$State")] s := hK
  have hP : va_P D vwCl ((WW a K KS st hs sc)) H := hP
  have hD : va_D A ((WW a K KS st hs sc)) := hD
  have hw_4 : r_3 = (s_fai st) := hw_4
  have hw_4 := hw_4.symm
  subst hw_4
  refine k_nrm (y := (s_fai st)) rfl ?_
  refine lv_i2l (v := (s_fai st).toInt64) hx hb dL_print0_13 rfl ?_
  refine lv_ladd hx hb dL_print0_14 ?_
  refine k_nrml (y := (pE st 0)) (rfl) ?_
  refine lv_lstore_n (lv' := [(1, .long (pE st 0)), (0, .ref (a 0))]) hx hb dL_print0_15 rfl hl (by decide) rfl (fun ls hl => ?_)
  refine lv_iconst (v := 0) hx hb dL_print0_16 (by decide) ?_
  refine lv_istore_n (lv' := [(3, .int 0), (1, .long (pE st 0)), (0, .ref (a 0))]) hx hb dL_print0_17 rfl hl (by decide) rfl (fun ls hl => ?_)
  have hl : lv_has ls 4 [(3, .int (nI 0)), (1, .long (pE st 0)), (0, .ref (a 0))] := hl
  refine k_loop (ι := Nat) (fun (i : Nat) H9 locs9 ls9 => (i ≤ s_ns st) ∧ va_P D vwCl ((WW a K KS st hs sc)) H9 ∧ va_D A ((WW a K KS st hs sc)) ∧ va_S A s.heap H9 locs9 ∧ lv_has ls9 4 [(3, .int (nI i)), (1, .long (pE st i)), (0, .ref (a 0))]) (fun (i : Nat) => s_ns st - i) ?_ (0) ⟨(Nat.zero_le _), k_subP (wp := []) (wp' := []) (T := (WW a K KS st hs sc)) hP [] rfl, k_subD (wp := []) (wp' := []) (T := (WW a K KS st hs sc)) hD [] (by decide) rfl, hS, lv_sub hl [0, 1, 2] rfl⟩
  intro x9 H locs ls hF9 ih9
  obtain ⟨i, hv9⟩ : ∃ z, z = x9 := ⟨_, rfl⟩
  subst hv9
  obtain ⟨hi, hP, hD, hS, hl⟩ := hF9
  try dsimp only at ih9
  have hP : va_P D vwCl ((WW a K KS st hs sc)) H := hP
  have hD : va_D A ((WW a K KS st hs sc)) := hD
  have hl : lv_has ls 4 [(3, .int (nI i)), (1, .long (pE st i)), (0, .ref (a 0))] := hl
  refine lv_iload_n hx hb dL_print0_18 rfl (lv_at hl 0 rfl) ?_
  refine lv_aload_n hx hb dL_print0_19 rfl (lv_at hl 2 rfl) ?_
  have ct := k_cut_TT (wp := []) (T := (WW a K KS st hs sc)) (wc := []) (wr := []) (tc := [(K, .int), (KS, .object "BarcodeWand$State")]) hG hS hA hK hP hD [] [] [0, 1] rfl rfl (by decide) (by decide) (by decide) rfl
  refine k_endi (As := [.ref (a 0)]) ct (k_runV (As := []) (rest := [.int (nI i)]) S0 Lv_L_96 rfl (ci := 7) (q0 := 0) rfl (WW_0 a K KS st hs sc) ct (c_B_elements l D a K KS st hs sc H.size) hl.1 rfl (Nat.le_of_ble_eq_true rfl) rfl dL_print0_20 ⟨⟨Nat.le_of_ble_eq_true rfl, Nat.le_of_ble_eq_true rfl⟩, Nat.le_of_ble_eq_true rfl, Nat.le_of_ble_eq_true rfl⟩) rfl rfl (fun r_5 _ H locs hw_6 hP hD hK hS => ?_)
  have hK : va_K D vwCl [(K, .int), (KS, .object "BarcodeWand$State")] s := hK
  have hP : va_P D vwCl ((WW a K KS st hs sc)) H := hP
  have hD : va_D A ((WW a K KS st hs sc)) := hD
  have hw_6 : r_5 = (nI (s_ns st)) := hw_6
  have hw_6 := hw_6.symm
  subst hw_6
  refine k_nrm (y := (nI (s_ns st))) rfl ?_
  refine lv_icmp_ge (tgt := 45) hx hb dL_print0_23 (by decide) (fun c_7 => ?_) (fun c_7 => ?_)
  · have hc9 := c_7
    obtain rfl : (s_ns st) = i := by rcases Nat.lt_or_ge i (s_ns st) with q9 | q9; exact absurd c_7 (nI_ge q9 (by omega)); omega
    refine lv_ldc2 (v := 31) hx hb hown (ht _ lx_L_142) dL_print0_45 ?_
    refine lv_lload_n hx hb dL_print0_48 rfl (lv_at hl 1 rfl) ?_
    refine lv_lmul hx hb dL_print0_49 ?_
    refine k_nrml (y := (31 * pE st (s_ns st))) (rfl) ?_
    refine lv_aload_n hx hb dL_print0_50 rfl (lv_at hl 2 rfl) ?_
    have ct := k_cut_TT (wp := []) (T := (WW a K KS st hs sc)) (wc := []) (wr := []) (tc := [(K, .int), (KS, .object "BarcodeWand$State")]) hG hS hA hK hP hD [] [] [0, 1] rfl rfl (by decide) (by decide) (by decide) rfl
    refine k_endi (As := [.ref (a 0)]) ct (k_runV (As := []) (rest := [.long (31 * pE st (s_ns st))]) S0 Lv_L_110 rfl (ci := 7) (q0 := 0) rfl (WW_0 a K KS st hs sc) ct (c_B_least l D a K KS st hs sc (by assumption) H.size) hl.1 rfl (Nat.le_of_ble_eq_true rfl) rfl dL_print0_51 ⟨⟨Nat.le_of_ble_eq_true rfl, Nat.le_of_ble_eq_true rfl⟩, Nat.le_of_ble_eq_true rfl, Nat.le_of_ble_eq_true rfl⟩) rfl rfl (fun r_8 sc1v_9 H locs hw_10 hP hD hK hS => ?_)
    have hK : va_K D vwCl [(K, .int), (KS, .object "BarcodeWand$State")] s := hK
    have hP : va_P D vwCl ((WW a K KS st hs sc1v_9)) H := hP
    have hD : va_D A ((WW a K KS st hs sc1v_9)) := hD
    have hw_10 : r_8 = leaF (s_tn st) (s_tf st) := hw_10
    have hw_10 := hw_10.symm
    subst hw_10
    refine k_nrm (y := leaF (s_tn st) (s_tf st)) rfl ?_
    refine lv_i2l (v := (leaF (s_tn st) (s_tf st)).toInt64) hx hb dL_print0_54 rfl ?_
    refine lv_ladd hx hb dL_print0_55 ?_
    refine k_nrml (y := (pT st 0)) (rfl) ?_
    refine lv_lstore_n (lv' := [(1, .long (pT st 0)), (3, .int (nI (s_ns st))), (0, .ref (a 0))]) hx hb dL_print0_56 rfl hl (by decide) rfl (fun ls hl => ?_)
    refine lv_iconst (v := 0) hx hb dL_print0_57 (by decide) ?_
    refine lv_istore_n (lv' := [(3, .int 0), (1, .long (pT st 0)), (0, .ref (a 0))]) hx hb dL_print0_58 rfl hl (by decide) rfl (fun ls hl => ?_)
    have hl : lv_has ls 4 [(3, .int (nI 0)), (1, .long (pT st 0)), (0, .ref (a 0))] := hl
    refine k_loop (ι := Nat × SCT) (fun (x9 : Nat × SCT) H9 locs9 ls9 => match x9 with | (i, z) => (i ≤ s_tn st) ∧ va_P D vwCl ((WW a K KS st hs z)) H9 ∧ va_D A ((WW a K KS st hs z)) ∧ va_S A s.heap H9 locs9 ∧ lv_has ls9 4 [(3, .int (nI i)), (1, .long (pT st i)), (0, .ref (a 0))]) (fun (x9 : Nat × SCT) => match x9 with | (i, z) => s_tn st - i) ?_ ((0, sc1v_9)) ⟨(Nat.zero_le _), k_subP (wp := []) (wp' := []) (T := (WW a K KS st hs sc1v_9)) hP [] rfl, k_subD (wp := []) (wp' := []) (T := (WW a K KS st hs sc1v_9)) hD [] (by decide) rfl, hS, lv_sub hl [0, 1, 2] rfl⟩
    intro x9 H locs ls hF9 ih9
    obtain ⟨i, z⟩ := x9
    obtain ⟨hi, hP, hD, hS, hl⟩ := hF9
    try dsimp only at ih9
    have hP : va_P D vwCl ((WW a K KS st hs z)) H := hP
    have hD : va_D A ((WW a K KS st hs z)) := hD
    have hl : lv_has ls 4 [(3, .int (nI i)), (1, .long (pT st i)), (0, .ref (a 0))] := hl
    refine lv_iload_n hx hb dL_print0_59 rfl (lv_at hl 0 rfl) ?_
    refine lv_aload_n hx hb dL_print0_60 rfl (lv_at hl 2 rfl) ?_
    have ct := k_cut_TT (wp := []) (T := (WW a K KS st hs z)) (wc := []) (wr := []) (tc := [(K, .int), (KS, .object "BarcodeWand$State")]) hG hS hA hK hP hD [] [] [0, 1] rfl rfl (by decide) (by decide) (by decide) rfl
    refine k_endi (As := [.ref (a 0)]) ct (k_runV (As := []) (rest := [.int (nI i)]) S0 Lv_L_113 rfl (ci := 7) (q0 := 0) rfl (WW_0 a K KS st hs z) ct (c_B_times l D a K KS st hs z H.size) hl.1 rfl (Nat.le_of_ble_eq_true rfl) rfl dL_print0_61 ⟨⟨Nat.le_of_ble_eq_true rfl, Nat.le_of_ble_eq_true rfl⟩, Nat.le_of_ble_eq_true rfl, Nat.le_of_ble_eq_true rfl⟩) rfl rfl (fun r_11 _ H locs hw_12 hP hD hK hS => ?_)
    have hK : va_K D vwCl [(K, .int), (KS, .object "BarcodeWand$State")] s := hK
    have hP : va_P D vwCl ((WW a K KS st hs z)) H := hP
    have hD : va_D A ((WW a K KS st hs z)) := hD
    have hw_12 : r_11 = (nI (s_tn st)) := hw_12
    have hw_12 := hw_12.symm
    subst hw_12
    refine k_nrm (y := (nI (s_tn st))) rfl ?_
    refine lv_icmp_ge (tgt := 86) hx hb dL_print0_64 (by decide) (fun c_13 => ?_) (fun c_13 => ?_)
    · have hc9 := c_13
      obtain rfl : (s_tn st) = i := by rcases Nat.lt_or_ge i (s_tn st) with q9 | q9; exact absurd c_13 (nI_ge q9 (by omega)); omega
      refine lv_iconst (v := 0) hx hb dL_print0_86 (by decide) ?_
      refine lv_istore_n (lv' := [(3, .int 0), (1, .long (pT st (s_tn st))), (0, .ref (a 0))]) hx hb dL_print0_87 rfl hl (by decide) rfl (fun ls hl => ?_)
      have hl : lv_has ls 4 [(3, .int (nI 0)), (1, .long (pT st (s_tn st))), (0, .ref (a 0))] := hl
      have hl : lv_has ls 4 [(3, .int (nI 0)), (1, .long (pC st 0)), (0, .ref (a 0))] := hl
      refine k_loop (ι := Nat) (fun (i : Nat) H9 locs9 ls9 => (i ≤ s_k st) ∧ va_P D vwCl ((WW a K KS st hs z)) H9 ∧ va_D A ((WW a K KS st hs z)) ∧ va_S A s.heap H9 locs9 ∧ lv_has ls9 4 [(3, .int (nI i)), (1, .long (pC st i)), (0, .ref (a 0))]) (fun (i : Nat) => s_k st - i) ?_ (0) ⟨(Nat.zero_le _), k_subP (wp := []) (wp' := []) (T := (WW a K KS st hs z)) hP [] rfl, k_subD (wp := []) (wp' := []) (T := (WW a K KS st hs z)) hD [] (by decide) rfl, hS, lv_sub hl [0, 1, 2] rfl⟩
      intro x9 H locs ls hF9 ih9
      obtain ⟨i, hv9⟩ : ∃ z, z = x9 := ⟨_, rfl⟩
      subst hv9
      obtain ⟨hi, hP, hD, hS, hl⟩ := hF9
      try dsimp only at ih9
      have hP : va_P D vwCl ((WW a K KS st hs z)) H := hP
      have hD : va_D A ((WW a K KS st hs z)) := hD
      have hl : lv_has ls 4 [(3, .int (nI i)), (1, .long (pC st i)), (0, .ref (a 0))] := hl
      refine lv_iload_n hx hb dL_print0_88 rfl (lv_at hl 0 rfl) ?_
      refine lv_aload_n hx hb dL_print0_89 rfl (lv_at hl 2 rfl) ?_
      have ct := k_cut_TT (wp := []) (T := (WW a K KS st hs z)) (wc := []) (wr := []) (tc := [(K, .int), (KS, .object "BarcodeWand$State")]) hG hS hA hK hP hD [] [] [0, 1] rfl rfl (by decide) (by decide) (by decide) rfl
      refine k_endi (As := [.ref (a 0)]) ct (k_runV (As := []) (rest := [.int (nI i)]) S0 Lv_L_120 rfl (ci := 7) (q0 := 0) rfl (WW_0 a K KS st hs z) ct (c_B_codes l D a K KS st hs z H.size) hl.1 rfl (Nat.le_of_ble_eq_true rfl) rfl dL_print0_90 ⟨⟨Nat.le_of_ble_eq_true rfl, Nat.le_of_ble_eq_true rfl⟩, Nat.le_of_ble_eq_true rfl, Nat.le_of_ble_eq_true rfl⟩) rfl rfl (fun r_14 _ H locs hw_15 hP hD hK hS => ?_)
      have hK : va_K D vwCl [(K, .int), (KS, .object "BarcodeWand$State")] s := hK
      have hP : va_P D vwCl ((WW a K KS st hs z)) H := hP
      have hD : va_D A ((WW a K KS st hs z)) := hD
      have hw_15 : r_14 = (nI (s_k st)) := hw_15
      have hw_15 := hw_15.symm
      subst hw_15
      refine k_nrm (y := (nI (s_k st))) rfl ?_
      refine lv_icmp_ge (tgt := 139) hx hb dL_print0_93 (by decide) (fun c_16 => ?_) (fun c_16 => ?_)
      · have hc9 := c_16
        obtain rfl : (s_k st) = i := by rcases Nat.lt_or_ge i (s_k st) with q9 | q9; exact absurd c_16 (nI_ge q9 (by omega)); omega
        refine lv_ldc2 (v := 31) hx hb hown (ht _ lx_L_142) dL_print0_139 ?_
        refine lv_lload_n hx hb dL_print0_142 rfl (lv_at hl 1 rfl) ?_
        refine lv_lmul hx hb dL_print0_143 ?_
        refine k_nrml (y := (31 * pC st (s_k st))) (rfl) ?_
        refine lv_aload_n hx hb dL_print0_144 rfl (lv_at hl 2 rfl) ?_
        have ct := k_cut_TT (wp := []) (T := (WW a K KS st hs z)) (wc := []) (wr := []) (tc := [(K, .int), (KS, .object "BarcodeWand$State")]) hG hS hA hK hP hD [] [] [0, 1] rfl rfl (by decide) (by decide) (by decide) rfl
        refine k_endi (As := [.ref (a 0)]) ct (k_runV (As := []) (rest := [.long (31 * pC st (s_k st))]) S0 Lv_L_103 rfl (ci := 7) (q0 := 0) rfl (WW_0 a K KS st hs z) ct (c_B_result l D a K KS st hs z (by assumption) H.size) hl.1 rfl (Nat.le_of_ble_eq_true rfl) rfl dL_print0_145 ⟨⟨Nat.le_of_ble_eq_true rfl, Nat.le_of_ble_eq_true rfl⟩, Nat.le_of_ble_eq_true rfl, Nat.le_of_ble_eq_true rfl⟩) rfl rfl (fun r_17 sc1v_18 H locs hw_19 hP hD hK hS => ?_)
        have hK : va_K D vwCl [(K, .int), (KS, .object "BarcodeWand$State")] s := hK
        have hP : va_P D vwCl ((WW a K KS st hs sc1v_18)) H := hP
        have hD : va_D A ((WW a K KS st hs sc1v_18)) := hD
        have hw_19 : r_17 = resF (s_tn st) (s_tf st) (s_tol st) := hw_19
        have hw_19 := hw_19.symm
        subst hw_19
        refine k_nrm (y := resF (s_tn st) (s_tf st) (s_tol st)) rfl ?_
        refine lv_i2l (v := (resF (s_tn st) (s_tf st) (s_tol st)).toInt64) hx hb dL_print0_148 rfl ?_
        refine lv_ladd hx hb dL_print0_149 ?_
        refine k_nrml (y := (pR st)) (rfl) ?_
        refine lv_lstore_n (lv' := [(1, .long (pR st)), (3, .int (nI (s_k st))), (0, .ref (a 0))]) hx hb dL_print0_150 rfl hl (by decide) rfl (fun ls hl => ?_)
        refine lv_aload_n hx hb dL_print0_151 rfl (lv_at hl 2 rfl) ?_
        have ct := k_cut_TT (wp := []) (T := (WW a K KS st hs sc1v_18)) (wc := []) (wr := []) (tc := [(K, .int), (KS, .object "BarcodeWand$State")]) hG hS hA hK hP hD [] [] [0, 1] rfl rfl (by decide) (by decide) (by decide) rfl
        refine k_endi (As := [.ref (a 0)]) ct (k_runV (As := []) (rest := []) S0 Lv_L_96 rfl (ci := 7) (q0 := 0) rfl (WW_0 a K KS st hs sc1v_18) ct (c_B_elements l D a K KS st hs sc1v_18 H.size) hl.1 rfl (Nat.le_of_ble_eq_true rfl) rfl dL_print0_152 ⟨⟨Nat.le_of_ble_eq_true rfl, Nat.le_of_ble_eq_true rfl⟩, Nat.le_of_ble_eq_true rfl, Nat.le_of_ble_eq_true rfl⟩) rfl rfl (fun r_20 _ H locs hw_21 hP hD hK hS => ?_)
        have hK : va_K D vwCl [(K, .int), (KS, .object "BarcodeWand$State")] s := hK
        have hP : va_P D vwCl ((WW a K KS st hs sc1v_18)) H := hP
        have hD : va_D A ((WW a K KS st hs sc1v_18)) := hD
        have hw_21 : r_20 = (nI (s_ns st)) := hw_21
        have hw_21 := hw_21.symm
        subst hw_21
        refine k_nrm (y := (nI (s_ns st))) rfl ?_
        refine lv_if_ne (tgt := 162) hx hb dL_print0_155 (by decide) (fun c_22 => ?_) (fun c_22 => ?_)
        · have hc9 := c_22
          refine lv_ldc2 (v := 31) hx hb hown (ht _ lx_L_142) dL_print0_162 ?_
          refine lv_lload_n hx hb dL_print0_165 rfl (lv_at hl 0 rfl) ?_
          refine lv_lmul hx hb dL_print0_166 ?_
          refine k_nrml (y := (31 * pR st)) (rfl) ?_
          refine lv_aload_n hx hb dL_print0_167 rfl (lv_at hl 2 rfl) ?_
          refine lv_bipush (v := 13) hx hb dL_print0_168 (by decide) ?_
          refine lv_bipush (v := 9) hx hb dL_print0_170 (by decide) ?_
          refine lv_iconst (v := 0) hx hb dL_print0_172 (by decide) ?_
          have ct := k_cut_TT (wp := []) (T := (WW a K KS st hs sc1v_18)) (wc := []) (wr := []) (tc := [(K, .int), (KS, .object "BarcodeWand$State")]) hG hS hA hK hP hD [] [] [0, 1] rfl rfl (by decide) (by decide) (by decide) rfl
          refine k_endi (As := [.ref (a 0), .int 13, .int 9, .int 0]) ct (k_runSW (As := [.ref (a 0), .int 13, .int 9, .int 0]) (rest := [.long (31 * pR st)]) S0 Ls_L_151 ct (c_L_ifDrawn l D a K KS st hs sc1v_18 13 9 0 (by assumption) (by unfold k_per; decide) (fun q9 => c_22 (by rw [q9]; rfl)) H.size) hl.1 rfl (Nat.le_of_ble_eq_true rfl) rfl dL_print0_173 ⟨⟨Nat.le_of_ble_eq_true rfl, Nat.le_of_ble_eq_true rfl⟩, Nat.le_of_ble_eq_true rfl, Nat.le_of_ble_eq_true rfl⟩) rfl rfl (fun r_23 sc1v_24 H locs hw_25 hP hD hK hS => ?_)
          have hK : va_K D vwCl [(K, .int), (KS, .object "BarcodeWand$State")] s := hK
          have hP : va_P D vwCl ((WW a K KS st hs sc1v_24)) H := hP
          have hD : va_D A ((WW a K KS st hs sc1v_24)) := hD
          have hw_25 : r_23 = resF (s_ns st) (s_drw st 13 9 0) (s_tol st) := hw_25
          have hw_25 := hw_25.symm
          subst hw_25
          refine k_nrm (y := resF (s_ns st) (s_drw st 13 9 0) (s_tol st)) rfl ?_
          refine lv_i2l (v := (resF (s_ns st) (s_drw st 13 9 0) (s_tol st)).toInt64) hx hb dL_print0_176 rfl ?_
          refine lv_ladd hx hb dL_print0_177 ?_
          refine k_nrml (y := (P0 st)) ((P0_1 (fun q9 => c_22 (by rw [q9]; rfl))).symm) ?_
          have hP9 : va_P D vwCl ((WW a K KS st hs sc1v_24)) H := k_subP (wp := []) (wp' := []) (T := (WW a K KS st hs sc1v_24)) hP [] rfl
          have hD9 : va_D A ((WW a K KS st hs sc1v_24)) := k_subD (wp := []) (wp' := []) (T := (WW a K KS st hs sc1v_24)) hD [] (by decide) rfl
          have hP9 : va_P D vwCl ((WW a K KS st hs sc1v_24)) H := hP9
          have hD9 : va_D A ((WW a K KS st hs sc1v_24)) := hD9
          have hK9 : va_K D vwCl [] s := hK.sub [] rfl
          exact W.lret (v := (P0 st)) hx hb hr (fun t ht9 hW9 => ⟨⟨(P0 st), sc1v_24, rfl, by rfl, ⟨by rw [ht9]; exact hP9, va_K.moved hW9.alike hK9, hD9⟩⟩, hS.F ht9⟩) hS.2.2 dL_print0_178
        · have hc9 := c_22
          refine lv_lload_n hx hb dL_print0_158 rfl (lv_at hl 0 rfl) ?_
          refine lv_goto (tgt := 178) hx hb dL_print0_159 (by decide) ?_
          have hP9 : va_P D vwCl ((WW a K KS st hs sc1v_18)) H := k_subP (wp := []) (wp' := []) (T := (WW a K KS st hs sc1v_18)) hP [] rfl
          have hD9 : va_D A ((WW a K KS st hs sc1v_18)) := k_subD (wp := []) (wp' := []) (T := (WW a K KS st hs sc1v_18)) hD [] (by decide) rfl
          have hP9 : va_P D vwCl ((WW a K KS st hs sc1v_18)) H := hP9
          have hD9 : va_D A ((WW a K KS st hs sc1v_18)) := hD9
          have hK9 : va_K D vwCl [] s := hK.sub [] rfl
          exact W.lret (v := (pR st)) hx hb hr (fun t ht9 hW9 => ⟨⟨(pR st), sc1v_18, rfl, by exact (P0_0 (nz_0 hb2 c_22)).symm, ⟨by rw [ht9]; exact hP9, va_K.moved hW9.alike hK9, hD9⟩⟩, hS.F ht9⟩) hS.2.2 dL_print0_178
      · have hc9 := c_16
        have hik : i + 1 ≤ (s_k st) := by rcases Nat.lt_or_ge i (s_k st) with q9 | q9; exact q9; exact absurd (nI_le q9 (by omega)) c_16
        refine lv_ldc2 (v := 31) hx hb hown (ht _ lx_L_142) dL_print0_96 ?_
        refine lv_lload_n hx hb dL_print0_99 rfl (lv_at hl 1 rfl) ?_
        refine lv_lmul hx hb dL_print0_100 ?_
        refine k_nrml (y := (31 * pC st i)) (rfl) ?_
        refine lv_aload_n hx hb dL_print0_101 rfl (lv_at hl 2 rfl) ?_
        refine lv_iload_n hx hb dL_print0_102 rfl (lv_at hl 0 rfl) ?_
        have ct := k_cut_TT (wp := []) (T := (WW a K KS st hs z)) (wc := []) (wr := []) (tc := [(K, .int), (KS, .object "BarcodeWand$State")]) hG hS hA hK hP hD [] [] [0, 1] rfl rfl (by decide) (by decide) (by decide) rfl
        refine k_endi (As := [.ref (a 0), .int (nI i)]) ct (k_runSW (As := [.ref (a 0), .int (nI i)]) (rest := [.long (31 * pC st i)]) S0 Ls_L_125 ct (c_L_code l D a K KS st hs z (nI i) (inR_in hik (by omega)) H.size) hl.1 rfl (Nat.le_of_ble_eq_true rfl) rfl dL_print0_103 ⟨⟨Nat.le_of_ble_eq_true rfl, Nat.le_of_ble_eq_true rfl⟩, Nat.le_of_ble_eq_true rfl, Nat.le_of_ble_eq_true rfl⟩) rfl rfl (fun r_26 _ H locs hw_27 hP hD hK hS => ?_)
        have hK : va_K D vwCl [(K, .int), (KS, .object "BarcodeWand$State")] s := hK
        have hP : va_P D vwCl ((WW a K KS st hs z)) H := hP
        have hD : va_D A ((WW a K KS st hs z)) := hD
        have hw_27 : r_26 = (rowAt 10 (nI (s_k st)) (s_f st) (nI i)) := hw_27
        have hw_27 := hw_27.symm
        subst hw_27
        refine k_nrm (y := (rowAt 10 (nI (s_k st)) (s_f st) (nI i))) rfl ?_
        refine lv_i2l (v := (rowAt 10 (nI (s_k st)) (s_f st) (nI i)).toInt64) hx hb dL_print0_106 rfl ?_
        refine lv_ladd hx hb dL_print0_107 ?_
        refine k_nrml (y := (31 * pC st i + (rowAt 10 (nI (s_k st)) (s_f st) (nI i)).toInt64)) (rfl) ?_
        refine lv_lstore_n (lv' := [(1, .long (31 * pC st i + (rowAt 10 (nI (s_k st)) (s_f st) (nI i)).toInt64)), (3, .int (nI i)), (0, .ref (a 0))]) hx hb dL_print0_108 rfl hl (by decide) rfl (fun ls hl => ?_)
        refine lv_ldc2 (v := 31) hx hb hown (ht _ lx_L_142) dL_print0_109 ?_
        refine lv_lload_n hx hb dL_print0_112 rfl (lv_at hl 0 rfl) ?_
        refine lv_lmul hx hb dL_print0_113 ?_
        refine k_nrml (y := (31 * (31 * pC st i + (rowAt 10 (nI (s_k st)) (s_f st) (nI i)).toInt64))) (rfl) ?_
        refine lv_ldc2 (v := 50) hx hb hown (ht _ lx_L_149) dL_print0_114 ?_
        refine lv_aload_n hx hb dL_print0_117 rfl (lv_at hl 2 rfl) ?_
        refine lv_iload_n hx hb dL_print0_118 rfl (lv_at hl 1 rfl) ?_
        have ct := k_cut_TT (wp := []) (T := (WW a K KS st hs z)) (wc := []) (wr := []) (tc := [(K, .int), (KS, .object "BarcodeWand$State")]) hG hS hA hK hP hD [] [] [0, 1] rfl rfl (by decide) (by decide) (by decide) rfl
        refine k_endi (As := [.ref (a 0), .int (nI i)]) ct (k_runSW (As := [.ref (a 0), .int (nI i)]) (rest := [.long 50, .long (31 * (31 * pC st i + (rowAt 10 (nI (s_k st)) (s_f st) (nI i)).toInt64))]) S0 Ls_L_123 ct (c_L_codeLength l D a K KS st hs z (nI i) (inR_in hik (by omega)) H.size) hl.1 rfl (Nat.le_of_ble_eq_true rfl) rfl dL_print0_119 ⟨⟨Nat.le_of_ble_eq_true rfl, Nat.le_of_ble_eq_true rfl⟩, Nat.le_of_ble_eq_true rfl, Nat.le_of_ble_eq_true rfl⟩) rfl rfl (fun r_28 _ H locs hw_29 hP hD hK hS => ?_)
        have hK : va_K D vwCl [(K, .int), (KS, .object "BarcodeWand$State")] s := hK
        have hP : va_P D vwCl ((WW a K KS st hs z)) H := hP
        have hD : va_D A ((WW a K KS st hs z)) := hD
        have hw_29 : r_28 = (rowAt 10 (nI (s_k st)) (s_g st) (nI i)) := hw_29
        have hw_29 := hw_29.symm
        subst hw_29
        refine k_nrm (y := (rowAt 10 (nI (s_k st)) (s_g st) (nI i))) rfl ?_
        refine lv_i2l (v := (rowAt 10 (nI (s_k st)) (s_g st) (nI i)).toInt64) hx hb dL_print0_122 rfl ?_
        refine lv_lmul hx hb dL_print0_123 ?_
        refine k_nrml (y := (50 * (rowAt 10 (nI (s_k st)) (s_g st) (nI i)).toInt64)) (rfl) ?_
        refine lv_ladd hx hb dL_print0_124 ?_
        refine k_nrml (y := (31 * (31 * pC st i + (rowAt 10 (nI (s_k st)) (s_f st) (nI i)).toInt64) + 50 * (rowAt 10 (nI (s_k st)) (s_g st) (nI i)).toInt64)) (rfl) ?_
        refine lv_aload_n hx hb dL_print0_125 rfl (lv_at hl 2 rfl) ?_
        refine lv_iload_n hx hb dL_print0_126 rfl (lv_at hl 1 rfl) ?_
        have ct := k_cut_TT (wp := []) (T := (WW a K KS st hs z)) (wc := []) (wr := []) (tc := [(K, .int), (KS, .object "BarcodeWand$State")]) hG hS hA hK hP hD [] [] [0, 1] rfl rfl (by decide) (by decide) (by decide) rfl
        refine k_endi (As := [.ref (a 0), .int (nI i)]) ct (k_runSW (As := [.ref (a 0), .int (nI i)]) (rest := [.long (31 * (31 * pC st i + (rowAt 10 (nI (s_k st)) (s_f st) (nI i)).toInt64) + 50 * (rowAt 10 (nI (s_k st)) (s_g st) (nI i)).toInt64)]) S0 Ls_L_127 ct (c_L_count l D a K KS st hs z (nI i) (inR_in hik (by omega)) H.size) hl.1 rfl (Nat.le_of_ble_eq_true rfl) rfl dL_print0_127 ⟨⟨Nat.le_of_ble_eq_true rfl, Nat.le_of_ble_eq_true rfl⟩, Nat.le_of_ble_eq_true rfl, Nat.le_of_ble_eq_true rfl⟩) rfl rfl (fun r_30 _ H locs hw_31 hP hD hK hS => ?_)
        have hK : va_K D vwCl [(K, .int), (KS, .object "BarcodeWand$State")] s := hK
        have hP : va_P D vwCl ((WW a K KS st hs z)) H := hP
        have hD : va_D A ((WW a K KS st hs z)) := hD
        have hw_31 : r_30 = (rowAt 10 (nI (s_k st)) (s_c st) (nI i)) := hw_31
        have hw_31 := hw_31.symm
        subst hw_31
        refine k_nrm (y := (rowAt 10 (nI (s_k st)) (s_c st) (nI i))) rfl ?_
        refine lv_i2l (v := (rowAt 10 (nI (s_k st)) (s_c st) (nI i)).toInt64) hx hb dL_print0_130 rfl ?_
        refine lv_ladd hx hb dL_print0_131 ?_
        refine k_nrml (y := (pC st (i + 1))) (rfl) ?_
        refine lv_lstore_n (lv' := [(1, .long (pC st (i + 1))), (3, .int (nI i)), (0, .ref (a 0))]) hx hb dL_print0_132 rfl hl (by decide) rfl (fun ls hl => ?_)
        obtain ⟨x_32, ex_32⟩ : ∃ z : Int32, z = (nI i) + 1 := ⟨_, rfl⟩
        refine lv_iinc (v := x_32) (lv' := [(3, .int x_32), (1, .long (pC st (i + 1))), (0, .ref (a 0))]) hx hb dL_print0_133 hl (k := 1) rfl (by rw [ex_32]; rfl) (by decide) rfl (fun ls hl => ?_)
        refine lv_goto (tgt := 88) hx hb dL_print0_136 (by decide) ?_
        have he9 : x_32 = (nI (i + 1)) := by rw [ex_32]; exact nI_1 i
        rw [he9] at hl
        have hl : lv_has ls 4 [(3, .int (nI (i + 1))), (1, .long (pC st (i + 1))), (0, .ref (a 0))] := hl
        exact ih9 (i + 1) H locs ls (by omega) ⟨hik, k_subP (wp := []) (wp' := []) (T := (WW a K KS st hs z)) hP [] rfl, k_subD (wp := []) (wp' := []) (T := (WW a K KS st hs z)) hD [] (by decide) rfl, hS, lv_sub hl [0, 1, 2] rfl⟩
    · have hc9 := c_13
      have hik : i + 1 ≤ (s_tn st) := by rcases Nat.lt_or_ge i (s_tn st) with q9 | q9; exact q9; exact absurd (nI_le q9 (by omega)) c_13
      refine lv_ldc2 (v := 31) hx hb hown (ht _ lx_L_142) dL_print0_67 ?_
      refine lv_lload_n hx hb dL_print0_70 rfl (lv_at hl 1 rfl) ?_
      refine lv_lmul hx hb dL_print0_71 ?_
      refine k_nrml (y := (31 * pT st i)) (rfl) ?_
      refine lv_aload_n hx hb dL_print0_72 rfl (lv_at hl 2 rfl) ?_
      refine lv_iload_n hx hb dL_print0_73 rfl (lv_at hl 0 rfl) ?_
      have ct := k_cut_TT (wp := []) (T := (WW a K KS st hs z)) (wc := []) (wr := []) (tc := [(K, .int), (KS, .object "BarcodeWand$State")]) hG hS hA hK hP hD [] [] [0, 1] rfl rfl (by decide) (by decide) (by decide) rfl
      refine k_endi (As := [.ref (a 0), .int (nI i)]) ct (k_runSW (As := [.ref (a 0), .int (nI i)]) (rest := [.long (31 * pT st i)]) S0 Ls_L_147 ct (c_L_time l D a K KS st hs z (nI i) (inR_in hik (by omega)) H.size) hl.1 rfl (Nat.le_of_ble_eq_true rfl) rfl dL_print0_74 ⟨⟨Nat.le_of_ble_eq_true rfl, Nat.le_of_ble_eq_true rfl⟩, Nat.le_of_ble_eq_true rfl, Nat.le_of_ble_eq_true rfl⟩) rfl rfl (fun r_33 _ H locs hw_34 hP hD hK hS => ?_)
      have hK : va_K D vwCl [(K, .int), (KS, .object "BarcodeWand$State")] s := hK
      have hP : va_P D vwCl ((WW a K KS st hs z)) H := hP
      have hD : va_D A ((WW a K KS st hs z)) := hD
      have hw_34 : r_33 = (rowAt 41 (nI (s_tn st)) (s_tf st) (nI i)) := hw_34
      have hw_34 := hw_34.symm
      subst hw_34
      refine k_nrm (y := (rowAt 41 (nI (s_tn st)) (s_tf st) (nI i))) rfl ?_
      refine lv_i2l (v := (rowAt 41 (nI (s_tn st)) (s_tf st) (nI i)).toInt64) hx hb dL_print0_77 rfl ?_
      refine lv_ladd hx hb dL_print0_78 ?_
      refine k_nrml (y := (pT st (i + 1))) (rfl) ?_
      refine lv_lstore_n (lv' := [(1, .long (pT st (i + 1))), (3, .int (nI i)), (0, .ref (a 0))]) hx hb dL_print0_79 rfl hl (by decide) rfl (fun ls hl => ?_)
      obtain ⟨x_35, ex_35⟩ : ∃ z : Int32, z = (nI i) + 1 := ⟨_, rfl⟩
      refine lv_iinc (v := x_35) (lv' := [(3, .int x_35), (1, .long (pT st (i + 1))), (0, .ref (a 0))]) hx hb dL_print0_80 hl (k := 1) rfl (by rw [ex_35]; rfl) (by decide) rfl (fun ls hl => ?_)
      refine lv_goto (tgt := 59) hx hb dL_print0_83 (by decide) ?_
      have he9 : x_35 = (nI (i + 1)) := by rw [ex_35]; exact nI_1 i
      rw [he9] at hl
      have hl : lv_has ls 4 [(3, .int (nI (i + 1))), (1, .long (pT st (i + 1))), (0, .ref (a 0))] := hl
      exact ih9 ((i + 1, z)) H locs ls (by omega) ⟨hik, k_subP (wp := []) (wp' := []) (T := (WW a K KS st hs z)) hP [] rfl, k_subD (wp := []) (wp' := []) (T := (WW a K KS st hs z)) hD [] (by decide) rfl, hS, lv_sub hl [0, 1, 2] rfl⟩
  · have hc9 := c_7
    have hik : i + 1 ≤ (s_ns st) := by rcases Nat.lt_or_ge i (s_ns st) with q9 | q9; exact q9; exact absurd (nI_le q9 (by omega)) c_7
    refine lv_ldc2 (v := 31) hx hb hown (ht _ lx_L_142) dL_print0_26 ?_
    refine lv_lload_n hx hb dL_print0_29 rfl (lv_at hl 1 rfl) ?_
    refine lv_lmul hx hb dL_print0_30 ?_
    refine k_nrml (y := (31 * pE st i)) (rfl) ?_
    refine lv_aload_n hx hb dL_print0_31 rfl (lv_at hl 2 rfl) ?_
    refine lv_iload_n hx hb dL_print0_32 rfl (lv_at hl 0 rfl) ?_
    have ct := k_cut_TT (wp := []) (T := (WW a K KS st hs sc)) (wc := []) (wr := []) (tc := [(K, .int), (KS, .object "BarcodeWand$State")]) hG hS hA hK hP hD [] [] [0, 1] rfl rfl (by decide) (by decide) (by decide) rfl
    refine k_endi (As := [.ref (a 0), .int (nI i)]) ct (k_runSW (As := [.ref (a 0), .int (nI i)]) (rest := [.long (31 * pE st i)]) S0 Ls_L_101 ct (c_L_width l D a K KS st hs sc (nI i) (inR_in hik (by omega)) H.size) hl.1 rfl (Nat.le_of_ble_eq_true rfl) rfl dL_print0_33 ⟨⟨Nat.le_of_ble_eq_true rfl, Nat.le_of_ble_eq_true rfl⟩, Nat.le_of_ble_eq_true rfl, Nat.le_of_ble_eq_true rfl⟩) rfl rfl (fun r_36 _ H locs hw_37 hP hD hK hS => ?_)
    have hK : va_K D vwCl [(K, .int), (KS, .object "BarcodeWand$State")] s := hK
    have hP : va_P D vwCl ((WW a K KS st hs sc)) H := hP
    have hD : va_D A ((WW a K KS st hs sc)) := hD
    have hw_37 : r_36 = (widF (s_nd st) (s_df st) (nI (s_ns st)) (nI i)) := hw_37
    have hw_37 := hw_37.symm
    subst hw_37
    refine k_nrm (y := (widF (s_nd st) (s_df st) (nI (s_ns st)) (nI i))) rfl ?_
    refine lv_i2l (v := (widF (s_nd st) (s_df st) (nI (s_ns st)) (nI i)).toInt64) hx hb dL_print0_36 rfl ?_
    refine lv_ladd hx hb dL_print0_37 ?_
    refine k_nrml (y := (pE st (i + 1))) (rfl) ?_
    refine lv_lstore_n (lv' := [(1, .long (pE st (i + 1))), (3, .int (nI i)), (0, .ref (a 0))]) hx hb dL_print0_38 rfl hl (by decide) rfl (fun ls hl => ?_)
    obtain ⟨x_38, ex_38⟩ : ∃ z : Int32, z = (nI i) + 1 := ⟨_, rfl⟩
    refine lv_iinc (v := x_38) (lv' := [(3, .int x_38), (1, .long (pE st (i + 1))), (0, .ref (a 0))]) hx hb dL_print0_39 hl (k := 1) rfl (by rw [ex_38]; rfl) (by decide) rfl (fun ls hl => ?_)
    refine lv_goto (tgt := 18) hx hb dL_print0_42 (by decide) ?_
    have he9 : x_38 = (nI (i + 1)) := by rw [ex_38]; exact nI_1 i
    rw [he9] at hl
    have hl : lv_has ls 4 [(3, .int (nI (i + 1))), (1, .long (pE st (i + 1))), (0, .ref (a 0))] := hl
    exact ih9 (i + 1) H locs ls (by omega) ⟨hik, k_subP (wp := []) (wp' := []) (T := (WW a K KS st hs sc)) hP [] rfl, k_subD (wp := []) (wp' := []) (T := (WW a K KS st hs sc)) hD [] (by decide) rfl, hS, lv_sub hl [0, 1, 2] rfl⟩
set_option maxHeartbeats 4000000 in
set_option maxRecDepth 100000 in
theorem c_L_label (l : Launch) (hst : l.stackTraces = false) (D : va_G) (a : Nat → Nat) (K : ClassId) (KS : ClassId) (st : ST) (hs : HT) (sc : SCT) (hbst : bST st) (hlab : labOk st) (sz : Nat) : k_Mi (S := Unit) l D yL_label cL_label 7 (some .boolean) 9 2 12 146 [.ref (a 0)] ((WW a K KS st hs sc)) [(K, .int), (KS, .object "BarcodeWand$State")] (fun (r : Int32) (_ : Unit) => r = 1) (fun _ => ((WW a K KS st hs sc))) (fun _ => []) sz := by
  refine Met.ofW (cc := cL_label) (maxL := 7) (ret := (some .boolean)) (by decide) rfl ?_
  intro p e s m args below meth c s₁ B hml hv
  obtain ⟨rfl, hsz, hP, hK, hD0, hG⟩ := hv
  have hx := B.exec
  have hb := B.bytes
  have hr := B.returns
  have ht : ∀ v9 ∈ wsA, v9.before ([.ref (a 0)] : List Value).toArray s = true := fun v9 h9 => atoms_spec (ws := k_ws yL_label cL_label 7 (some .boolean)) B.pre v9 (List.mem_cons_of_mem _ h9)
  have hown : s.vm.findClass RL = some m.cls := findClass_of_methodNamed B.named
  have S0 : k_C p s m ([.ref (a 0)] : List Value).toArray c cL_label 7 RL := ⟨hx, hb, hml, hown, ht⟩
  have hlocks := B.notSynchronized
  subst hsz
  have hD := hD0.self (sz := s.heap.size)
  generalize hAe : va_A ((WW a K KS st hs sc)) s.heap.size = A at hD hG ⊢
  have hA : ∀ q : Nat, s.heap.size ≤ q → A q := fun q h => by rw [← hAe]; exact Or.inr h
  have hS : va_S A s.heap s.heap [] := va_S.rf
  have hl := lv_entry ([.ref (a 0)]) (n := 7) (Nat.le_of_ble_eq_true rfl)
  rw [lg_entry_eq]
  generalize (lg_sl ([.ref (a 0)]) ++ List.replicate (7 - (lg_sl ([.ref (a 0)])).length) Slot.unset).toArray = ls at hl ⊢
  have hl : lv_has ls 7 [(0, .ref (a 0))] := hl
  have hP : va_P D vwCl ((WW a K KS st hs sc)) s.heap := hP
  obtain ⟨hb1, hb2, hb3, hb4⟩ := bST_le hbst
  rcases hlab with ⟨hn0, hs0⟩ | ⟨h2, h9, hs5, hdg, hzm, hck⟩
  · skip
    refine lv_aload_n hx hb dL_label_0 rfl (lv_at hl 0 rfl) ?_
    have ct := k_cut_TT (wp := []) (T := (WW a K KS st hs sc)) (wc := []) (wr := []) (tc := [(K, .int), (KS, .object "BarcodeWand$State")]) hG hS hA hK hP hD [] [] [0, 1] rfl rfl (by decide) (by decide) (by decide) rfl
    refine k_endi (As := [.ref (a 0)]) ct (k_runV (As := []) (rest := []) S0 Lv_L_96 rfl (ci := 7) (q0 := 0) rfl (WW_0 a K KS st hs sc) ct (c_B_elements l D a K KS st hs sc s.heap.size) hl.1 rfl (Nat.le_of_ble_eq_true rfl) rfl dL_label_1 ⟨⟨Nat.le_of_ble_eq_true rfl, Nat.le_of_ble_eq_true rfl⟩, Nat.le_of_ble_eq_true rfl, Nat.le_of_ble_eq_true rfl⟩) rfl rfl (fun r_1 _ H locs hw_2 hP hD hK hS => ?_)
    have hK : va_K D vwCl [(K, .int), (KS, .object "BarcodeWand$State")] s := hK
    have hP : va_P D vwCl ((WW a K KS st hs sc)) H := hP
    have hD : va_D A ((WW a K KS st hs sc)) := hD
    have hw_2 : r_1 = (nI (s_ns st)) := hw_2
    have hw_2 := hw_2.symm
    subst hw_2
    refine k_nrm (y := (nI (s_ns st))) rfl ?_
    refine lv_istore_n (lv' := [(1, .int (nI (s_ns st))), (0, .ref (a 0))]) hx hb dL_label_4 rfl hl (by decide) rfl (fun ls hl => ?_)
    refine lv_iload_n hx hb dL_label_5 rfl (lv_at hl 0 rfl) ?_
    refine lv_if_ne (tgt := 35) hx hb dL_label_6 (by decide) (fun c9 => absurd (by rw [hs0]; rfl) c9) (fun c_3 => ?_)
    refine lv_aload_n hx hb dL_label_9 rfl (lv_at hl 1 rfl) ?_
    refine lv_iconst (v := 0) hx hb dL_label_10 (by decide) ?_
    have ct := k_cut_TT (wp := []) (T := (WW a K KS st hs sc)) (wc := []) (wr := []) (tc := [(K, .int), (KS, .object "BarcodeWand$State")]) hG hS hA hK hP hD [] [] [0, 1] rfl rfl (by decide) (by decide) (by decide) rfl
    refine k_endi (As := [.ref (a 0), .int 0]) ct (k_runSW (As := [.ref (a 0), .int 0]) (rest := []) S0 Ls_L_99 ct (c_L_labelDigitX l hst D a K KS st hs sc 0 (by rw [hn0]; decide) H.size) hl.1 rfl (Nat.le_of_ble_eq_true rfl) rfl dL_label_11 ⟨⟨Nat.le_of_ble_eq_true rfl, Nat.le_of_ble_eq_true rfl⟩, Nat.le_of_ble_eq_true rfl, Nat.le_of_ble_eq_true rfl⟩) rfl rfl (fun r_4 _ H locs hw_5 hP hD hK hS => ?_)
    have hK : va_K D vwCl [(K, .int), (KS, .object "BarcodeWand$State")] s := hK
    have hP : va_P D vwCl ((WW a K KS st hs sc)) H := hP
    have hD : va_D A ((WW a K KS st hs sc)) := hD
    have hw_5 : r_4 = (-1000001) := hw_5
    have hw_5 := hw_5.symm
    subst hw_5
    refine k_nrm (y := (-1000001)) rfl ?_
    refine lv_ldc (v := (-1000001)) hx hb hown (ht _ lx_L_18) dL_label_14 ?_
    refine lv_icmp_ne (tgt := 33) hx hb dL_label_16 (by decide) (fun c9 => absurd (by decide) c9) (fun _ => ?_)
    refine lv_aload_n hx hb dL_label_19 rfl (lv_at hl 1 rfl) ?_
    refine lv_iconst (v := 0) hx hb dL_label_20 (by decide) ?_
    have ct := k_cut_TT (wp := []) (T := (WW a K KS st hs sc)) (wc := []) (wr := []) (tc := [(K, .int), (KS, .object "BarcodeWand$State")]) hG hS hA hK hP hD [] [] [0, 1] rfl rfl (by decide) (by decide) (by decide) rfl
    refine k_endi (As := [.ref (a 0), .int 0]) ct (k_runSW (As := [.ref (a 0), .int 0]) (rest := []) S0 Ls_L_101 ct (c_L_widthX l hst D a K KS st hs sc 0 (by rw [hs0]; decide) H.size) hl.1 rfl (Nat.le_of_ble_eq_true rfl) rfl dL_label_21 ⟨⟨Nat.le_of_ble_eq_true rfl, Nat.le_of_ble_eq_true rfl⟩, Nat.le_of_ble_eq_true rfl, Nat.le_of_ble_eq_true rfl⟩) rfl rfl (fun r_6 _ H locs hw_7 hP hD hK hS => ?_)
    have hK : va_K D vwCl [(K, .int), (KS, .object "BarcodeWand$State")] s := hK
    have hP : va_P D vwCl ((WW a K KS st hs sc)) H := hP
    have hD : va_D A ((WW a K KS st hs sc)) := hD
    have hw_7 : r_6 = (-1000001) := hw_7
    have hw_7 := hw_7.symm
    subst hw_7
    refine k_nrm (y := (-1000001)) rfl ?_
    refine lv_ldc (v := (-1000001)) hx hb hown (ht _ lx_L_18) dL_label_24 ?_
    refine lv_icmp_ne (tgt := 33) hx hb dL_label_26 (by decide) (fun c9 => absurd (by decide) c9) (fun _ => ?_)
    refine lv_iconst (v := 1) hx hb dL_label_29 (by decide) ?_
    refine lv_goto (tgt := 34) hx hb dL_label_30 (by decide) ?_
    have hP9 : va_P D vwCl ((WW a K KS st hs sc)) H := k_subP (wp := []) (wp' := []) (T := (WW a K KS st hs sc)) hP [] rfl
    have hD9 : va_D A ((WW a K KS st hs sc)) := k_subD (wp := []) (wp' := []) (T := (WW a K KS st hs sc)) hD [] (by decide) rfl
    have hP9 : va_P D vwCl ((WW a K KS st hs sc)) H := hP9
    have hD9 : va_D A ((WW a K KS st hs sc)) := hD9
    have hK9 : va_K D vwCl [] s := hK.sub [] rfl
    exact W.zret (v := 1) hx hb hr (rfl) (fun t ht9 hW9 => ⟨⟨1, (), rfl, by first | rfl | trivial | (simp only [c_3, if_true, if_false, reduceIte, and_self]; done) | simp_all, ⟨by rw [ht9]; exact hP9, va_K.moved hW9.alike hK9, hD9⟩⟩, hS.F ht9⟩) hS.2.2 dL_label_34
  · skip
    refine lv_aload_n hx hb dL_label_0 rfl (lv_at hl 0 rfl) ?_
    have ct := k_cut_TT (wp := []) (T := (WW a K KS st hs sc)) (wc := []) (wr := []) (tc := [(K, .int), (KS, .object "BarcodeWand$State")]) hG hS hA hK hP hD [] [] [0, 1] rfl rfl (by decide) (by decide) (by decide) rfl
    refine k_endi (As := [.ref (a 0)]) ct (k_runV (As := []) (rest := []) S0 Lv_L_96 rfl (ci := 7) (q0 := 0) rfl (WW_0 a K KS st hs sc) ct (c_B_elements l D a K KS st hs sc s.heap.size) hl.1 rfl (Nat.le_of_ble_eq_true rfl) rfl dL_label_1 ⟨⟨Nat.le_of_ble_eq_true rfl, Nat.le_of_ble_eq_true rfl⟩, Nat.le_of_ble_eq_true rfl, Nat.le_of_ble_eq_true rfl⟩) rfl rfl (fun r_8 _ H locs hw_9 hP hD hK hS => ?_)
    have hK : va_K D vwCl [(K, .int), (KS, .object "BarcodeWand$State")] s := hK
    have hP : va_P D vwCl ((WW a K KS st hs sc)) H := hP
    have hD : va_D A ((WW a K KS st hs sc)) := hD
    have hw_9 : r_8 = (nI (s_ns st)) := hw_9
    have hw_9 := hw_9.symm
    subst hw_9
    refine k_nrm (y := (nI (s_ns st))) rfl ?_
    refine lv_istore_n (lv' := [(1, .int (nI (s_ns st))), (0, .ref (a 0))]) hx hb dL_label_4 rfl hl (by decide) rfl (fun ls hl => ?_)
    refine lv_iload_n hx hb dL_label_5 rfl (lv_at hl 0 rfl) ?_
    refine lv_if_ne (tgt := 35) hx hb dL_label_6 (by decide) (fun c_10 => ?_) (fun c9 => absurd c9 (fun q9 => absurd (nz_0 hb2 q9) (by omega)))
    refine lv_iload_n hx hb dL_label_35 rfl (lv_at hl 0 rfl) ?_
    refine lv_iconst (v := 5) hx hb dL_label_36 (by decide) ?_
    refine lv_isub hx hb dL_label_37 ?_
    refine k_nrm (y := (nI (s_ns st) - 5)) (rfl) ?_
    refine lv_iconst (v := 4) hx hb dL_label_38 (by decide) ?_
    refine lv_idiv hx hb dL_label_39 (by decide) ?_
    refine k_nrm (y := (nI (s_nd st))) (lab_n h9 hs5) ?_
    refine lv_istore_n (lv' := [(2, .int (nI (s_nd st))), (1, .int (nI (s_ns st))), (0, .ref (a 0))]) hx hb dL_label_40 rfl hl (by decide) rfl (fun ls hl => ?_)
    refine lv_iconst (v := 0) hx hb dL_label_41 (by decide) ?_
    refine lv_istore_n (lv' := [(3, .int 0), (2, .int (nI (s_nd st))), (1, .int (nI (s_ns st))), (0, .ref (a 0))]) hx hb dL_label_42 rfl hl (by decide) rfl (fun ls hl => ?_)
    refine lv_iconst (v := 0) hx hb dL_label_43 (by decide) ?_
    refine lv_istore (lv' := [(4, .int 0), (3, .int 0), (2, .int (nI (s_nd st))), (1, .int (nI (s_ns st))), (0, .ref (a 0))]) hx hb dL_label_44 hl (by decide) rfl (fun ls hl => ?_)
    have hl : lv_has ls 7 [(4, .int (nI 0)), (3, .int 0), (2, .int (nI (s_nd st))), (1, .int (nI (s_ns st))), (0, .ref (a 0))] := hl
    have hl : lv_has ls 7 [(4, .int (nI 0)), (3, .int (lS (s_df st) (s_nd st) 0)), (2, .int (nI (s_nd st))), (1, .int (nI (s_ns st))), (0, .ref (a 0))] := hl
    refine k_loop (ι := Nat) (fun (i : Nat) H9 locs9 ls9 => (i ≤ s_nd st) ∧ va_P D vwCl ((WW a K KS st hs sc)) H9 ∧ va_D A ((WW a K KS st hs sc)) ∧ va_S A s.heap H9 locs9 ∧ lv_has ls9 7 [(4, .int (nI i)), (3, .int (lS (s_df st) (s_nd st) i)), (2, .int (nI (s_nd st))), (1, .int (nI (s_ns st))), (0, .ref (a 0))]) (fun (i : Nat) => s_nd st - i) ?_ (0) ⟨(Nat.zero_le _), k_subP (wp := []) (wp' := []) (T := (WW a K KS st hs sc)) hP [] rfl, k_subD (wp := []) (wp' := []) (T := (WW a K KS st hs sc)) hD [] (by decide) rfl, hS, lv_sub hl [0, 1, 2, 3, 4] rfl⟩
    intro x9 H locs ls hF9 ih9
    obtain ⟨i, hv9⟩ : ∃ z, z = x9 := ⟨_, rfl⟩
    subst hv9
    obtain ⟨hi, hP, hD, hS, hl⟩ := hF9
    try dsimp only at ih9
    have hP : va_P D vwCl ((WW a K KS st hs sc)) H := hP
    have hD : va_D A ((WW a K KS st hs sc)) := hD
    have hl : lv_has ls 7 [(4, .int (nI i)), (3, .int (lS (s_df st) (s_nd st) i)), (2, .int (nI (s_nd st))), (1, .int (nI (s_ns st))), (0, .ref (a 0))] := hl
    refine lv_iload hx hb dL_label_46 (lv_at hl 0 rfl) ?_
    refine lv_iload_n hx hb dL_label_48 rfl (lv_at hl 2 rfl) ?_
    refine lv_icmp_ge (tgt := 152) hx hb dL_label_49 (by decide) (fun c_11 => ?_) (fun c_11 => ?_)
    · have hc9 := c_11
      obtain rfl : (s_nd st) = i := by rcases Nat.lt_or_ge i (s_nd st) with q9 | q9; exact absurd c_11 (nI_ge q9 (by omega)); omega
      refine lv_iload_n hx hb dL_label_152 rfl (lv_at hl 3 rfl) ?_
      refine lv_iconst (v := 4) hx hb dL_label_153 (by decide) ?_
      refine lv_iload_n hx hb dL_label_154 rfl (lv_at hl 2 rfl) ?_
      refine lv_imul hx hb dL_label_155 ?_
      refine k_nrm (y := (nI (4 * s_nd st))) (pk_mul 4 _) ?_
      refine lv_iconst (v := 5) hx hb dL_label_156 (by decide) ?_
      refine lv_iadd hx hb dL_label_157 ?_
      refine k_nrm (y := (nI (4 * s_nd st + 5))) (nI_add _ 5) ?_
      refine lv_icmp_ne (tgt := 246) hx hb dL_label_158 (by decide) (fun c9 => absurd (congrArg nI hs5) c9) (fun c_12 => ?_)
      refine lv_iload_n hx hb dL_label_161 rfl (lv_at hl 2 rfl) ?_
      refine lv_iconst (v := 1) hx hb dL_label_162 (by decide) ?_
      refine lv_icmp_le (tgt := 246) hx hb dL_label_163 (by decide) (fun c9 => absurd c9 (nI_ge (a := 1) (b := s_nd st) (by omega) (by omega))) (fun c_13 => ?_)
      refine lv_iload_n hx hb dL_label_166 rfl (lv_at hl 2 rfl) ?_
      refine lv_bipush (v := 10) hx hb dL_label_167 (by decide) ?_
      refine lv_icmp_ge (tgt := 246) hx hb dL_label_169 (by decide) (fun c9 => absurd c9 (nI_ge (a := s_nd st) (b := 10) (by omega) (by decide))) (fun c_14 => ?_)
      refine lv_iload_n hx hb dL_label_172 rfl (lv_at hl 1 rfl) ?_
      refine lv_bipush (v := 10) hx hb dL_label_173 (by decide) ?_
      refine lv_irem hx hb dL_label_175 (by decide) ?_
      refine k_nrm (y := (rem10 (lS (s_df st) (s_nd st) (s_nd st)))) (rfl) ?_
      refine lv_if_ne (tgt := 246) hx hb dL_label_176 (by decide) (fun c9 => absurd (lS_rem (by omega) h9 (fun m hm => hdg m (by omega)) hck) c9) (fun c_15 => ?_)
      refine lv_aload_n hx hb dL_label_179 rfl (lv_at hl 4 rfl) ?_
      refine lv_iload_n hx hb dL_label_180 rfl (lv_at hl 2 rfl) ?_
      have ct := k_cut_TT (wp := []) (T := (WW a K KS st hs sc)) (wc := []) (wr := []) (tc := [(K, .int), (KS, .object "BarcodeWand$State")]) hG hS hA hK hP hD [] [] [0, 1] rfl rfl (by decide) (by decide) (by decide) rfl
      refine k_endi (As := [.ref (a 0), .int (nI (s_nd st))]) ct (k_runSW (As := [.ref (a 0), .int (nI (s_nd st))]) (rest := []) S0 Ls_L_99 ct (c_L_labelDigitX l hst D a K KS st hs sc (nI (s_nd st)) (inR_out (Nat.le_refl _) (by omega)) H.size) hl.1 rfl (Nat.le_of_ble_eq_true rfl) rfl dL_label_181 ⟨⟨Nat.le_of_ble_eq_true rfl, Nat.le_of_ble_eq_true rfl⟩, Nat.le_of_ble_eq_true rfl, Nat.le_of_ble_eq_true rfl⟩) rfl rfl (fun r_16 _ H locs hw_17 hP hD hK hS => ?_)
      have hK : va_K D vwCl [(K, .int), (KS, .object "BarcodeWand$State")] s := hK
      have hP : va_P D vwCl ((WW a K KS st hs sc)) H := hP
      have hD : va_D A ((WW a K KS st hs sc)) := hD
      have hw_17 : r_16 = (-1000001) := hw_17
      have hw_17 := hw_17.symm
      subst hw_17
      refine k_nrm (y := (-1000001)) rfl ?_
      refine lv_ldc (v := (-1000001)) hx hb hown (ht _ lx_L_18) dL_label_184 ?_
      refine lv_icmp_ne (tgt := 246) hx hb dL_label_186 (by decide) (fun c9 => absurd (by decide) c9) (fun _ => ?_)
      refine lv_aload_n hx hb dL_label_189 rfl (lv_at hl 4 rfl) ?_
      refine lv_iconst (v := 0) hx hb dL_label_190 (by decide) ?_
      have ct := k_cut_TT (wp := []) (T := (WW a K KS st hs sc)) (wc := []) (wr := []) (tc := [(K, .int), (KS, .object "BarcodeWand$State")]) hG hS hA hK hP hD [] [] [0, 1] rfl rfl (by decide) (by decide) (by decide) rfl
      refine k_endi (As := [.ref (a 0), .int 0]) ct (k_runSW (As := [.ref (a 0), .int 0]) (rest := []) S0 Ls_L_101 ct (c_L_width l D a K KS st hs sc 0 (inR_in (x := 0) (by omega) (by omega)) H.size) hl.1 rfl (Nat.le_of_ble_eq_true rfl) rfl dL_label_191 ⟨⟨Nat.le_of_ble_eq_true rfl, Nat.le_of_ble_eq_true rfl⟩, Nat.le_of_ble_eq_true rfl, Nat.le_of_ble_eq_true rfl⟩) rfl rfl (fun r_18 _ H locs hw_19 hP hD hK hS => ?_)
      have hK : va_K D vwCl [(K, .int), (KS, .object "BarcodeWand$State")] s := hK
      have hP : va_P D vwCl ((WW a K KS st hs sc)) H := hP
      have hD : va_D A ((WW a K KS st hs sc)) := hD
      have hw_19 : r_18 = (widF (s_nd st) (s_df st) (nI (s_ns st)) 0) := hw_19
      have hw_19 := hw_19.symm
      subst hw_19
      refine k_nrm (y := (widF (s_nd st) (s_df st) (nI (s_ns st)) 0)) rfl ?_
      refine k_nrm (y := 1) (wid_g (by decide)) ?_
      refine lv_aload_n hx hb dL_label_194 rfl (lv_at hl 4 rfl) ?_
      refine lv_iconst (v := 1) hx hb dL_label_195 (by decide) ?_
      have ct := k_cut_TT (wp := []) (T := (WW a K KS st hs sc)) (wc := []) (wr := []) (tc := [(K, .int), (KS, .object "BarcodeWand$State")]) hG hS hA hK hP hD [] [] [0, 1] rfl rfl (by decide) (by decide) (by decide) rfl
      refine k_endi (As := [.ref (a 0), .int 1]) ct (k_runSW (As := [.ref (a 0), .int 1]) (rest := [.int 1]) S0 Ls_L_101 ct (c_L_width l D a K KS st hs sc 1 (inR_in (x := 1) (by omega) (by omega)) H.size) hl.1 rfl (Nat.le_of_ble_eq_true rfl) rfl dL_label_196 ⟨⟨Nat.le_of_ble_eq_true rfl, Nat.le_of_ble_eq_true rfl⟩, Nat.le_of_ble_eq_true rfl, Nat.le_of_ble_eq_true rfl⟩) rfl rfl (fun r_20 _ H locs hw_21 hP hD hK hS => ?_)
      have hK : va_K D vwCl [(K, .int), (KS, .object "BarcodeWand$State")] s := hK
      have hP : va_P D vwCl ((WW a K KS st hs sc)) H := hP
      have hD : va_D A ((WW a K KS st hs sc)) := hD
      have hw_21 : r_20 = (widF (s_nd st) (s_df st) (nI (s_ns st)) 1) := hw_21
      have hw_21 := hw_21.symm
      subst hw_21
      refine k_nrm (y := (widF (s_nd st) (s_df st) (nI (s_ns st)) 1)) rfl ?_
      refine k_nrm (y := 1) (wid_g (by decide)) ?_
      refine lv_iadd hx hb dL_label_199 ?_
      refine k_nrm (y := 2) (by decide) ?_
      refine lv_aload_n hx hb dL_label_200 rfl (lv_at hl 4 rfl) ?_
      refine lv_iconst (v := 2) hx hb dL_label_201 (by decide) ?_
      have ct := k_cut_TT (wp := []) (T := (WW a K KS st hs sc)) (wc := []) (wr := []) (tc := [(K, .int), (KS, .object "BarcodeWand$State")]) hG hS hA hK hP hD [] [] [0, 1] rfl rfl (by decide) (by decide) (by decide) rfl
      refine k_endi (As := [.ref (a 0), .int 2]) ct (k_runSW (As := [.ref (a 0), .int 2]) (rest := [.int 2]) S0 Ls_L_101 ct (c_L_width l D a K KS st hs sc 2 (inR_in (x := 2) (by omega) (by omega)) H.size) hl.1 rfl (Nat.le_of_ble_eq_true rfl) rfl dL_label_202 ⟨⟨Nat.le_of_ble_eq_true rfl, Nat.le_of_ble_eq_true rfl⟩, Nat.le_of_ble_eq_true rfl, Nat.le_of_ble_eq_true rfl⟩) rfl rfl (fun r_22 _ H locs hw_23 hP hD hK hS => ?_)
      have hK : va_K D vwCl [(K, .int), (KS, .object "BarcodeWand$State")] s := hK
      have hP : va_P D vwCl ((WW a K KS st hs sc)) H := hP
      have hD : va_D A ((WW a K KS st hs sc)) := hD
      have hw_23 : r_22 = (widF (s_nd st) (s_df st) (nI (s_ns st)) 2) := hw_23
      have hw_23 := hw_23.symm
      subst hw_23
      refine k_nrm (y := (widF (s_nd st) (s_df st) (nI (s_ns st)) 2)) rfl ?_
      refine k_nrm (y := 1) (wid_g (by decide)) ?_
      refine lv_iadd hx hb dL_label_205 ?_
      refine k_nrm (y := 3) (by decide) ?_
      refine lv_iconst (v := 3) hx hb dL_label_206 (by decide) ?_
      refine lv_icmp_ne (tgt := 246) hx hb dL_label_207 (by decide) (fun c9 => absurd (by decide) c9) (fun _ => ?_)
      refine lv_aload_n hx hb dL_label_210 rfl (lv_at hl 4 rfl) ?_
      refine lv_iload_n hx hb dL_label_211 rfl (lv_at hl 3 rfl) ?_
      refine lv_iconst (v := 2) hx hb dL_label_212 (by decide) ?_
      refine lv_isub hx hb dL_label_213 ?_
      refine k_nrm (y := (nI (s_ns st) - 2)) (rfl) ?_
      have ct := k_cut_TT (wp := []) (T := (WW a K KS st hs sc)) (wc := []) (wr := []) (tc := [(K, .int), (KS, .object "BarcodeWand$State")]) hG hS hA hK hP hD [] [] [0, 1] rfl rfl (by decide) (by decide) (by decide) rfl
      refine k_endi (As := [.ref (a 0), .int (nI (s_ns st) - 2)]) ct (k_runSW (As := [.ref (a 0), .int (nI (s_ns st) - 2)]) (rest := []) S0 Ls_L_101 ct (c_L_width l D a K KS st hs sc (nI (s_ns st) - 2) (by rw [show nI (s_ns st) - 2 = nI (s_ns st - 2) from pk_sub (b := 2) (by omega)]; exact inR_in (by omega) (by omega)) H.size) hl.1 rfl (Nat.le_of_ble_eq_true rfl) rfl dL_label_214 ⟨⟨Nat.le_of_ble_eq_true rfl, Nat.le_of_ble_eq_true rfl⟩, Nat.le_of_ble_eq_true rfl, Nat.le_of_ble_eq_true rfl⟩) rfl rfl (fun r_24 _ H locs hw_25 hP hD hK hS => ?_)
      have hK : va_K D vwCl [(K, .int), (KS, .object "BarcodeWand$State")] s := hK
      have hP : va_P D vwCl ((WW a K KS st hs sc)) H := hP
      have hD : va_D A ((WW a K KS st hs sc)) := hD
      have hw_25 : r_24 = (widF (s_nd st) (s_df st) (nI (s_ns st)) (nI (s_ns st) - 2)) := hw_25
      have hw_25 := hw_25.symm
      subst hw_25
      refine k_nrm (y := (widF (s_nd st) (s_df st) (nI (s_ns st)) (nI (s_ns st) - 2))) rfl ?_
      refine k_nrm (y := 1) (wid_r (by omega) hb2).1 ?_
      refine lv_iconst (v := 1) hx hb dL_label_217 (by decide) ?_
      refine lv_icmp_ne (tgt := 246) hx hb dL_label_218 (by decide) (fun c9 => absurd (by decide) c9) (fun _ => ?_)
      refine lv_aload_n hx hb dL_label_221 rfl (lv_at hl 4 rfl) ?_
      refine lv_iload_n hx hb dL_label_222 rfl (lv_at hl 3 rfl) ?_
      refine lv_iconst (v := 1) hx hb dL_label_223 (by decide) ?_
      refine lv_isub hx hb dL_label_224 ?_
      refine k_nrm (y := (nI (s_ns st) - 1)) (rfl) ?_
      have ct := k_cut_TT (wp := []) (T := (WW a K KS st hs sc)) (wc := []) (wr := []) (tc := [(K, .int), (KS, .object "BarcodeWand$State")]) hG hS hA hK hP hD [] [] [0, 1] rfl rfl (by decide) (by decide) (by decide) rfl
      refine k_endi (As := [.ref (a 0), .int (nI (s_ns st) - 1)]) ct (k_runSW (As := [.ref (a 0), .int (nI (s_ns st) - 1)]) (rest := []) S0 Ls_L_101 ct (c_L_width l D a K KS st hs sc (nI (s_ns st) - 1) (by rw [show nI (s_ns st) - 1 = nI (s_ns st - 1) from pk_sub (b := 1) (by omega)]; exact inR_in (by omega) (by omega)) H.size) hl.1 rfl (Nat.le_of_ble_eq_true rfl) rfl dL_label_225 ⟨⟨Nat.le_of_ble_eq_true rfl, Nat.le_of_ble_eq_true rfl⟩, Nat.le_of_ble_eq_true rfl, Nat.le_of_ble_eq_true rfl⟩) rfl rfl (fun r_26 _ H locs hw_27 hP hD hK hS => ?_)
      have hK : va_K D vwCl [(K, .int), (KS, .object "BarcodeWand$State")] s := hK
      have hP : va_P D vwCl ((WW a K KS st hs sc)) H := hP
      have hD : va_D A ((WW a K KS st hs sc)) := hD
      have hw_27 : r_26 = (widF (s_nd st) (s_df st) (nI (s_ns st)) (nI (s_ns st) - 1)) := hw_27
      have hw_27 := hw_27.symm
      subst hw_27
      refine k_nrm (y := (widF (s_nd st) (s_df st) (nI (s_ns st)) (nI (s_ns st) - 1))) rfl ?_
      refine k_nrm (y := 2) (wid_r (by omega) hb2).2 ?_
      refine lv_iconst (v := 2) hx hb dL_label_228 (by decide) ?_
      refine lv_icmp_ne (tgt := 246) hx hb dL_label_229 (by decide) (fun c9 => absurd (by decide) c9) (fun _ => ?_)
      refine lv_aload_n hx hb dL_label_232 rfl (lv_at hl 4 rfl) ?_
      refine lv_iload_n hx hb dL_label_233 rfl (lv_at hl 3 rfl) ?_
      have ct := k_cut_TT (wp := []) (T := (WW a K KS st hs sc)) (wc := []) (wr := []) (tc := [(K, .int), (KS, .object "BarcodeWand$State")]) hG hS hA hK hP hD [] [] [0, 1] rfl rfl (by decide) (by decide) (by decide) rfl
      refine k_endi (As := [.ref (a 0), .int (nI (s_ns st))]) ct (k_runSW (As := [.ref (a 0), .int (nI (s_ns st))]) (rest := []) S0 Ls_L_101 ct (c_L_widthX l hst D a K KS st hs sc (nI (s_ns st)) (inR_out (Nat.le_refl _) (by omega)) H.size) hl.1 rfl (Nat.le_of_ble_eq_true rfl) rfl dL_label_234 ⟨⟨Nat.le_of_ble_eq_true rfl, Nat.le_of_ble_eq_true rfl⟩, Nat.le_of_ble_eq_true rfl, Nat.le_of_ble_eq_true rfl⟩) rfl rfl (fun r_28 _ H locs hw_29 hP hD hK hS => ?_)
      have hK : va_K D vwCl [(K, .int), (KS, .object "BarcodeWand$State")] s := hK
      have hP : va_P D vwCl ((WW a K KS st hs sc)) H := hP
      have hD : va_D A ((WW a K KS st hs sc)) := hD
      have hw_29 : r_28 = (-1000001) := hw_29
      have hw_29 := hw_29.symm
      subst hw_29
      refine k_nrm (y := (-1000001)) rfl ?_
      refine lv_ldc (v := (-1000001)) hx hb hown (ht _ lx_L_18) dL_label_237 ?_
      refine lv_icmp_ne (tgt := 246) hx hb dL_label_239 (by decide) (fun c9 => absurd (by decide) c9) (fun _ => ?_)
      refine lv_iconst (v := 1) hx hb dL_label_242 (by decide) ?_
      refine lv_goto (tgt := 247) hx hb dL_label_243 (by decide) ?_
      have hP9 : va_P D vwCl ((WW a K KS st hs sc)) H := k_subP (wp := []) (wp' := []) (T := (WW a K KS st hs sc)) hP [] rfl
      have hD9 : va_D A ((WW a K KS st hs sc)) := k_subD (wp := []) (wp' := []) (T := (WW a K KS st hs sc)) hD [] (by decide) rfl
      have hP9 : va_P D vwCl ((WW a K KS st hs sc)) H := hP9
      have hD9 : va_D A ((WW a K KS st hs sc)) := hD9
      have hK9 : va_K D vwCl [] s := hK.sub [] rfl
      exact W.zret (v := 1) hx hb hr (rfl) (fun t ht9 hW9 => ⟨⟨1, (), rfl, by first | rfl | trivial | (simp only [c_10, hi, c_11, c_12, c_13, c_14, c_15, if_true, if_false, reduceIte, and_self]; done) | simp_all, ⟨by rw [ht9]; exact hP9, va_K.moved hW9.alike hK9, hD9⟩⟩, hS.F ht9⟩) hS.2.2 dL_label_247
    · have hc9 := c_11
      have hik : i + 1 ≤ (s_nd st) := by rcases Nat.lt_or_ge i (s_nd st) with q9 | q9; exact q9; exact absurd (nI_le q9 (by omega)) c_11
      obtain ⟨d, hd, he⟩ := hdg i hik
      refine lv_iconst (v := 0) hx hb dL_label_52 (by decide) ?_
      refine lv_istore (lv' := [(5, .int 0), (4, .int (nI i)), (3, .int (lS (s_df st) (s_nd st) i)), (2, .int (nI (s_nd st))), (1, .int (nI (s_ns st))), (0, .ref (a 0))]) hx hb dL_label_53 hl (by decide) rfl (fun ls hl => ?_)
      refine lv_iconst (v := 0) hx hb dL_label_55 (by decide) ?_
      refine lv_istore (lv' := [(6, .int 0), (5, .int 0), (4, .int (nI i)), (3, .int (lS (s_df st) (s_nd st) i)), (2, .int (nI (s_nd st))), (1, .int (nI (s_ns st))), (0, .ref (a 0))]) hx hb dL_label_56 hl (by decide) rfl (fun ls hl => ?_)
      refine lv_iload hx hb dL_label_58 (lv_at hl 0 rfl) ?_
      refine lv_iconst (v := 4) hx hb dL_label_60 (by decide) ?_
      refine lv_icmp_ge (tgt := 88) hx hb dL_label_61 (by decide) (fun c9 => absurd c9 (by decide)) (fun _ => ?_)
      refine lv_iload hx hb dL_label_64 (lv_at hl 1 rfl) ?_
      refine lv_aload_n hx hb dL_label_66 rfl (lv_at hl 6 rfl) ?_
      refine lv_iconst (v := 3) hx hb dL_label_67 (by decide) ?_
      refine lv_iconst (v := 4) hx hb dL_label_68 (by decide) ?_
      refine lv_iload hx hb dL_label_69 (lv_at hl 2 rfl) ?_
      refine lv_imul hx hb dL_label_71 ?_
      refine k_nrm (y := (nI (4 * i))) (pk_mul 4 i) ?_
      refine lv_iadd hx hb dL_label_72 ?_
      refine k_nrm (y := (nI (3 + 4 * i))) (nI_add 3 (4 * i)) ?_
      refine lv_iload hx hb dL_label_73 (lv_at hl 0 rfl) ?_
      refine lv_iadd hx hb dL_label_75 ?_
      refine k_nrm (y := (nI (3 + 4 * i + 0))) (nI_add (3 + 4 * i) 0) ?_
      have ct := k_cut_TT (wp := []) (T := (WW a K KS st hs sc)) (wc := []) (wr := []) (tc := [(K, .int), (KS, .object "BarcodeWand$State")]) hG hS hA hK hP hD [] [] [0, 1] rfl rfl (by decide) (by decide) (by decide) rfl
      refine k_endi (As := [.ref (a 0), .int (nI (3 + 4 * i + 0))]) ct (k_runSW (As := [.ref (a 0), .int (nI (3 + 4 * i + 0))]) (rest := [.int 0]) S0 Ls_L_101 ct (c_L_width l D a K KS st hs sc (nI (3 + 4 * i + 0)) (inR_in (by omega) (by omega)) H.size) hl.1 rfl (Nat.le_of_ble_eq_true rfl) rfl dL_label_76 ⟨⟨Nat.le_of_ble_eq_true rfl, Nat.le_of_ble_eq_true rfl⟩, Nat.le_of_ble_eq_true rfl, Nat.le_of_ble_eq_true rfl⟩) rfl rfl (fun r_30 _ H locs hw_31 hP hD hK hS => ?_)
      have hK : va_K D vwCl [(K, .int), (KS, .object "BarcodeWand$State")] s := hK
      have hP : va_P D vwCl ((WW a K KS st hs sc)) H := hP
      have hD : va_D A ((WW a K KS st hs sc)) := hD
      have hw_31 : r_30 = (widF (s_nd st) (s_df st) (nI (s_ns st)) (nI (3 + 4 * i + 0))) := hw_31
      have hw_31 := hw_31.symm
      subst hw_31
      refine k_nrm (y := (widF (s_nd st) (s_df st) (nI (s_ns st)) (nI (3 + 4 * i + 0)))) rfl ?_
      refine k_nrm (y := wdt (4 * d + 0)) (wid_in h9 hs5 hik (by omega) hd he) ?_
      refine lv_iadd hx hb dL_label_79 ?_
      refine k_nrm (y := (0 + (wdt (4 * d + 0)))) (rfl) ?_
      refine lv_istore (lv' := [(5, .int (0 + (wdt (4 * d + 0)))), (6, .int 0), (4, .int (nI i)), (3, .int (lS (s_df st) (s_nd st) i)), (2, .int (nI (s_nd st))), (1, .int (nI (s_ns st))), (0, .ref (a 0))]) hx hb dL_label_80 hl (by decide) rfl (fun ls hl => ?_)
      refine lv_iinc (v := 1) (lv' := [(6, .int 1), (5, .int (0 + (wdt (4 * d + 0)))), (4, .int (nI i)), (3, .int (lS (s_df st) (s_nd st) i)), (2, .int (nI (s_nd st))), (1, .int (nI (s_ns st))), (0, .ref (a 0))]) hx hb dL_label_82 hl (k := 1) rfl (by decide) (by decide) rfl (fun ls hl => ?_)
      refine lv_goto (tgt := 58) hx hb dL_label_85 (by decide) ?_
      refine lv_iload hx hb dL_label_58 (lv_at hl 0 rfl) ?_
      refine lv_iconst (v := 4) hx hb dL_label_60 (by decide) ?_
      refine lv_icmp_ge (tgt := 88) hx hb dL_label_61 (by decide) (fun c9 => absurd c9 (by decide)) (fun _ => ?_)
      refine lv_iload hx hb dL_label_64 (lv_at hl 1 rfl) ?_
      refine lv_aload_n hx hb dL_label_66 rfl (lv_at hl 6 rfl) ?_
      refine lv_iconst (v := 3) hx hb dL_label_67 (by decide) ?_
      refine lv_iconst (v := 4) hx hb dL_label_68 (by decide) ?_
      refine lv_iload hx hb dL_label_69 (lv_at hl 2 rfl) ?_
      refine lv_imul hx hb dL_label_71 ?_
      refine k_nrm (y := (nI (4 * i))) (pk_mul 4 i) ?_
      refine lv_iadd hx hb dL_label_72 ?_
      refine k_nrm (y := (nI (3 + 4 * i))) (nI_add 3 (4 * i)) ?_
      refine lv_iload hx hb dL_label_73 (lv_at hl 0 rfl) ?_
      refine lv_iadd hx hb dL_label_75 ?_
      refine k_nrm (y := (nI (3 + 4 * i + 1))) (nI_add (3 + 4 * i) 1) ?_
      have ct := k_cut_TT (wp := []) (T := (WW a K KS st hs sc)) (wc := []) (wr := []) (tc := [(K, .int), (KS, .object "BarcodeWand$State")]) hG hS hA hK hP hD [] [] [0, 1] rfl rfl (by decide) (by decide) (by decide) rfl
      refine k_endi (As := [.ref (a 0), .int (nI (3 + 4 * i + 1))]) ct (k_runSW (As := [.ref (a 0), .int (nI (3 + 4 * i + 1))]) (rest := [.int (0 + (wdt (4 * d + 0)))]) S0 Ls_L_101 ct (c_L_width l D a K KS st hs sc (nI (3 + 4 * i + 1)) (inR_in (by omega) (by omega)) H.size) hl.1 rfl (Nat.le_of_ble_eq_true rfl) rfl dL_label_76 ⟨⟨Nat.le_of_ble_eq_true rfl, Nat.le_of_ble_eq_true rfl⟩, Nat.le_of_ble_eq_true rfl, Nat.le_of_ble_eq_true rfl⟩) rfl rfl (fun r_32 _ H locs hw_33 hP hD hK hS => ?_)
      have hK : va_K D vwCl [(K, .int), (KS, .object "BarcodeWand$State")] s := hK
      have hP : va_P D vwCl ((WW a K KS st hs sc)) H := hP
      have hD : va_D A ((WW a K KS st hs sc)) := hD
      have hw_33 : r_32 = (widF (s_nd st) (s_df st) (nI (s_ns st)) (nI (3 + 4 * i + 1))) := hw_33
      have hw_33 := hw_33.symm
      subst hw_33
      refine k_nrm (y := (widF (s_nd st) (s_df st) (nI (s_ns st)) (nI (3 + 4 * i + 1)))) rfl ?_
      refine k_nrm (y := wdt (4 * d + 1)) (wid_in h9 hs5 hik (by omega) hd he) ?_
      refine lv_iadd hx hb dL_label_79 ?_
      refine k_nrm (y := ((0 + (wdt (4 * d + 0))) + (wdt (4 * d + 1)))) (rfl) ?_
      refine lv_istore (lv' := [(5, .int ((0 + (wdt (4 * d + 0))) + (wdt (4 * d + 1)))), (6, .int 1), (4, .int (nI i)), (3, .int (lS (s_df st) (s_nd st) i)), (2, .int (nI (s_nd st))), (1, .int (nI (s_ns st))), (0, .ref (a 0))]) hx hb dL_label_80 hl (by decide) rfl (fun ls hl => ?_)
      refine lv_iinc (v := 2) (lv' := [(6, .int 2), (5, .int ((0 + (wdt (4 * d + 0))) + (wdt (4 * d + 1)))), (4, .int (nI i)), (3, .int (lS (s_df st) (s_nd st) i)), (2, .int (nI (s_nd st))), (1, .int (nI (s_ns st))), (0, .ref (a 0))]) hx hb dL_label_82 hl (k := 1) rfl (by decide) (by decide) rfl (fun ls hl => ?_)
      refine lv_goto (tgt := 58) hx hb dL_label_85 (by decide) ?_
      refine lv_iload hx hb dL_label_58 (lv_at hl 0 rfl) ?_
      refine lv_iconst (v := 4) hx hb dL_label_60 (by decide) ?_
      refine lv_icmp_ge (tgt := 88) hx hb dL_label_61 (by decide) (fun c9 => absurd c9 (by decide)) (fun _ => ?_)
      refine lv_iload hx hb dL_label_64 (lv_at hl 1 rfl) ?_
      refine lv_aload_n hx hb dL_label_66 rfl (lv_at hl 6 rfl) ?_
      refine lv_iconst (v := 3) hx hb dL_label_67 (by decide) ?_
      refine lv_iconst (v := 4) hx hb dL_label_68 (by decide) ?_
      refine lv_iload hx hb dL_label_69 (lv_at hl 2 rfl) ?_
      refine lv_imul hx hb dL_label_71 ?_
      refine k_nrm (y := (nI (4 * i))) (pk_mul 4 i) ?_
      refine lv_iadd hx hb dL_label_72 ?_
      refine k_nrm (y := (nI (3 + 4 * i))) (nI_add 3 (4 * i)) ?_
      refine lv_iload hx hb dL_label_73 (lv_at hl 0 rfl) ?_
      refine lv_iadd hx hb dL_label_75 ?_
      refine k_nrm (y := (nI (3 + 4 * i + 2))) (nI_add (3 + 4 * i) 2) ?_
      have ct := k_cut_TT (wp := []) (T := (WW a K KS st hs sc)) (wc := []) (wr := []) (tc := [(K, .int), (KS, .object "BarcodeWand$State")]) hG hS hA hK hP hD [] [] [0, 1] rfl rfl (by decide) (by decide) (by decide) rfl
      refine k_endi (As := [.ref (a 0), .int (nI (3 + 4 * i + 2))]) ct (k_runSW (As := [.ref (a 0), .int (nI (3 + 4 * i + 2))]) (rest := [.int ((0 + (wdt (4 * d + 0))) + (wdt (4 * d + 1)))]) S0 Ls_L_101 ct (c_L_width l D a K KS st hs sc (nI (3 + 4 * i + 2)) (inR_in (by omega) (by omega)) H.size) hl.1 rfl (Nat.le_of_ble_eq_true rfl) rfl dL_label_76 ⟨⟨Nat.le_of_ble_eq_true rfl, Nat.le_of_ble_eq_true rfl⟩, Nat.le_of_ble_eq_true rfl, Nat.le_of_ble_eq_true rfl⟩) rfl rfl (fun r_34 _ H locs hw_35 hP hD hK hS => ?_)
      have hK : va_K D vwCl [(K, .int), (KS, .object "BarcodeWand$State")] s := hK
      have hP : va_P D vwCl ((WW a K KS st hs sc)) H := hP
      have hD : va_D A ((WW a K KS st hs sc)) := hD
      have hw_35 : r_34 = (widF (s_nd st) (s_df st) (nI (s_ns st)) (nI (3 + 4 * i + 2))) := hw_35
      have hw_35 := hw_35.symm
      subst hw_35
      refine k_nrm (y := (widF (s_nd st) (s_df st) (nI (s_ns st)) (nI (3 + 4 * i + 2)))) rfl ?_
      refine k_nrm (y := wdt (4 * d + 2)) (wid_in h9 hs5 hik (by omega) hd he) ?_
      refine lv_iadd hx hb dL_label_79 ?_
      refine k_nrm (y := (((0 + (wdt (4 * d + 0))) + (wdt (4 * d + 1))) + (wdt (4 * d + 2)))) (rfl) ?_
      refine lv_istore (lv' := [(5, .int (((0 + (wdt (4 * d + 0))) + (wdt (4 * d + 1))) + (wdt (4 * d + 2)))), (6, .int 2), (4, .int (nI i)), (3, .int (lS (s_df st) (s_nd st) i)), (2, .int (nI (s_nd st))), (1, .int (nI (s_ns st))), (0, .ref (a 0))]) hx hb dL_label_80 hl (by decide) rfl (fun ls hl => ?_)
      refine lv_iinc (v := 3) (lv' := [(6, .int 3), (5, .int (((0 + (wdt (4 * d + 0))) + (wdt (4 * d + 1))) + (wdt (4 * d + 2)))), (4, .int (nI i)), (3, .int (lS (s_df st) (s_nd st) i)), (2, .int (nI (s_nd st))), (1, .int (nI (s_ns st))), (0, .ref (a 0))]) hx hb dL_label_82 hl (k := 1) rfl (by decide) (by decide) rfl (fun ls hl => ?_)
      refine lv_goto (tgt := 58) hx hb dL_label_85 (by decide) ?_
      refine lv_iload hx hb dL_label_58 (lv_at hl 0 rfl) ?_
      refine lv_iconst (v := 4) hx hb dL_label_60 (by decide) ?_
      refine lv_icmp_ge (tgt := 88) hx hb dL_label_61 (by decide) (fun c9 => absurd c9 (by decide)) (fun _ => ?_)
      refine lv_iload hx hb dL_label_64 (lv_at hl 1 rfl) ?_
      refine lv_aload_n hx hb dL_label_66 rfl (lv_at hl 6 rfl) ?_
      refine lv_iconst (v := 3) hx hb dL_label_67 (by decide) ?_
      refine lv_iconst (v := 4) hx hb dL_label_68 (by decide) ?_
      refine lv_iload hx hb dL_label_69 (lv_at hl 2 rfl) ?_
      refine lv_imul hx hb dL_label_71 ?_
      refine k_nrm (y := (nI (4 * i))) (pk_mul 4 i) ?_
      refine lv_iadd hx hb dL_label_72 ?_
      refine k_nrm (y := (nI (3 + 4 * i))) (nI_add 3 (4 * i)) ?_
      refine lv_iload hx hb dL_label_73 (lv_at hl 0 rfl) ?_
      refine lv_iadd hx hb dL_label_75 ?_
      refine k_nrm (y := (nI (3 + 4 * i + 3))) (nI_add (3 + 4 * i) 3) ?_
      have ct := k_cut_TT (wp := []) (T := (WW a K KS st hs sc)) (wc := []) (wr := []) (tc := [(K, .int), (KS, .object "BarcodeWand$State")]) hG hS hA hK hP hD [] [] [0, 1] rfl rfl (by decide) (by decide) (by decide) rfl
      refine k_endi (As := [.ref (a 0), .int (nI (3 + 4 * i + 3))]) ct (k_runSW (As := [.ref (a 0), .int (nI (3 + 4 * i + 3))]) (rest := [.int (((0 + (wdt (4 * d + 0))) + (wdt (4 * d + 1))) + (wdt (4 * d + 2)))]) S0 Ls_L_101 ct (c_L_width l D a K KS st hs sc (nI (3 + 4 * i + 3)) (inR_in (by omega) (by omega)) H.size) hl.1 rfl (Nat.le_of_ble_eq_true rfl) rfl dL_label_76 ⟨⟨Nat.le_of_ble_eq_true rfl, Nat.le_of_ble_eq_true rfl⟩, Nat.le_of_ble_eq_true rfl, Nat.le_of_ble_eq_true rfl⟩) rfl rfl (fun r_36 _ H locs hw_37 hP hD hK hS => ?_)
      have hK : va_K D vwCl [(K, .int), (KS, .object "BarcodeWand$State")] s := hK
      have hP : va_P D vwCl ((WW a K KS st hs sc)) H := hP
      have hD : va_D A ((WW a K KS st hs sc)) := hD
      have hw_37 : r_36 = (widF (s_nd st) (s_df st) (nI (s_ns st)) (nI (3 + 4 * i + 3))) := hw_37
      have hw_37 := hw_37.symm
      subst hw_37
      refine k_nrm (y := (widF (s_nd st) (s_df st) (nI (s_ns st)) (nI (3 + 4 * i + 3)))) rfl ?_
      refine k_nrm (y := wdt (4 * d + 3)) (wid_in h9 hs5 hik (by omega) hd he) ?_
      refine lv_iadd hx hb dL_label_79 ?_
      refine k_nrm (y := ((((0 + (wdt (4 * d + 0))) + (wdt (4 * d + 1))) + (wdt (4 * d + 2))) + (wdt (4 * d + 3)))) (rfl) ?_
      refine lv_istore (lv' := [(5, .int ((((0 + (wdt (4 * d + 0))) + (wdt (4 * d + 1))) + (wdt (4 * d + 2))) + (wdt (4 * d + 3)))), (6, .int 3), (4, .int (nI i)), (3, .int (lS (s_df st) (s_nd st) i)), (2, .int (nI (s_nd st))), (1, .int (nI (s_ns st))), (0, .ref (a 0))]) hx hb dL_label_80 hl (by decide) rfl (fun ls hl => ?_)
      refine lv_iinc (v := 4) (lv' := [(6, .int 4), (5, .int ((((0 + (wdt (4 * d + 0))) + (wdt (4 * d + 1))) + (wdt (4 * d + 2))) + (wdt (4 * d + 3)))), (4, .int (nI i)), (3, .int (lS (s_df st) (s_nd st) i)), (2, .int (nI (s_nd st))), (1, .int (nI (s_ns st))), (0, .ref (a 0))]) hx hb dL_label_82 hl (k := 1) rfl (by decide) (by decide) rfl (fun ls hl => ?_)
      refine lv_goto (tgt := 58) hx hb dL_label_85 (by decide) ?_
      refine lv_iload hx hb dL_label_58 (lv_at hl 0 rfl) ?_
      refine lv_iconst (v := 4) hx hb dL_label_60 (by decide) ?_
      refine lv_icmp_ge (tgt := 88) hx hb dL_label_61 (by decide) (fun _ => ?_) (fun c9 => absurd (by decide) c9)
      refine lv_iload_n hx hb dL_label_88 rfl (lv_at hl 3 rfl) ?_
      refine lv_iload_n hx hb dL_label_89 rfl (lv_at hl 4 rfl) ?_
      refine lv_iload hx hb dL_label_90 (lv_at hl 2 rfl) ?_
      refine lv_isub hx hb dL_label_92 ?_
      refine k_nrm (y := (nI (s_nd st - i))) (pk_sub (by omega)) ?_
      refine lv_iconst (v := 2) hx hb dL_label_93 (by decide) ?_
      refine lv_irem hx hb dL_label_94 (by decide) ?_
      refine k_nrm (y := (nI ((s_nd st - i) % 2))) (pk_rem (d := 2) (by omega) (by decide) (by decide)) ?_
      refine lv_if_ne (tgt := 109) hx hb dL_label_95 (by decide) (fun c_38 => ?_) (fun c_38 => ?_)
      · have hc9 := c_38
        refine lv_aload_n hx hb dL_label_109 rfl (lv_at hl 6 rfl) ?_
        refine lv_iload hx hb dL_label_110 (lv_at hl 2 rfl) ?_
        have ct := k_cut_TT (wp := []) (T := (WW a K KS st hs sc)) (wc := []) (wr := []) (tc := [(K, .int), (KS, .object "BarcodeWand$State")]) hG hS hA hK hP hD [] [] [0, 1] rfl rfl (by decide) (by decide) (by decide) rfl
        refine k_endi (As := [.ref (a 0), .int (nI i)]) ct (k_runSW (As := [.ref (a 0), .int (nI i)]) (rest := [.int (lS (s_df st) (s_nd st) i)]) S0 Ls_L_99 ct (c_L_labelDigit l D a K KS st hs sc (nI i) (inR_in hik (by omega)) H.size) hl.1 rfl (Nat.le_of_ble_eq_true rfl) rfl dL_label_112 ⟨⟨Nat.le_of_ble_eq_true rfl, Nat.le_of_ble_eq_true rfl⟩, Nat.le_of_ble_eq_true rfl, Nat.le_of_ble_eq_true rfl⟩) rfl rfl (fun r_39 _ H locs hw_40 hP hD hK hS => ?_)
        have hK : va_K D vwCl [(K, .int), (KS, .object "BarcodeWand$State")] s := hK
        have hP : va_P D vwCl ((WW a K KS st hs sc)) H := hP
        have hD : va_D A ((WW a K KS st hs sc)) := hD
        have hw_40 : r_39 = (rowAt 9 (nI (s_nd st)) (s_df st) (nI i)) := hw_40
        have hw_40 := hw_40.symm
        subst hw_40
        refine k_nrm (y := (rowAt 9 (nI (s_nd st)) (s_df st) (nI i))) rfl ?_
        refine k_nrm (y := s_df st i) (rowAt_lt hik h9 (by decide)) ?_
        refine lv_iadd hx hb dL_label_115 ?_
        refine k_nrm (y := (lS (s_df st) (s_nd st) (i + 1))) (lS_b c_38) ?_
        refine lv_istore_n (lv' := [(3, .int (lS (s_df st) (s_nd st) (i + 1))), (6, .int 4), (5, .int ((((0 + (wdt (4 * d + 0))) + (wdt (4 * d + 1))) + (wdt (4 * d + 2))) + (wdt (4 * d + 3)))), (4, .int (nI i)), (2, .int (nI (s_nd st))), (1, .int (nI (s_ns st))), (0, .ref (a 0))]) hx hb dL_label_116 rfl hl (by decide) rfl (fun ls hl => ?_)
        refine lv_iload hx hb dL_label_117 (lv_at hl 2 rfl) ?_
        refine lv_bipush (v := 7) hx hb dL_label_119 (by decide) ?_
        refine lv_icmp_ne (tgt := 144) hx hb dL_label_121 (by decide) (fun c9 => absurd (by rw [Int32.zero_add]; exact wd_sum d hd) c9) (fun c_41 => ?_)
        refine lv_aload_n hx hb dL_label_124 rfl (lv_at hl 6 rfl) ?_
        refine lv_iload hx hb dL_label_125 (lv_at hl 3 rfl) ?_
        have ct := k_cut_TT (wp := []) (T := (WW a K KS st hs sc)) (wc := []) (wr := []) (tc := [(K, .int), (KS, .object "BarcodeWand$State")]) hG hS hA hK hP hD [] [] [0, 1] rfl rfl (by decide) (by decide) (by decide) rfl
        refine k_endi (As := [.ref (a 0), .int (nI i)]) ct (k_runSW (As := [.ref (a 0), .int (nI i)]) (rest := []) S0 Ls_L_99 ct (c_L_labelDigit l D a K KS st hs sc (nI i) (inR_in hik (by omega)) H.size) hl.1 rfl (Nat.le_of_ble_eq_true rfl) rfl dL_label_127 ⟨⟨Nat.le_of_ble_eq_true rfl, Nat.le_of_ble_eq_true rfl⟩, Nat.le_of_ble_eq_true rfl, Nat.le_of_ble_eq_true rfl⟩) rfl rfl (fun r_42 _ H locs hw_43 hP hD hK hS => ?_)
        have hK : va_K D vwCl [(K, .int), (KS, .object "BarcodeWand$State")] s := hK
        have hP : va_P D vwCl ((WW a K KS st hs sc)) H := hP
        have hD : va_D A ((WW a K KS st hs sc)) := hD
        have hw_43 : r_42 = (rowAt 9 (nI (s_nd st)) (s_df st) (nI i)) := hw_43
        have hw_43 := hw_43.symm
        subst hw_43
        refine k_nrm (y := (rowAt 9 (nI (s_nd st)) (s_df st) (nI i))) rfl ?_
        refine k_nrm (y := s_df st i) (rowAt_lt hik h9 (by decide)) ?_
        refine lv_if_lt (tgt := 144) hx hb dL_label_130 (by decide) (fun c9 => absurd c9 (by rw [he]; exact nI_pos (by omega))) (fun c_44 => ?_)
        refine lv_aload_n hx hb dL_label_133 rfl (lv_at hl 6 rfl) ?_
        refine lv_iload hx hb dL_label_134 (lv_at hl 3 rfl) ?_
        have ct := k_cut_TT (wp := []) (T := (WW a K KS st hs sc)) (wc := []) (wr := []) (tc := [(K, .int), (KS, .object "BarcodeWand$State")]) hG hS hA hK hP hD [] [] [0, 1] rfl rfl (by decide) (by decide) (by decide) rfl
        refine k_endi (As := [.ref (a 0), .int (nI i)]) ct (k_runSW (As := [.ref (a 0), .int (nI i)]) (rest := []) S0 Ls_L_99 ct (c_L_labelDigit l D a K KS st hs sc (nI i) (inR_in hik (by omega)) H.size) hl.1 rfl (Nat.le_of_ble_eq_true rfl) rfl dL_label_136 ⟨⟨Nat.le_of_ble_eq_true rfl, Nat.le_of_ble_eq_true rfl⟩, Nat.le_of_ble_eq_true rfl, Nat.le_of_ble_eq_true rfl⟩) rfl rfl (fun r_45 _ H locs hw_46 hP hD hK hS => ?_)
        have hK : va_K D vwCl [(K, .int), (KS, .object "BarcodeWand$State")] s := hK
        have hP : va_P D vwCl ((WW a K KS st hs sc)) H := hP
        have hD : va_D A ((WW a K KS st hs sc)) := hD
        have hw_46 : r_45 = (rowAt 9 (nI (s_nd st)) (s_df st) (nI i)) := hw_46
        have hw_46 := hw_46.symm
        subst hw_46
        refine k_nrm (y := (rowAt 9 (nI (s_nd st)) (s_df st) (nI i))) rfl ?_
        refine k_nrm (y := s_df st i) (rowAt_lt hik h9 (by decide)) ?_
        refine lv_bipush (v := 9) hx hb dL_label_139 (by decide) ?_
        refine lv_icmp_le (tgt := 146) hx hb dL_label_141 (by decide) (fun c_47 => ?_) (fun c9 => absurd (by rw [he]; exact nI_le (b := 9) hd (by decide)) c9)
        obtain ⟨x_48, ex_48⟩ : ∃ z : Int32, z = (nI i) + 1 := ⟨_, rfl⟩
        refine lv_iinc (v := x_48) (lv' := [(4, .int x_48), (3, .int (lS (s_df st) (s_nd st) (i + 1))), (6, .int 4), (5, .int ((((0 + (wdt (4 * d + 0))) + (wdt (4 * d + 1))) + (wdt (4 * d + 2))) + (wdt (4 * d + 3)))), (2, .int (nI (s_nd st))), (1, .int (nI (s_ns st))), (0, .ref (a 0))]) hx hb dL_label_146 hl (k := 3) rfl (by rw [ex_48]; rfl) (by decide) rfl (fun ls hl => ?_)
        refine lv_goto (tgt := 46) hx hb dL_label_149 (by decide) ?_
        have he9 : x_48 = (nI (i + 1)) := by rw [ex_48]; exact nI_1 i
        rw [he9] at hl
        have hl : lv_has ls 7 [(4, .int (nI (i + 1))), (3, .int (lS (s_df st) (s_nd st) (i + 1))), (6, .int 4), (5, .int ((((0 + (wdt (4 * d + 0))) + (wdt (4 * d + 1))) + (wdt (4 * d + 2))) + (wdt (4 * d + 3)))), (2, .int (nI (s_nd st))), (1, .int (nI (s_ns st))), (0, .ref (a 0))] := hl
        exact ih9 (i + 1) H locs ls (by omega) ⟨hik, k_subP (wp := []) (wp' := []) (T := (WW a K KS st hs sc)) hP [] rfl, k_subD (wp := []) (wp' := []) (T := (WW a K KS st hs sc)) hD [] (by decide) rfl, hS, lv_sub hl [0, 1, 4, 5, 6] rfl⟩
      · have hc9 := c_38
        refine lv_iconst (v := 3) hx hb dL_label_98 (by decide) ?_
        refine lv_aload_n hx hb dL_label_99 rfl (lv_at hl 6 rfl) ?_
        refine lv_iload hx hb dL_label_100 (lv_at hl 2 rfl) ?_
        have ct := k_cut_TT (wp := []) (T := (WW a K KS st hs sc)) (wc := []) (wr := []) (tc := [(K, .int), (KS, .object "BarcodeWand$State")]) hG hS hA hK hP hD [] [] [0, 1] rfl rfl (by decide) (by decide) (by decide) rfl
        refine k_endi (As := [.ref (a 0), .int (nI i)]) ct (k_runSW (As := [.ref (a 0), .int (nI i)]) (rest := [.int 3, .int (lS (s_df st) (s_nd st) i)]) S0 Ls_L_99 ct (c_L_labelDigit l D a K KS st hs sc (nI i) (inR_in hik (by omega)) H.size) hl.1 rfl (Nat.le_of_ble_eq_true rfl) rfl dL_label_102 ⟨⟨Nat.le_of_ble_eq_true rfl, Nat.le_of_ble_eq_true rfl⟩, Nat.le_of_ble_eq_true rfl, Nat.le_of_ble_eq_true rfl⟩) rfl rfl (fun r_49 _ H locs hw_50 hP hD hK hS => ?_)
        have hK : va_K D vwCl [(K, .int), (KS, .object "BarcodeWand$State")] s := hK
        have hP : va_P D vwCl ((WW a K KS st hs sc)) H := hP
        have hD : va_D A ((WW a K KS st hs sc)) := hD
        have hw_50 : r_49 = (rowAt 9 (nI (s_nd st)) (s_df st) (nI i)) := hw_50
        have hw_50 := hw_50.symm
        subst hw_50
        refine k_nrm (y := (rowAt 9 (nI (s_nd st)) (s_df st) (nI i))) rfl ?_
        refine k_nrm (y := s_df st i) (rowAt_lt hik h9 (by decide)) ?_
        refine lv_imul hx hb dL_label_105 ?_
        refine k_nrm (y := (3 * s_df st i)) (rfl) ?_
        refine lv_goto (tgt := 115) hx hb dL_label_106 (by decide) ?_
        refine lv_iadd hx hb dL_label_115 ?_
        refine k_nrm (y := (lS (s_df st) (s_nd st) (i + 1))) (lS_a c_38) ?_
        refine lv_istore_n (lv' := [(3, .int (lS (s_df st) (s_nd st) (i + 1))), (6, .int 4), (5, .int ((((0 + (wdt (4 * d + 0))) + (wdt (4 * d + 1))) + (wdt (4 * d + 2))) + (wdt (4 * d + 3)))), (4, .int (nI i)), (2, .int (nI (s_nd st))), (1, .int (nI (s_ns st))), (0, .ref (a 0))]) hx hb dL_label_116 rfl hl (by decide) rfl (fun ls hl => ?_)
        refine lv_iload hx hb dL_label_117 (lv_at hl 2 rfl) ?_
        refine lv_bipush (v := 7) hx hb dL_label_119 (by decide) ?_
        refine lv_icmp_ne (tgt := 144) hx hb dL_label_121 (by decide) (fun c9 => absurd (by rw [Int32.zero_add]; exact wd_sum d hd) c9) (fun c_51 => ?_)
        refine lv_aload_n hx hb dL_label_124 rfl (lv_at hl 6 rfl) ?_
        refine lv_iload hx hb dL_label_125 (lv_at hl 3 rfl) ?_
        have ct := k_cut_TT (wp := []) (T := (WW a K KS st hs sc)) (wc := []) (wr := []) (tc := [(K, .int), (KS, .object "BarcodeWand$State")]) hG hS hA hK hP hD [] [] [0, 1] rfl rfl (by decide) (by decide) (by decide) rfl
        refine k_endi (As := [.ref (a 0), .int (nI i)]) ct (k_runSW (As := [.ref (a 0), .int (nI i)]) (rest := []) S0 Ls_L_99 ct (c_L_labelDigit l D a K KS st hs sc (nI i) (inR_in hik (by omega)) H.size) hl.1 rfl (Nat.le_of_ble_eq_true rfl) rfl dL_label_127 ⟨⟨Nat.le_of_ble_eq_true rfl, Nat.le_of_ble_eq_true rfl⟩, Nat.le_of_ble_eq_true rfl, Nat.le_of_ble_eq_true rfl⟩) rfl rfl (fun r_52 _ H locs hw_53 hP hD hK hS => ?_)
        have hK : va_K D vwCl [(K, .int), (KS, .object "BarcodeWand$State")] s := hK
        have hP : va_P D vwCl ((WW a K KS st hs sc)) H := hP
        have hD : va_D A ((WW a K KS st hs sc)) := hD
        have hw_53 : r_52 = (rowAt 9 (nI (s_nd st)) (s_df st) (nI i)) := hw_53
        have hw_53 := hw_53.symm
        subst hw_53
        refine k_nrm (y := (rowAt 9 (nI (s_nd st)) (s_df st) (nI i))) rfl ?_
        refine k_nrm (y := s_df st i) (rowAt_lt hik h9 (by decide)) ?_
        refine lv_if_lt (tgt := 144) hx hb dL_label_130 (by decide) (fun c9 => absurd c9 (by rw [he]; exact nI_pos (by omega))) (fun c_54 => ?_)
        refine lv_aload_n hx hb dL_label_133 rfl (lv_at hl 6 rfl) ?_
        refine lv_iload hx hb dL_label_134 (lv_at hl 3 rfl) ?_
        have ct := k_cut_TT (wp := []) (T := (WW a K KS st hs sc)) (wc := []) (wr := []) (tc := [(K, .int), (KS, .object "BarcodeWand$State")]) hG hS hA hK hP hD [] [] [0, 1] rfl rfl (by decide) (by decide) (by decide) rfl
        refine k_endi (As := [.ref (a 0), .int (nI i)]) ct (k_runSW (As := [.ref (a 0), .int (nI i)]) (rest := []) S0 Ls_L_99 ct (c_L_labelDigit l D a K KS st hs sc (nI i) (inR_in hik (by omega)) H.size) hl.1 rfl (Nat.le_of_ble_eq_true rfl) rfl dL_label_136 ⟨⟨Nat.le_of_ble_eq_true rfl, Nat.le_of_ble_eq_true rfl⟩, Nat.le_of_ble_eq_true rfl, Nat.le_of_ble_eq_true rfl⟩) rfl rfl (fun r_55 _ H locs hw_56 hP hD hK hS => ?_)
        have hK : va_K D vwCl [(K, .int), (KS, .object "BarcodeWand$State")] s := hK
        have hP : va_P D vwCl ((WW a K KS st hs sc)) H := hP
        have hD : va_D A ((WW a K KS st hs sc)) := hD
        have hw_56 : r_55 = (rowAt 9 (nI (s_nd st)) (s_df st) (nI i)) := hw_56
        have hw_56 := hw_56.symm
        subst hw_56
        refine k_nrm (y := (rowAt 9 (nI (s_nd st)) (s_df st) (nI i))) rfl ?_
        refine k_nrm (y := s_df st i) (rowAt_lt hik h9 (by decide)) ?_
        refine lv_bipush (v := 9) hx hb dL_label_139 (by decide) ?_
        refine lv_icmp_le (tgt := 146) hx hb dL_label_141 (by decide) (fun c_57 => ?_) (fun c9 => absurd (by rw [he]; exact nI_le (b := 9) hd (by decide)) c9)
        obtain ⟨x_58, ex_58⟩ : ∃ z : Int32, z = (nI i) + 1 := ⟨_, rfl⟩
        refine lv_iinc (v := x_58) (lv' := [(4, .int x_58), (3, .int (lS (s_df st) (s_nd st) (i + 1))), (6, .int 4), (5, .int ((((0 + (wdt (4 * d + 0))) + (wdt (4 * d + 1))) + (wdt (4 * d + 2))) + (wdt (4 * d + 3)))), (2, .int (nI (s_nd st))), (1, .int (nI (s_ns st))), (0, .ref (a 0))]) hx hb dL_label_146 hl (k := 3) rfl (by rw [ex_58]; rfl) (by decide) rfl (fun ls hl => ?_)
        refine lv_goto (tgt := 46) hx hb dL_label_149 (by decide) ?_
        have he9 : x_58 = (nI (i + 1)) := by rw [ex_58]; exact nI_1 i
        rw [he9] at hl
        have hl : lv_has ls 7 [(4, .int (nI (i + 1))), (3, .int (lS (s_df st) (s_nd st) (i + 1))), (6, .int 4), (5, .int ((((0 + (wdt (4 * d + 0))) + (wdt (4 * d + 1))) + (wdt (4 * d + 2))) + (wdt (4 * d + 3)))), (2, .int (nI (s_nd st))), (1, .int (nI (s_ns st))), (0, .ref (a 0))] := hl
        exact ih9 (i + 1) H locs ls (by omega) ⟨hik, k_subP (wp := []) (wp' := []) (T := (WW a K KS st hs sc)) hP [] rfl, k_subD (wp := []) (wp' := []) (T := (WW a K KS st hs sc)) hD [] (by decide) rfl, hS, lv_sub hl [0, 1, 4, 5, 6] rfl⟩
