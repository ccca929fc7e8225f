theorem lx_L_9 : Cond.constant RL 9 2147483647 ∈ wsA := mA 220 rfl rfl
theorem lk_X7_print : Cond.code yX7_print cX7_print 3 (some .int) ∈ wsA := mA 228 rfl rfl
theorem ly_X7_print : k_y yX7_print 2 := ⟨by decide +kernel, by decide +kernel, by decide +kernel⟩
theorem lm_X7_print : Cond.instanceMethod yX7_print ∈ wsA := mA 226 rfl rfl
theorem le_X7_print : Cond.selects (yX7_print).cls yX7_print yX7_print ∈ wsA := mA 227 rfl rfl
theorem Lv_L_10 : k_LV RL 10 yX7_print cX7_print 3 (some .int) 2 := ⟨mA 225 rfl rfl, lm_X7_print, le_X7_print, li_BarcodeWand, lk_X7_print, ly_X7_print⟩
set_option maxRecDepth 20000 in
theorem lk_X7_smudge : Cond.code yX7_smudge cX7_smudge 4 (some .int) ∈ wsA := mA 405 rfl rfl
theorem ly_X7_smudge : k_y yX7_smudge 2 := ⟨by decide +kernel, by decide +kernel, by decide +kernel⟩
set_option maxRecDepth 20000 in
theorem lm_X7_smudge : Cond.instanceMethod yX7_smudge ∈ wsA := mA 403 rfl rfl
set_option maxRecDepth 20000 in
theorem le_X7_smudge : Cond.selects (yX7_smudge).cls yX7_smudge yX7_smudge ∈ wsA := mA 404 rfl rfl
set_option maxRecDepth 20000 in
theorem Lv_L_19 : k_LV RL 19 yX7_smudge cX7_smudge 4 (some .int) 2 := ⟨mA 402 rfl rfl, lm_X7_smudge, le_X7_smudge, li_BarcodeWand, lk_X7_smudge, ly_X7_smudge⟩
set_option maxRecDepth 20000 in
theorem lk_X7_width : Cond.code yX7_width cX7_width 2 (some .int) ∈ wsA := mA 592 rfl rfl
theorem ly_X7_width : k_y yX7_width 1 := ⟨by decide +kernel, by decide +kernel, by decide +kernel⟩
set_option maxRecDepth 20000 in
theorem lm_X7_width : Cond.instanceMethod yX7_width ∈ wsA := mA 590 rfl rfl
set_option maxRecDepth 20000 in
theorem le_X7_width : Cond.selects (yX7_width).cls yX7_width yX7_width ∈ wsA := mA 591 rfl rfl
set_option maxRecDepth 20000 in
theorem Lv_L_25 : k_LV RL 25 yX7_width cX7_width 2 (some .int) 1 := ⟨mA 589 rfl rfl, lm_X7_width, le_X7_width, li_BarcodeWand, lk_X7_width, ly_X7_width⟩
set_option maxRecDepth 20000 in
theorem lk_X7_labelDigit : Cond.code yX7_labelDigit cX7_labelDigit 2 (some .int) ∈ wsA := mA 584 rfl rfl
theorem ly_X7_labelDigit : k_y yX7_labelDigit 1 := ⟨by decide +kernel, by decide +kernel, by decide +kernel⟩
set_option maxRecDepth 20000 in
theorem lm_X7_labelDigit : Cond.instanceMethod yX7_labelDigit ∈ wsA := mA 582 rfl rfl
set_option maxRecDepth 20000 in
theorem le_X7_labelDigit : Cond.selects (yX7_labelDigit).cls yX7_labelDigit yX7_labelDigit ∈ wsA := mA 583 rfl rfl
set_option maxRecDepth 20000 in
theorem Lv_L_29 : k_LV RL 29 yX7_labelDigit cX7_labelDigit 2 (some .int) 1 := ⟨mA 581 rfl rfl, lm_X7_labelDigit, le_X7_labelDigit, li_BarcodeWand, lk_X7_labelDigit, ly_X7_labelDigit⟩
set_option maxRecDepth 20000 in
theorem lk_X7_draw : Cond.code yX7_draw cX7_draw 4 (some .int) ∈ wsA := mA 539 rfl rfl
theorem ly_X7_draw : k_y yX7_draw 3 := ⟨by decide +kernel, by decide +kernel, by decide +kernel⟩
set_option maxRecDepth 20000 in
theorem lm_X7_draw : Cond.instanceMethod yX7_draw ∈ wsA := mA 537 rfl rfl
set_option maxRecDepth 20000 in
theorem le_X7_draw : Cond.selects (yX7_draw).cls yX7_draw yX7_draw ∈ wsA := mA 538 rfl rfl
set_option maxRecDepth 20000 in
theorem Lv_L_32 : k_LV RL 32 yX7_draw cX7_draw 4 (some .int) 3 := ⟨mA 536 rfl rfl, lm_X7_draw, le_X7_draw, li_BarcodeWand, lk_X7_draw, ly_X7_draw⟩
set_option maxRecDepth 20000 in
theorem lk_X7_measure : Cond.code yX7_measure cX7_measure 2 (some .int) ∈ wsA := mA 439 rfl rfl
theorem ly_X7_measure : k_y yX7_measure 1 := ⟨by decide +kernel, by decide +kernel, by decide +kernel⟩
set_option maxRecDepth 20000 in
theorem lm_X7_measure : Cond.instanceMethod yX7_measure ∈ wsA := mA 437 rfl rfl
set_option maxRecDepth 20000 in
theorem le_X7_measure : Cond.selects (yX7_measure).cls yX7_measure yX7_measure ∈ wsA := mA 438 rfl rfl
set_option maxRecDepth 20000 in
theorem Lv_L_38 : k_LV RL 38 yX7_measure cX7_measure 2 (some .int) 1 := ⟨mA 436 rfl rfl, lm_X7_measure, le_X7_measure, li_BarcodeWand, lk_X7_measure, ly_X7_measure⟩
set_option maxRecDepth 20000 in
theorem lk_X7_time : Cond.code yX7_time cX7_time 2 (some .int) ∈ wsA := mA 682 rfl rfl
theorem ly_X7_time : k_y yX7_time 1 := ⟨by decide +kernel, by decide +kernel, by decide +kernel⟩
set_option maxRecDepth 20000 in
theorem lm_X7_time : Cond.instanceMethod yX7_time ∈ wsA := mA 680 rfl rfl
set_option maxRecDepth 20000 in
theorem le_X7_time : Cond.selects (yX7_time).cls yX7_time yX7_time ∈ wsA := mA 681 rfl rfl
set_option maxRecDepth 20000 in
theorem Lv_L_41 : k_LV RL 41 yX7_time cX7_time 2 (some .int) 1 := ⟨mA 679 rfl rfl, lm_X7_time, le_X7_time, li_BarcodeWand, lk_X7_time, ly_X7_time⟩
set_option maxRecDepth 20000 in
theorem lk_X7_setTolerance : Cond.code yX7_setTolerance cX7_setTolerance 3 (some .int) ∈ wsA := mA 531 rfl rfl
theorem ly_X7_setTolerance : k_y yX7_setTolerance 1 := ⟨by decide +kernel, by decide +kernel, by decide +kernel⟩
set_option maxRecDepth 20000 in
theorem lm_X7_setTolerance : Cond.instanceMethod yX7_setTolerance ∈ wsA := mA 529 rfl rfl
set_option maxRecDepth 20000 in
theorem le_X7_setTolerance : Cond.selects (yX7_setTolerance).cls yX7_setTolerance yX7_setTolerance ∈ wsA := mA 530 rfl rfl
set_option maxRecDepth 20000 in
theorem Lv_L_44 : k_LV RL 44 yX7_setTolerance cX7_setTolerance 3 (some .int) 1 := ⟨mA 528 rfl rfl, lm_X7_setTolerance, le_X7_setTolerance, li_BarcodeWand, lk_X7_setTolerance, ly_X7_setTolerance⟩
set_option maxRecDepth 20000 in
theorem lk_X7_digit : Cond.code yX7_digit cX7_digit 3 (some .int) ∈ wsA := mA 620 rfl rfl
theorem ly_X7_digit : k_y yX7_digit 1 := ⟨by decide +kernel, by decide +kernel, by decide +kernel⟩
set_option maxRecDepth 20000 in
theorem lm_X7_digit : Cond.instanceMethod yX7_digit ∈ wsA := mA 618 rfl rfl
set_option maxRecDepth 20000 in
theorem le_X7_digit : Cond.selects (yX7_digit).cls yX7_digit yX7_digit ∈ wsA := mA 619 rfl rfl
set_option maxRecDepth 20000 in
theorem Lv_L_47 : k_LV RL 47 yX7_digit cX7_digit 3 (some .int) 1 := ⟨mA 617 rfl rfl, lm_X7_digit, le_X7_digit, li_BarcodeWand, lk_X7_digit, ly_X7_digit⟩
set_option maxRecDepth 20000 in
theorem lk_X7_nearest : Cond.code yX7_nearest cX7_nearest 2 (some .int) ∈ wsA := mA 628 rfl rfl
theorem ly_X7_nearest : k_y yX7_nearest 1 := ⟨by decide +kernel, by decide +kernel, by decide +kernel⟩
set_option maxRecDepth 20000 in
theorem lm_X7_nearest : Cond.instanceMethod yX7_nearest ∈ wsA := mA 626 rfl rfl
set_option maxRecDepth 20000 in
theorem le_X7_nearest : Cond.selects (yX7_nearest).cls yX7_nearest yX7_nearest ∈ wsA := mA 627 rfl rfl
set_option maxRecDepth 20000 in
theorem Lv_L_50 : k_LV RL 50 yX7_nearest cX7_nearest 2 (some .int) 1 := ⟨mA 625 rfl rfl, lm_X7_nearest, le_X7_nearest, li_BarcodeWand, lk_X7_nearest, ly_X7_nearest⟩
set_option maxRecDepth 20000 in
theorem lk_X7_code : Cond.code yX7_code cX7_code 2 (some .int) ∈ wsA := mA 656 rfl rfl
theorem ly_X7_code : k_y yX7_code 1 := ⟨by decide +kernel, by decide +kernel, by decide +kernel⟩
set_option maxRecDepth 20000 in
theorem lm_X7_code : Cond.instanceMethod yX7_code ∈ wsA := mA 654 rfl rfl
set_option maxRecDepth 20000 in
theorem le_X7_code : Cond.selects (yX7_code).cls yX7_code yX7_code ∈ wsA := mA 655 rfl rfl
set_option maxRecDepth 20000 in
theorem Lv_L_53 : k_LV RL 53 yX7_code cX7_code 2 (some .int) 1 := ⟨mA 653 rfl rfl, lm_X7_code, le_X7_code, li_BarcodeWand, lk_X7_code, ly_X7_code⟩
set_option maxRecDepth 20000 in
theorem lk_X7_codeLength : Cond.code yX7_codeLength cX7_codeLength 2 (some .int) ∈ wsA := mA 644 rfl rfl
theorem ly_X7_codeLength : k_y yX7_codeLength 1 := ⟨by decide +kernel, by decide +kernel, by decide +kernel⟩
set_option maxRecDepth 20000 in
theorem lm_X7_codeLength : Cond.instanceMethod yX7_codeLength ∈ wsA := mA 642 rfl rfl
set_option maxRecDepth 20000 in
theorem le_X7_codeLength : Cond.selects (yX7_codeLength).cls yX7_codeLength yX7_codeLength ∈ wsA := mA 643 rfl rfl
set_option maxRecDepth 20000 in
theorem Lv_L_56 : k_LV RL 56 yX7_codeLength cX7_codeLength 2 (some .int) 1 := ⟨mA 641 rfl rfl, lm_X7_codeLength, le_X7_codeLength, li_BarcodeWand, lk_X7_codeLength, ly_X7_codeLength⟩
set_option maxRecDepth 20000 in
theorem lk_X7_count : Cond.code yX7_count cX7_count 2 (some .int) ∈ wsA := mA 663 rfl rfl
theorem ly_X7_count : k_y yX7_count 1 := ⟨by decide +kernel, by decide +kernel, by decide +kernel⟩
set_option maxRecDepth 20000 in
theorem lm_X7_count : Cond.instanceMethod yX7_count ∈ wsA := mA 661 rfl rfl
set_option maxRecDepth 20000 in
theorem le_X7_count : Cond.selects (yX7_count).cls yX7_count yX7_count ∈ wsA := mA 662 rfl rfl
set_option maxRecDepth 20000 in
theorem Lv_L_59 : k_LV RL 59 yX7_count cX7_count 2 (some .int) 1 := ⟨mA 660 rfl rfl, lm_X7_count, le_X7_count, li_BarcodeWand, lk_X7_count, ly_X7_count⟩
set_option maxRecDepth 20000 in
theorem lk_X7_ifDrawn : Cond.code yX7_ifDrawn cX7_ifDrawn 4 (some .int) ∈ wsA := mA 691 rfl rfl
theorem ly_X7_ifDrawn : k_y yX7_ifDrawn 3 := ⟨by decide +kernel, by decide +kernel, by decide +kernel⟩
set_option maxRecDepth 20000 in
theorem lm_X7_ifDrawn : Cond.instanceMethod yX7_ifDrawn ∈ wsA := mA 689 rfl rfl
set_option maxRecDepth 20000 in
theorem le_X7_ifDrawn : Cond.selects (yX7_ifDrawn).cls yX7_ifDrawn yX7_ifDrawn ∈ wsA := mA 690 rfl rfl
set_option maxRecDepth 20000 in
theorem Lv_L_62 : k_LV RL 62 yX7_ifDrawn cX7_ifDrawn 4 (some .int) 3 := ⟨mA 688 rfl rfl, lm_X7_ifDrawn, le_X7_ifDrawn, li_BarcodeWand, lk_X7_ifDrawn, ly_X7_ifDrawn⟩
set_option maxRecDepth 20000 in
theorem lk_X7_greatestSmudge : Cond.code yX7_greatestSmudge cX7_greatestSmudge 5 (some .int) ∈ wsA := mA 704 rfl rfl
theorem ly_X7_greatestSmudge : k_y yX7_greatestSmudge 1 := ⟨by decide +kernel, by decide +kernel, by decide +kernel⟩
set_option maxRecDepth 20000 in
theorem lm_X7_greatestSmudge : Cond.instanceMethod yX7_greatestSmudge ∈ wsA := mA 702 rfl rfl
set_option maxRecDepth 20000 in
theorem le_X7_greatestSmudge : Cond.selects (yX7_greatestSmudge).cls yX7_greatestSmudge yX7_greatestSmudge ∈ wsA := mA 703 rfl rfl
set_option maxRecDepth 20000 in
theorem Lv_L_65 : k_LV RL 65 yX7_greatestSmudge cX7_greatestSmudge 5 (some .int) 1 := ⟨mA 701 rfl rfl, lm_X7_greatestSmudge, le_X7_greatestSmudge, li_BarcodeWand, lk_X7_greatestSmudge, ly_X7_greatestSmudge⟩
set_option maxRecDepth 20000 in
theorem lk_X7_undo : Cond.code yX7_undo cX7_undo 1 (some .int) ∈ wsA := mA 373 rfl rfl
theorem ly_X7_undo : k_y yX7_undo 0 := ⟨by decide +kernel, by decide +kernel, by decide +kernel⟩
set_option maxRecDepth 20000 in
theorem lm_X7_undo : Cond.instanceMethod yX7_undo ∈ wsA := mA 371 rfl rfl
set_option maxRecDepth 20000 in
theorem le_X7_undo : Cond.selects (yX7_undo).cls yX7_undo yX7_undo ∈ wsA := mA 372 rfl rfl
set_option maxRecDepth 20000 in
theorem Lv_L_68 : k_LV RL 68 yX7_undo cX7_undo 1 (some .int) 0 := ⟨mA 370 rfl rfl, lm_X7_undo, le_X7_undo, li_BarcodeWand, lk_X7_undo, ly_X7_undo⟩
set_option maxRecDepth 20000 in
theorem lc_L_22 : Cond.classLink RL 22 "java/lang/IndexOutOfBoundsException" ∈ wsA := mA 401 rfl rfl
set_option maxRecDepth 20000 in
theorem lx_L_18 : Cond.constant RL 18 (-1000001) ∈ wsA := mA 365 rfl rfl
set_option maxRecDepth 20000 in
theorem lc_L_36 : Cond.classLink RL 36 "java/lang/IllegalStateException" ∈ wsA := mA 369 rfl rfl
theorem lc_L_16 : Cond.classLink RL 16 "java/lang/IllegalArgumentException" ∈ wsA := mA 224 rfl rfl
set_option maxRecDepth 20000 in
theorem lx_L_24 : Cond.constant RL 24 (-1000002) ∈ wsA := mA 432 rfl rfl
theorem dL_low_0 : decode cL_low 0 = .ok (.iload_n 0, 1) := by decide +kernel
theorem dL_low_1 : decode cL_low 1 = .ok (.ldc 9, 2) := by decide +kernel
theorem dL_low_3 : decode cL_low 3 = .ok (.iand, 1) := by decide +kernel
theorem dL_low_4 : decode cL_low 4 = .ok (.iload_n 1, 1) := by decide +kernel
theorem dL_low_5 : decode cL_low 5 = .ok (.irem, 1) := by decide +kernel
theorem dL_low_6 : decode cL_low 6 = .ok (.ireturn, 1) := by decide +kernel
theorem dL_print_0 : decode cL_print 0 = .ok (.aload_n 0, 1) := by decide +kernel
theorem dL_print_1 : decode cL_print 1 = .ok (.iload_n 1, 1) := by decide +kernel
theorem dL_print_2 : decode cL_print 2 = .ok (.iload_n 2, 1) := by decide +kernel
theorem dL_print_3 : decode cL_print 3 = .ok (.invokevirtual 10, 3) := by decide +kernel
theorem dL_print_6 : decode cL_print 6 = .ok (.ireturn, 1) := by decide +kernel
theorem dL_print_7 : decode cL_print 7 = .ok (.astore_n 3, 1) := by decide +kernel
theorem dL_print_8 : decode cL_print 8 = .ok (.ldc 18, 2) := by decide +kernel
theorem dL_print_10 : decode cL_print 10 = .ok (.ireturn, 1) := by decide +kernel
theorem dL_smudge_0 : decode cL_smudge 0 = .ok (.aload_n 0, 1) := by decide +kernel
theorem dL_smudge_1 : decode cL_smudge 1 = .ok (.iload_n 1, 1) := by decide +kernel
theorem dL_smudge_2 : decode cL_smudge 2 = .ok (.iload_n 2, 1) := by decide +kernel
theorem dL_smudge_3 : decode cL_smudge 3 = .ok (.invokevirtual 19, 3) := by decide +kernel
theorem dL_smudge_6 : decode cL_smudge 6 = .ok (.ireturn, 1) := by decide +kernel
theorem dL_smudge_7 : decode cL_smudge 7 = .ok (.astore_n 3, 1) := by decide +kernel
theorem dL_smudge_8 : decode cL_smudge 8 = .ok (.ldc 18, 2) := by decide +kernel
theorem dL_smudge_10 : decode cL_smudge 10 = .ok (.ireturn, 1) := by decide +kernel
theorem dL_smudge_11 : decode cL_smudge 11 = .ok (.astore_n 3, 1) := by decide +kernel
theorem dL_smudge_12 : decode cL_smudge 12 = .ok (.ldc 24, 2) := by decide +kernel
theorem dL_smudge_14 : decode cL_smudge 14 = .ok (.ireturn, 1) := by decide +kernel
theorem dL_width_0 : decode cL_width 0 = .ok (.aload_n 0, 1) := by decide +kernel
theorem dL_width_1 : decode cL_width 1 = .ok (.iload_n 1, 1) := by decide +kernel
theorem dL_width_2 : decode cL_width 2 = .ok (.invokevirtual 25, 3) := by decide +kernel
theorem dL_width_5 : decode cL_width 5 = .ok (.ireturn, 1) := by decide +kernel
theorem dL_width_6 : decode cL_width 6 = .ok (.astore_n 2, 1) := by decide +kernel
theorem dL_width_7 : decode cL_width 7 = .ok (.ldc 18, 2) := by decide +kernel
theorem dL_width_9 : decode cL_width 9 = .ok (.ireturn, 1) := by decide +kernel
theorem dL_labelDigit_0 : decode cL_labelDigit 0 = .ok (.aload_n 0, 1) := by decide +kernel
theorem dL_labelDigit_1 : decode cL_labelDigit 1 = .ok (.iload_n 1, 1) := by decide +kernel
theorem dL_labelDigit_2 : decode cL_labelDigit 2 = .ok (.invokevirtual 29, 3) := by decide +kernel
theorem dL_labelDigit_5 : decode cL_labelDigit 5 = .ok (.ireturn, 1) := by decide +kernel
theorem dL_labelDigit_6 : decode cL_labelDigit 6 = .ok (.astore_n 2, 1) := by decide +kernel
theorem dL_labelDigit_7 : decode cL_labelDigit 7 = .ok (.ldc 18, 2) := by decide +kernel
theorem dL_labelDigit_9 : decode cL_labelDigit 9 = .ok (.ireturn, 1) := by decide +kernel
theorem dL_draw_0 : decode cL_draw 0 = .ok (.aload_n 0, 1) := by decide +kernel
theorem dL_draw_1 : decode cL_draw 1 = .ok (.iload_n 1, 1) := by decide +kernel
theorem dL_draw_2 : decode cL_draw 2 = .ok (.iload_n 2, 1) := by decide +kernel
theorem dL_draw_3 : decode cL_draw 3 = .ok (.iload_n 3, 1) := by decide +kernel
theorem dL_draw_4 : decode cL_draw 4 = .ok (.invokevirtual 32, 3) := by decide +kernel
theorem dL_draw_7 : decode cL_draw 7 = .ok (.ireturn, 1) := by decide +kernel
theorem dL_draw_8 : decode cL_draw 8 = .ok (.astore 4, 2) := by decide +kernel
theorem dL_draw_10 : decode cL_draw 10 = .ok (.ldc 18, 2) := by decide +kernel
theorem dL_draw_12 : decode cL_draw 12 = .ok (.ireturn, 1) := by decide +kernel
theorem dL_draw_13 : decode cL_draw 13 = .ok (.astore 4, 2) := by decide +kernel
theorem dL_draw_15 : decode cL_draw 15 = .ok (.ldc 24, 2) := by decide +kernel
theorem dL_draw_17 : decode cL_draw 17 = .ok (.ireturn, 1) := by decide +kernel
theorem dL_measure_0 : decode cL_measure 0 = .ok (.aload_n 0, 1) := by decide +kernel
theorem dL_measure_1 : decode cL_measure 1 = .ok (.iload_n 1, 1) := by decide +kernel
theorem dL_measure_2 : decode cL_measure 2 = .ok (.invokevirtual 38, 3) := by decide +kernel
theorem dL_measure_5 : decode cL_measure 5 = .ok (.ireturn, 1) := by decide +kernel
theorem dL_measure_6 : decode cL_measure 6 = .ok (.astore_n 2, 1) := by decide +kernel
theorem dL_measure_7 : decode cL_measure 7 = .ok (.ldc 18, 2) := by decide +kernel
theorem dL_measure_9 : decode cL_measure 9 = .ok (.ireturn, 1) := by decide +kernel
theorem dL_measure_10 : decode cL_measure 10 = .ok (.astore_n 2, 1) := by decide +kernel
theorem dL_measure_11 : decode cL_measure 11 = .ok (.ldc 24, 2) := by decide +kernel
theorem dL_measure_13 : decode cL_measure 13 = .ok (.ireturn, 1) := by decide +kernel
theorem dL_time_0 : decode cL_time 0 = .ok (.aload_n 0, 1) := by decide +kernel
theorem dL_time_1 : decode cL_time 1 = .ok (.iload_n 1, 1) := by decide +kernel
theorem dL_time_2 : decode cL_time 2 = .ok (.invokevirtual 41, 3) := by decide +kernel
theorem dL_time_5 : decode cL_time 5 = .ok (.ireturn, 1) := by decide +kernel
theorem dL_time_6 : decode cL_time 6 = .ok (.astore_n 2, 1) := by decide +kernel
theorem dL_time_7 : decode cL_time 7 = .ok (.ldc 18, 2) := by decide +kernel
theorem dL_time_9 : decode cL_time 9 = .ok (.ireturn, 1) := by decide +kernel
theorem dL_setTolerance_0 : decode cL_setTolerance 0 = .ok (.aload_n 0, 1) := by decide +kernel
theorem dL_setTolerance_1 : decode cL_setTolerance 1 = .ok (.iload_n 1, 1) := by decide +kernel
theorem dL_setTolerance_2 : decode cL_setTolerance 2 = .ok (.invokevirtual 44, 3) := by decide +kernel
theorem dL_setTolerance_5 : decode cL_setTolerance 5 = .ok (.ireturn, 1) := by decide +kernel
theorem dL_setTolerance_6 : decode cL_setTolerance 6 = .ok (.astore_n 2, 1) := by decide +kernel
theorem dL_setTolerance_7 : decode cL_setTolerance 7 = .ok (.ldc 18, 2) := by decide +kernel
theorem dL_setTolerance_9 : decode cL_setTolerance 9 = .ok (.ireturn, 1) := by decide +kernel
theorem dL_digit_0 : decode cL_digit 0 = .ok (.aload_n 0, 1) := by decide +kernel
theorem dL_digit_1 : decode cL_digit 1 = .ok (.iload_n 1, 1) := by decide +kernel
theorem dL_digit_2 : decode cL_digit 2 = .ok (.invokevirtual 47, 3) := by decide +kernel
theorem dL_digit_5 : decode cL_digit 5 = .ok (.ireturn, 1) := by decide +kernel
theorem dL_digit_6 : decode cL_digit 6 = .ok (.astore_n 2, 1) := by decide +kernel
theorem dL_digit_7 : decode cL_digit 7 = .ok (.ldc 18, 2) := by decide +kernel
theorem dL_digit_9 : decode cL_digit 9 = .ok (.ireturn, 1) := by decide +kernel
theorem dL_nearest_0 : decode cL_nearest 0 = .ok (.aload_n 0, 1) := by decide +kernel
theorem dL_nearest_1 : decode cL_nearest 1 = .ok (.iload_n 1, 1) := by decide +kernel
theorem dL_nearest_2 : decode cL_nearest 2 = .ok (.invokevirtual 50, 3) := by decide +kernel
theorem dL_nearest_5 : decode cL_nearest 5 = .ok (.ireturn, 1) := by decide +kernel
theorem dL_nearest_6 : decode cL_nearest 6 = .ok (.astore_n 2, 1) := by decide +kernel
theorem dL_nearest_7 : decode cL_nearest 7 = .ok (.ldc 18, 2) := by decide +kernel
theorem dL_nearest_9 : decode cL_nearest 9 = .ok (.ireturn, 1) := by decide +kernel
theorem dL_code_0 : decode cL_code 0 = .ok (.aload_n 0, 1) := by decide +kernel
theorem dL_code_1 : decode cL_code 1 = .ok (.iload_n 1, 1) := by decide +kernel
theorem dL_code_2 : decode cL_code 2 = .ok (.invokevirtual 53, 3) := by decide +kernel
theorem dL_code_5 : decode cL_code 5 = .ok (.ireturn, 1) := by decide +kernel
theorem dL_code_6 : decode cL_code 6 = .ok (.astore_n 2, 1) := by decide +kernel
theorem dL_code_7 : decode cL_code 7 = .ok (.ldc 18, 2) := by decide +kernel
theorem dL_code_9 : decode cL_code 9 = .ok (.ireturn, 1) := by decide +kernel
theorem dL_codeLength_0 : decode cL_codeLength 0 = .ok (.aload_n 0, 1) := by decide +kernel
theorem dL_codeLength_1 : decode cL_codeLength 1 = .ok (.iload_n 1, 1) := by decide +kernel
theorem dL_codeLength_2 : decode cL_codeLength 2 = .ok (.invokevirtual 56, 3) := by decide +kernel
theorem dL_codeLength_5 : decode cL_codeLength 5 = .ok (.ireturn, 1) := by decide +kernel
theorem dL_codeLength_6 : decode cL_codeLength 6 = .ok (.astore_n 2, 1) := by decide +kernel
theorem dL_codeLength_7 : decode cL_codeLength 7 = .ok (.ldc 18, 2) := by decide +kernel
theorem dL_codeLength_9 : decode cL_codeLength 9 = .ok (.ireturn, 1) := by decide +kernel
theorem dL_count_0 : decode cL_count 0 = .ok (.aload_n 0, 1) := by decide +kernel
theorem dL_count_1 : decode cL_count 1 = .ok (.iload_n 1, 1) := by decide +kernel
theorem dL_count_2 : decode cL_count 2 = .ok (.invokevirtual 59, 3) := by decide +kernel
theorem dL_count_5 : decode cL_count 5 = .ok (.ireturn, 1) := by decide +kernel
theorem dL_count_6 : decode cL_count 6 = .ok (.astore_n 2, 1) := by decide +kernel
theorem dL_count_7 : decode cL_count 7 = .ok (.ldc 18, 2) := by decide +kernel
theorem dL_count_9 : decode cL_count 9 = .ok (.ireturn, 1) := by decide +kernel
theorem dL_ifDrawn_0 : decode cL_ifDrawn 0 = .ok (.aload_n 0, 1) := by decide +kernel
theorem dL_ifDrawn_1 : decode cL_ifDrawn 1 = .ok (.iload_n 1, 1) := by decide +kernel
theorem dL_ifDrawn_2 : decode cL_ifDrawn 2 = .ok (.iload_n 2, 1) := by decide +kernel
theorem dL_ifDrawn_3 : decode cL_ifDrawn 3 = .ok (.iload_n 3, 1) := by decide +kernel
theorem dL_ifDrawn_4 : decode cL_ifDrawn 4 = .ok (.invokevirtual 62, 3) := by decide +kernel
theorem dL_ifDrawn_7 : decode cL_ifDrawn 7 = .ok (.ireturn, 1) := by decide +kernel
theorem dL_ifDrawn_8 : decode cL_ifDrawn 8 = .ok (.astore 4, 2) := by decide +kernel
theorem dL_ifDrawn_10 : decode cL_ifDrawn 10 = .ok (.ldc 18, 2) := by decide +kernel
theorem dL_ifDrawn_12 : decode cL_ifDrawn 12 = .ok (.ireturn, 1) := by decide +kernel
theorem dL_ifDrawn_13 : decode cL_ifDrawn 13 = .ok (.astore 4, 2) := by decide +kernel
theorem dL_ifDrawn_15 : decode cL_ifDrawn 15 = .ok (.ldc 24, 2) := by decide +kernel
theorem dL_ifDrawn_17 : decode cL_ifDrawn 17 = .ok (.ireturn, 1) := by decide +kernel
theorem dL_greatestSmudge_0 : decode cL_greatestSmudge 0 = .ok (.aload_n 0, 1) := by decide +kernel
theorem dL_greatestSmudge_1 : decode cL_greatestSmudge 1 = .ok (.iload_n 1, 1) := by decide +kernel
theorem dL_greatestSmudge_2 : decode cL_greatestSmudge 2 = .ok (.invokevirtual 65, 3) := by decide +kernel
theorem dL_greatestSmudge_5 : decode cL_greatestSmudge 5 = .ok (.ireturn, 1) := by decide +kernel
theorem dL_greatestSmudge_6 : decode cL_greatestSmudge 6 = .ok (.astore_n 2, 1) := by decide +kernel
theorem dL_greatestSmudge_7 : decode cL_greatestSmudge 7 = .ok (.ldc 18, 2) := by decide +kernel
theorem dL_greatestSmudge_9 : decode cL_greatestSmudge 9 = .ok (.ireturn, 1) := by decide +kernel
theorem dL_undo_0 : decode cL_undo 0 = .ok (.aload_n 0, 1) := by decide +kernel
theorem dL_undo_1 : decode cL_undo 1 = .ok (.invokevirtual 68, 3) := by decide +kernel
theorem dL_undo_4 : decode cL_undo 4 = .ok (.ireturn, 1) := by decide +kernel
theorem dL_undo_5 : decode cL_undo 5 = .ok (.astore_n 1, 1) := by decide +kernel
theorem dL_undo_6 : decode cL_undo 6 = .ok (.ldc 18, 2) := by decide +kernel
theorem dL_undo_8 : decode cL_undo 8 = .ok (.ireturn, 1) := by decide +kernel
theorem WW_0 (a : Nat → Nat) (K KS : ClassId) (st : ST) (hs : HT) (sc : SCT) : (WW a K KS st hs sc)[0]? = some (a 0, .inr (7, [.ref (a 1), .ref (a 16), .ref (a 18), .ref (a 23), .ref (a 25), .ref (a 27)])) := by
  obtain ⟨nd, df, ns, zf, tn, tf, k, f, g, cn, tol, suc, fai⟩ := st
  obtain ⟨nx, kp, rg⟩ := hs
  obtain ⟨r1, r2, r3, r4, r5, r6, rn, rdf, rln, rlf, fon, fof⟩ := sc
  rfl
theorem low_ne {n : Nat} (h0 : 0 < n) (hn : n < 2 ^ 31) : ¬ nI n = 0 := nI_ne0 h0 hn
set_option maxHeartbeats 4000000 in
set_option maxRecDepth 100000 in
theorem c_low (l : Launch) (D : va_G) (v : Int32) (n : Int32) (hn0 : ¬ n = 0) (sz : Nat) : k_Mi (S := Unit) l D yL_low cL_low 2 (some .int) 0 0 0 0 [.int v, .int n] [] [] (fun (r : Int32) (_ : Unit) => r = (lowF v n)) (fun _ => []) (fun _ => []) sz := by
  refine Met.ofW (cc := cL_low) (maxL := 2) (ret := (some .int)) (by decide) rfl ?_
  intro p e s m args below meth c s₁ B hml hv
  obtain ⟨rfl, hsz, hP, hK, hD0, hG⟩ := hv
  have hx := B.exec
  have hb := B.bytes
  have hr := B.returns
  have ht : ∀ v9 ∈ wsA, v9.before ([.int v, .int n] : List Value).toArray s = true := fun v9 h9 => atoms_spec (ws := k_ws yL_low cL_low 2 (some .int)) B.pre v9 (List.mem_cons_of_mem _ h9)
  have hown : s.vm.findClass RL = some m.cls := findClass_of_methodNamed B.named
  have S0 : k_C p s m ([.int v, .int n] : List Value).toArray c cL_low 2 RL := ⟨hx, hb, hml, hown, ht⟩
  have hlocks := B.notSynchronized
  subst hsz
  have hD := hD0.self (sz := s.heap.size)
  generalize hAe : va_A [] s.heap.size = A at hD hG ⊢
  have hA : ∀ q : Nat, s.heap.size ≤ q → A q := fun q h => by rw [← hAe]; exact Or.inr h
  have hS : va_S A s.heap s.heap [] := va_S.rf
  have hl := lv_entry ([.int v, .int n]) (n := 2) (Nat.le_of_ble_eq_true rfl)
  rw [lg_entry_eq]
  generalize (lg_sl ([.int v, .int n]) ++ List.replicate (2 - (lg_sl ([.int v, .int n])).length) Slot.unset).toArray = ls at hl ⊢
  have hl : lv_has ls 2 [(0, .int v), (1, .int n)] := hl
  have hP : va_P D vwCl [] s.heap := hP
  refine lv_iload_n hx hb dL_low_0 rfl (lv_at hl 0 rfl) ?_
  refine lv_ldc (v := 2147483647) hx hb hown (ht _ lx_L_9) dL_low_1 ?_
  refine lv_iand hx hb dL_low_3 ?_
  refine k_nrm (y := (v &&& 2147483647)) (rfl) ?_
  refine lv_iload_n hx hb dL_low_4 rfl (lv_at hl 1 rfl) ?_
  refine lv_irem hx hb dL_low_5 hn0 ?_
  refine k_nrm (y := (lowF v n)) (rfl) ?_
  have hP9 : va_P D vwCl [] s.heap := hP.sub [] rfl
  have hD9 : va_D A [] := hD.sub [] (by decide) rfl
  have hK9 : va_K D vwCl [] s := hK.sub [] rfl
  exact W.iret (v := (lowF v n)) hx hb hr (fun t ht9 hW9 => ⟨⟨(lowF v n), (), rfl, by first | rfl | trivial | (simp only [if_true, if_false, reduceIte, and_self]; done) | simp_all, ⟨by rw [ht9]; exact hP9, va_K.moved hW9.alike hK9, hD9⟩⟩, hS.F ht9⟩) hS.2.2 dL_low_6
set_option maxHeartbeats 4000000 in
set_option maxRecDepth 100000 in
theorem c_L_print (l : Launch) (D : va_G) (a : Nat → Nat) (K : ClassId) (KS : ClassId) (st : ST) (hs : HT) (sc : SCT) (d : Int32) (j : Nat) (hbst : bST st) (hh : okH hs) (hj1 : 1 ≤ j) (hj8 : j ≤ 8) (hd0 : ¬ d < 0) (hd1 : d < pw10 j) (sz : Nat) : k_Wi (S := Unit) l D yL_print cL_print 4 (some .int) [(0, 6, 7, 16)] 7 0 0 149 [.ref (a 0), .int d, .int (nI j)] ((WW a K KS st hs sc)) [(K, .int), (KS, .object "BarcodeWand$State")] (fun (r : Int32) (_ : Unit) => r = (chkd (cS d j))) (fun _ => ((WW a K KS (setP d j st) (svH hs st) sc))) (fun _ => []) sz := by
  refine va_MetW (cc := cL_print) (maxL := 4) (ret := (some .int)) (hh := [(0, 6, 7, 16)]) (by decide) rfl ?_
  intro p e s m args below meth c s₁ B hml hv
  obtain ⟨rfl, hsz, hP, hK, hD0, hG⟩ := hv
  have hx := B.exec
  have hb := B.bytes
  have hr := B.returns
  have ht : ∀ v9 ∈ wsA, v9.before ([.ref (a 0), .int d, .int (nI j)] : List Value).toArray s = true := fun v9 h9 => atoms_spec (ws := Cond.codeWith yL_print cL_print 4 (some .int) [(0, 6, 7, 16)] :: wsA) B.pre v9 (List.mem_cons_of_mem _ h9)
  have htab : c.exceptionTable.toList = tableOf [(0, 6, 7, 16)] := vx_table (x := yL_print) B (atoms_spec (ws := Cond.codeWith yL_print cL_print 4 (some .int) [(0, 6, 7, 16)] :: wsA) B.pre _ List.mem_cons_self)
  have hown : s.vm.findClass RL = some m.cls := findClass_of_methodNamed B.named
  have S0 : k_C p s m ([.ref (a 0), .int d, .int (nI j)] : List Value).toArray c cL_print 4 RL := ⟨hx, hb, hml, hown, ht⟩
  have hlocks := B.notSynchronized
  subst hsz
  have hD := hD0.self (sz := s.heap.size)
  generalize hAe : va_A ((WW a K KS st hs sc)) s.heap.size = A at hD hG ⊢
  have hA : ∀ q : Nat, s.heap.size ≤ q → A q := fun q h => by rw [← hAe]; exact Or.inr h
  have hS : va_S A s.heap s.heap [] := va_S.rf
  have hl := lv_entry ([.ref (a 0), .int d, .int (nI j)]) (n := 4) (Nat.le_of_ble_eq_true rfl)
  rw [lg_entry_eq]
  generalize (lg_sl ([.ref (a 0), .int d, .int (nI j)]) ++ List.replicate (4 - (lg_sl ([.ref (a 0), .int d, .int (nI j)])).length) Slot.unset).toArray = ls at hl ⊢
  have hl : lv_has ls 4 [(0, .ref (a 0)), (1, .int d), (2, .int (nI j))] := hl
  have hP : va_P D vwCl ((WW a K KS st hs sc)) s.heap := hP
  refine lv_aload_n hx hb dL_print_0 rfl (lv_at hl 0 rfl) ?_
  refine lv_iload_n hx hb dL_print_1 rfl (lv_at hl 1 rfl) ?_
  refine lv_iload_n hx hb dL_print_2 rfl (lv_at hl 2 rfl) ?_
  have ct := k_cut_TT (wp := []) (T := (WW a K KS st hs sc)) (wc := []) (wr := []) (tc := [(K, .int), (KS, .object "BarcodeWand$State")]) hG hS hA hK hP hD [] [] [0, 1] rfl rfl (by decide) (by decide) (by decide) rfl
  refine k_endi (As := [.ref (a 0), .int d, .int (nI j)]) ct (k_runV (As := [.int d, .int (nI j)]) (rest := []) S0 Lv_L_10 rfl (ci := 7) (q0 := 0) rfl (WW_0 a K KS st hs sc) ct (c_B_print l D a K KS st hs sc d j (by assumption) (by assumption) (by assumption) (by assumption) (by assumption) (by assumption) s.heap.size) hl.1 rfl (Nat.le_of_ble_eq_true rfl) rfl dL_print_3 ⟨⟨Nat.le_of_ble_eq_true rfl, Nat.le_of_ble_eq_true rfl⟩, Nat.le_of_ble_eq_true rfl, Nat.le_of_ble_eq_true rfl⟩) rfl rfl (fun r_1 _ H locs hw_2 hP hD hK hS => ?_)
  have hK : va_K D vwCl [(K, .int), (KS, .object "BarcodeWand$State")] s := hK
  have hP : va_P D vwCl ((WW a K KS (setP d j st) (svH hs st) sc)) H := hP
  have hD : va_D A ((WW a K KS (setP d j st) (svH hs st) sc)) := hD
  have hw_2 : r_1 = (chkd (cS d j)) := hw_2
  have hw_2 := hw_2.symm
  subst hw_2
  refine k_nrm (y := (chkd (cS d j))) rfl ?_
  have hP9 : va_P D vwCl ((WW a K KS (setP d j st) (svH hs st) sc)) H := k_subP (wp := []) (wp' := []) (T := (WW a K KS (setP d j st) (svH hs st) sc)) hP [] rfl
  have hD9 : va_D A ((WW a K KS (setP d j st) (svH hs st) sc)) := k_subD (wp := []) (wp' := []) (T := (WW a K KS (setP d j st) (svH hs st) sc)) hD [] (by decide) rfl
  have hP9 : va_P D vwCl ((WW a K KS (setP d j st) (svH hs st) sc)) H := hP9
  have hD9 : va_D A ((WW a K KS (setP d j st) (svH hs st) sc)) := hD9
  have hK9 : va_K D vwCl [] s := hK.sub [] rfl
  exact W.iret (v := (chkd (cS d j))) hx hb hr (fun t ht9 hW9 => ⟨⟨(chkd (cS d j)), (), rfl, by rfl, ⟨by rw [ht9]; exact hP9, va_K.moved hW9.alike hK9, hD9⟩⟩, hS.F ht9⟩) hS.2.2 dL_print_6
set_option maxHeartbeats 4000000 in
set_option maxRecDepth 100000 in
theorem c_L_smudge (l : Launch) (D : va_G) (a : Nat → Nat) (K : ClassId) (KS : ClassId) (st : ST) (hs : HT) (sc : SCT) (en : Nat) (x : Int32) (hbst : bST st) (hh : okH hs) (hx1 : ¬ x < (-9)) (hx2 : x ≤ 9) (hen : en < s_ns st) (sz : Nat) : k_Wi (S := Unit) l D yL_smudge cL_smudge 4 (some .int) [(0, 6, 7, 22), (0, 6, 11, 16)] 7 0 0 150 [.ref (a 0), .int (nI en), .int x] ((WW a K KS st hs sc)) [(K, .int), (KS, .object "BarcodeWand$State")] (fun (r : Int32) (_ : Unit) => r = (s_zf st en)) (fun _ => ((WW a K KS (setZ en x st) (svH hs st) sc))) (fun _ => []) sz := by
  refine va_MetW (cc := cL_smudge) (maxL := 4) (ret := (some .int)) (hh := [(0, 6, 7, 22), (0, 6, 11, 16)]) (by decide) rfl ?_
  intro p e s m args below meth c s₁ B hml hv
  obtain ⟨rfl, hsz, hP, hK, hD0, hG⟩ := hv
  have hx := B.exec
  have hb := B.bytes
  have hr := B.returns
  have ht : ∀ v9 ∈ wsA, v9.before ([.ref (a 0), .int (nI en), .int x] : List Value).toArray s = true := fun v9 h9 => atoms_spec (ws := Cond.codeWith yL_smudge cL_smudge 4 (some .int) [(0, 6, 7, 22), (0, 6, 11, 16)] :: wsA) B.pre v9 (List.mem_cons_of_mem _ h9)
  have htab : c.exceptionTable.toList = tableOf [(0, 6, 7, 22), (0, 6, 11, 16)] := vx_table (x := yL_smudge) B (atoms_spec (ws := Cond.codeWith yL_smudge cL_smudge 4 (some .int) [(0, 6, 7, 22), (0, 6, 11, 16)] :: wsA) B.pre _ List.mem_cons_self)
  have hown : s.vm.findClass RL = some m.cls := findClass_of_methodNamed B.named
  have S0 : k_C p s m ([.ref (a 0), .int (nI en), .int x] : List Value).toArray c cL_smudge 4 RL := ⟨hx, hb, hml, hown, ht⟩
  have hlocks := B.notSynchronized
  subst hsz
  have hD := hD0.self (sz := s.heap.size)
  generalize hAe : va_A ((WW a K KS st hs sc)) s.heap.size = A at hD hG ⊢
  have hA : ∀ q : Nat, s.heap.size ≤ q → A q := fun q h => by rw [← hAe]; exact Or.inr h
  have hS : va_S A s.heap s.heap [] := va_S.rf
  have hl := lv_entry ([.ref (a 0), .int (nI en), .int x]) (n := 4) (Nat.le_of_ble_eq_true rfl)
  rw [lg_entry_eq]
  generalize (lg_sl ([.ref (a 0), .int (nI en), .int x]) ++ List.replicate (4 - (lg_sl ([.ref (a 0), .int (nI en), .int x])).length) Slot.unset).toArray = ls at hl ⊢
  have hl : lv_has ls 4 [(0, .ref (a 0)), (1, .int (nI en)), (2, .int x)] := hl
  have hP : va_P D vwCl ((WW a K KS st hs sc)) s.heap := hP
  refine lv_aload_n hx hb dL_smudge_0 rfl (lv_at hl 0 rfl) ?_
  refine lv_iload_n hx hb dL_smudge_1 rfl (lv_at hl 1 rfl) ?_
  refine lv_iload_n hx hb dL_smudge_2 rfl (lv_at hl 2 rfl) ?_
  have ct := k_cut_TT (wp := []) (T := (WW a K KS st hs sc)) (wc := []) (wr := []) (tc := [(K, .int), (KS, .object "BarcodeWand$State")]) hG hS hA hK hP hD [] [] [0, 1] rfl rfl (by decide) (by decide) (by decide) rfl
  refine k_endi (As := [.ref (a 0), .int (nI en), .int x]) ct (k_runV (As := [.int (nI en), .int x]) (rest := []) S0 Lv_L_19 rfl (ci := 7) (q0 := 0) rfl (WW_0 a K KS st hs sc) ct (c_B_smudge l D a K KS st hs sc en x (by assumption) (by assumption) (by assumption) (by assumption) (by assumption) s.heap.size) hl.1 rfl (Nat.le_of_ble_eq_true rfl) rfl dL_smudge_3 ⟨⟨Nat.le_of_ble_eq_true rfl, Nat.le_of_ble_eq_true rfl⟩, Nat.le_of_ble_eq_true rfl, Nat.le_of_ble_eq_true rfl⟩) rfl rfl (fun r_1 _ H locs hw_2 hP hD hK hS => ?_)
  have hK : va_K D vwCl [(K, .int), (KS, .object "BarcodeWand$State")] s := hK
  have hP : va_P D vwCl ((WW a K KS (setZ en x st) (svH hs st) sc)) H := hP
  have hD : va_D A ((WW a K KS (setZ en x st) (svH hs st) sc)) := hD
  have hw_2 : r_1 = (s_zf st en) := hw_2
  have hw_2 := hw_2.symm
  subst hw_2
  refine k_nrm (y := (s_zf st en)) rfl ?_
  have hP9 : va_P D vwCl ((WW a K KS (setZ en x st) (svH hs st) sc)) H := k_subP (wp := []) (wp' := []) (T := (WW a K KS (setZ en x st) (svH hs st) sc)) hP [] rfl
  have hD9 : va_D A ((WW a K KS (setZ en x st) (svH hs st) sc)) := k_subD (wp := []) (wp' := []) (T := (WW a K KS (setZ en x st) (svH hs st) sc)) hD [] (by decide) rfl
  have hP9 : va_P D vwCl ((WW a K KS (setZ en x st) (svH hs st) sc)) H := hP9
  have hD9 : va_D A ((WW a K KS (setZ en x st) (svH hs st) sc)) := hD9
  have hK9 : va_K D vwCl [] s := hK.sub [] rfl
  exact W.iret (v := (s_zf st en)) hx hb hr (fun t ht9 hW9 => ⟨⟨(s_zf st en), (), rfl, by rfl, ⟨by rw [ht9]; exact hP9, va_K.moved hW9.alike hK9, hD9⟩⟩, hS.F ht9⟩) hS.2.2 dL_smudge_6
set_option maxHeartbeats 4000000 in
set_option maxRecDepth 100000 in
theorem c_L_width (l : Launch) (D : va_G) (a : Nat → Nat) (K : ClassId) (KS : ClassId) (st : ST) (hs : HT) (sc : SCT) (x : Int32) (hxi : inR x (nI (s_ns st)) = 1) (sz : Nat) : k_Wi (S := Unit) l D yL_width cL_width 3 (some .int) [(0, 5, 6, 22)] 4 0 0 85 [.ref (a 0), .int x] ((WW a K KS st hs sc)) [(K, .int), (KS, .object "BarcodeWand$State")] (fun (r : Int32) (_ : Unit) => r = (widF (s_nd st) (s_df st) (nI (s_ns st)) x)) (fun _ => ((WW a K KS st hs sc))) (fun _ => []) sz := by
  refine va_MetW (cc := cL_width) (maxL := 3) (ret := (some .int)) (hh := [(0, 5, 6, 22)]) (by decide) rfl ?_
  intro p e s m args below meth c s₁ B hml hv
  obtain ⟨rfl, hsz, hP, hK, hD0, hG⟩ := hv
  have hx := B.exec
  have hb := B.bytes
  have hr := B.returns
  have ht : ∀ v9 ∈ wsA, v9.before ([.ref (a 0), .int x] : List Value).toArray s = true := fun v9 h9 => atoms_spec (ws := Cond.codeWith yL_width cL_width 3 (some .int) [(0, 5, 6, 22)] :: wsA) B.pre v9 (List.mem_cons_of_mem _ h9)
  have htab : c.exceptionTable.toList = tableOf [(0, 5, 6, 22)] := vx_table (x := yL_width) B (atoms_spec (ws := Cond.codeWith yL_width cL_width 3 (some .int) [(0, 5, 6, 22)] :: wsA) B.pre _ List.mem_cons_self)
  have hown : s.vm.findClass RL = some m.cls := findClass_of_methodNamed B.named
  have S0 : k_C p s m ([.ref (a 0), .int x] : List Value).toArray c cL_width 3 RL := ⟨hx, hb, hml, hown, ht⟩
  have hlocks := B.notSynchronized
  subst hsz
  have hD := hD0.self (sz := s.heap.size)
  generalize hAe : va_A ((WW a K KS st hs sc)) s.heap.size = A at hD hG ⊢
  have hA : ∀ q : Nat, s.heap.size ≤ q → A q := fun q h => by rw [← hAe]; exact Or.inr h
  have hS : va_S A s.heap s.heap [] := va_S.rf
  have hl := lv_entry ([.ref (a 0), .int x]) (n := 3) (Nat.le_of_ble_eq_true rfl)
  rw [lg_entry_eq]
  generalize (lg_sl ([.ref (a 0), .int x]) ++ List.replicate (3 - (lg_sl ([.ref (a 0), .int x])).length) Slot.unset).toArray = ls at hl ⊢
  have hl : lv_has ls 3 [(0, .ref (a 0)), (1, .int x)] := hl
  have hP : va_P D vwCl ((WW a K KS st hs sc)) s.heap := hP
  refine lv_aload_n hx hb dL_width_0 rfl (lv_at hl 0 rfl) ?_
  refine lv_iload_n hx hb dL_width_1 rfl (lv_at hl 1 rfl) ?_
  have ct := k_cut_TT (wp := []) (T := (WW a K KS st hs sc)) (wc := []) (wr := []) (tc := [(K, .int), (KS, .object "BarcodeWand$State")]) hG hS hA hK hP hD [] [] [0, 1] rfl rfl (by decide) (by decide) (by decide) rfl
  refine k_endi (As := [.ref (a 0), .int x]) ct (k_runV (As := [.int x]) (rest := []) S0 Lv_L_25 rfl (ci := 7) (q0 := 0) rfl (WW_0 a K KS st hs sc) ct (c_B_width l D a K KS st hs sc x (by assumption) s.heap.size) hl.1 rfl (Nat.le_of_ble_eq_true rfl) rfl dL_width_2 ⟨⟨Nat.le_of_ble_eq_true rfl, Nat.le_of_ble_eq_true rfl⟩, Nat.le_of_ble_eq_true rfl, Nat.le_of_ble_eq_true rfl⟩) rfl rfl (fun r_1 _ H locs hw_2 hP hD hK hS => ?_)
  have hK : va_K D vwCl [(K, .int), (KS, .object "BarcodeWand$State")] s := hK
  have hP : va_P D vwCl ((WW a K KS st hs sc)) H := hP
  have hD : va_D A ((WW a K KS st hs sc)) := hD
  have hw_2 : r_1 = (widF (s_nd st) (s_df st) (nI (s_ns st)) x) := hw_2
  have hw_2 := hw_2.symm
  subst hw_2
  refine k_nrm (y := (widF (s_nd st) (s_df st) (nI (s_ns st)) x)) rfl ?_
  have hP9 : va_P D vwCl ((WW a K KS st hs sc)) H := k_subP (wp := []) (wp' := []) (T := (WW a K KS st hs sc)) hP [] rfl
  have hD9 : va_D A ((WW a K KS st hs sc)) := k_subD (wp := []) (wp' := []) (T := (WW a K KS st hs sc)) hD [] (by decide) rfl
  have hP9 : va_P D vwCl ((WW a K KS st hs sc)) H := hP9
  have hD9 : va_D A ((WW a K KS st hs sc)) := hD9
  have hK9 : va_K D vwCl [] s := hK.sub [] rfl
  exact W.iret (v := (widF (s_nd st) (s_df st) (nI (s_ns st)) x)) hx hb hr (fun t ht9 hW9 => ⟨⟨(widF (s_nd st) (s_df st) (nI (s_ns st)) x), (), rfl, by rfl, ⟨by rw [ht9]; exact hP9, va_K.moved hW9.alike hK9, hD9⟩⟩, hS.F ht9⟩) hS.2.2 dL_width_5
set_option maxHeartbeats 4000000 in
set_option maxRecDepth 100000 in
theorem c_L_labelDigit (l : Launch) (D : va_G) (a : Nat → Nat) (K : ClassId) (KS : ClassId) (st : ST) (hs : HT) (sc : SCT) (x : Int32) (hxi : inR x (nI (s_nd st)) = 1) (sz : Nat) : k_Wi (S := Unit) l D yL_labelDigit cL_labelDigit 3 (some .int) [(0, 5, 6, 22)] 2 0 0 42 [.ref (a 0), .int x] ((WW a K KS st hs sc)) [(K, .int), (KS, .object "BarcodeWand$State")] (fun (r : Int32) (_ : Unit) => r = (rowAt 9 (nI (s_nd st)) (s_df st) x)) (fun _ => ((WW a K KS st hs sc))) (fun _ => []) sz := by
  refine va_MetW (cc := cL_labelDigit) (maxL := 3) (ret := (some .int)) (hh := [(0, 5, 6, 22)]) (by decide) rfl ?_
  intro p e s m args below meth c s₁ B hml hv
  obtain ⟨rfl, hsz, hP, hK, hD0, hG⟩ := hv
  have hx := B.exec
  have hb := B.bytes
  have hr := B.returns
  have ht : ∀ v9 ∈ wsA, v9.before ([.ref (a 0), .int x] : List Value).toArray s = true := fun v9 h9 => atoms_spec (ws := Cond.codeWith yL_labelDigit cL_labelDigit 3 (some .int) [(0, 5, 6, 22)] :: wsA) B.pre v9 (List.mem_cons_of_mem _ h9)
  have htab : c.exceptionTable.toList = tableOf [(0, 5, 6, 22)] := vx_table (x := yL_labelDigit) B (atoms_spec (ws := Cond.codeWith yL_labelDigit cL_labelDigit 3 (some .int) [(0, 5, 6, 22)] :: wsA) B.pre _ List.mem_cons_self)
  have hown : s.vm.findClass RL = some m.cls := findClass_of_methodNamed B.named
  have S0 : k_C p s m ([.ref (a 0), .int x] : List Value).toArray c cL_labelDigit 3 RL := ⟨hx, hb, hml, hown, ht⟩
  have hlocks := B.notSynchronized
  subst hsz
  have hD := hD0.self (sz := s.heap.size)
  generalize hAe : va_A ((WW a K KS st hs sc)) s.heap.size = A at hD hG ⊢
  have hA : ∀ q : Nat, s.heap.size ≤ q → A q := fun q h => by rw [← hAe]; exact Or.inr h
  have hS : va_S A s.heap s.heap [] := va_S.rf
  have hl := lv_entry ([.ref (a 0), .int x]) (n := 3) (Nat.le_of_ble_eq_true rfl)
  rw [lg_entry_eq]
  generalize (lg_sl ([.ref (a 0), .int x]) ++ List.replicate (3 - (lg_sl ([.ref (a 0), .int x])).length) Slot.unset).toArray = ls at hl ⊢
  have hl : lv_has ls 3 [(0, .ref (a 0)), (1, .int x)] := hl
  have hP : va_P D vwCl ((WW a K KS st hs sc)) s.heap := hP
  refine lv_aload_n hx hb dL_labelDigit_0 rfl (lv_at hl 0 rfl) ?_
  refine lv_iload_n hx hb dL_labelDigit_1 rfl (lv_at hl 1 rfl) ?_
  have ct := k_cut_TT (wp := []) (T := (WW a K KS st hs sc)) (wc := []) (wr := []) (tc := [(K, .int), (KS, .object "BarcodeWand$State")]) hG hS hA hK hP hD [] [] [0, 1] rfl rfl (by decide) (by decide) (by decide) rfl
  refine k_endi (As := [.ref (a 0), .int x]) ct (k_runV (As := [.int x]) (rest := []) S0 Lv_L_29 rfl (ci := 7) (q0 := 0) rfl (WW_0 a K KS st hs sc) ct (c_B_labelDigit l D a K KS st hs sc x (by assumption) s.heap.size) hl.1 rfl (Nat.le_of_ble_eq_true rfl) rfl dL_labelDigit_2 ⟨⟨Nat.le_of_ble_eq_true rfl, Nat.le_of_ble_eq_true rfl⟩, Nat.le_of_ble_eq_true rfl, Nat.le_of_ble_eq_true rfl⟩) rfl rfl (fun r_1 _ H locs hw_2 hP hD hK hS => ?_)
  have hK : va_K D vwCl [(K, .int), (KS, .object "BarcodeWand$State")] s := hK
  have hP : va_P D vwCl ((WW a K KS st hs sc)) H := hP
  have hD : va_D A ((WW a K KS st hs sc)) := hD
  have hw_2 : r_1 = (rowAt 9 (nI (s_nd st)) (s_df st) x) := hw_2
  have hw_2 := hw_2.symm
  subst hw_2
  refine k_nrm (y := (rowAt 9 (nI (s_nd st)) (s_df st) x)) rfl ?_
  have hP9 : va_P D vwCl ((WW a K KS st hs sc)) H := k_subP (wp := []) (wp' := []) (T := (WW a K KS st hs sc)) hP [] rfl
  have hD9 : va_D A ((WW a K KS st hs sc)) := k_subD (wp := []) (wp' := []) (T := (WW a K KS st hs sc)) hD [] (by decide) rfl
  have hP9 : va_P D vwCl ((WW a K KS st hs sc)) H := hP9
  have hD9 : va_D A ((WW a K KS st hs sc)) := hD9
  have hK9 : va_K D vwCl [] s := hK.sub [] rfl
  exact W.iret (v := (rowAt 9 (nI (s_nd st)) (s_df st) x)) hx hb hr (fun t ht9 hW9 => ⟨⟨(rowAt 9 (nI (s_nd st)) (s_df st) x), (), rfl, by rfl, ⟨by rw [ht9]; exact hP9, va_K.moved hW9.alike hK9, hD9⟩⟩, hS.F ht9⟩) hS.2.2 dL_labelDigit_5
set_option maxHeartbeats 4000000 in
set_option maxRecDepth 100000 in
theorem c_L_draw (l : Launch) (D : va_G) (a : Nat → Nat) (K : ClassId) (KS : ClassId) (st : ST) (hs : HT) (sc : SCT) (lf : Int32) (rt : Int32) (b : Int32) (hbst : bST st) (hh : okH hs) (hp : k_per lf rt) (hne : ¬ s_ns st = 0) (sz : Nat) : k_Wi (S := ST × SCT) l D yL_draw cL_draw 5 (some .int) [(0, 7, 8, 16), (0, 7, 13, 36)] 7 0 0 150 [.ref (a 0), .int lf, .int rt, .int b] ((WW a K KS st hs sc)) [(K, .int), (KS, .object "BarcodeWand$State")] (fun (r : Int32) (u : ST × SCT) => match u with | (st1, sc1) => RC (setT (s_ns st) (cpy (s_drw st lf rt b) (s_tf st) (s_ns st)) st) st1 r) (fun u => match u with | (st1, sc1) => ((WW a K KS st1 (svH hs st) sc1))) (fun u => match u with | (st1, sc1) => []) sz := by
  refine va_MetW (cc := cL_draw) (maxL := 5) (ret := (some .int)) (hh := [(0, 7, 8, 16), (0, 7, 13, 36)]) (by decide) rfl ?_
  intro p e s m args below meth c s₁ B hml hv
  obtain ⟨rfl, hsz, hP, hK, hD0, hG⟩ := hv
  have hx := B.exec
  have hb := B.bytes
  have hr := B.returns
  have ht : ∀ v9 ∈ wsA, v9.before ([.ref (a 0), .int lf, .int rt, .int b] : List Value).toArray s = true := fun v9 h9 => atoms_spec (ws := Cond.codeWith yL_draw cL_draw 5 (some .int) [(0, 7, 8, 16), (0, 7, 13, 36)] :: wsA) B.pre v9 (List.mem_cons_of_mem _ h9)
  have htab : c.exceptionTable.toList = tableOf [(0, 7, 8, 16), (0, 7, 13, 36)] := vx_table (x := yL_draw) B (atoms_spec (ws := Cond.codeWith yL_draw cL_draw 5 (some .int) [(0, 7, 8, 16), (0, 7, 13, 36)] :: wsA) B.pre _ List.mem_cons_self)
  have hown : s.vm.findClass RL = some m.cls := findClass_of_methodNamed B.named
  have S0 : k_C p s m ([.ref (a 0), .int lf, .int rt, .int b] : List Value).toArray c cL_draw 5 RL := ⟨hx, hb, hml, hown, ht⟩
  have hlocks := B.notSynchronized
  subst hsz
  have hD := hD0.self (sz := s.heap.size)
  generalize hAe : va_A ((WW a K KS st hs sc)) s.heap.size = A at hD hG ⊢
  have hA : ∀ q : Nat, s.heap.size ≤ q → A q := fun q h => by rw [← hAe]; exact Or.inr h
  have hS : va_S A s.heap s.heap [] := va_S.rf
  have hl := lv_entry ([.ref (a 0), .int lf, .int rt, .int b]) (n := 5) (Nat.le_of_ble_eq_true rfl)
  rw [lg_entry_eq]
  generalize (lg_sl ([.ref (a 0), .int lf, .int rt, .int b]) ++ List.replicate (5 - (lg_sl ([.ref (a 0), .int lf, .int rt, .int b])).length) Slot.unset).toArray = ls at hl ⊢
  have hl : lv_has ls 5 [(0, .ref (a 0)), (1, .int lf), (2, .int rt), (3, .int b)] := hl
  have hP : va_P D vwCl ((WW a K KS st hs sc)) s.heap := hP
  refine lv_aload_n hx hb dL_draw_0 rfl (lv_at hl 0 rfl) ?_
  refine lv_iload_n hx hb dL_draw_1 rfl (lv_at hl 1 rfl) ?_
  refine lv_iload_n hx hb dL_draw_2 rfl (lv_at hl 2 rfl) ?_
  refine lv_iload_n hx hb dL_draw_3 rfl (lv_at hl 3 rfl) ?_
  have ct := k_cut_TT (wp := []) (T := (WW a K KS st hs sc)) (wc := []) (wr := []) (tc := [(K, .int), (KS, .object "BarcodeWand$State")]) hG hS hA hK hP hD [] [] [0, 1] rfl rfl (by decide) (by decide) (by decide) rfl
  refine k_endi (As := [.ref (a 0), .int lf, .int rt, .int b]) ct (k_runV (As := [.int lf, .int rt, .int b]) (rest := []) S0 Lv_L_32 rfl (ci := 7) (q0 := 0) rfl (WW_0 a K KS st hs sc) ct (c_B_draw l D a K KS st hs sc lf rt b (by assumption) (by assumption) (by assumption) (by assumption) s.heap.size) hl.1 rfl (Nat.le_of_ble_eq_true rfl) rfl dL_draw_4 ⟨⟨Nat.le_of_ble_eq_true rfl, Nat.le_of_ble_eq_true rfl⟩, Nat.le_of_ble_eq_true rfl, Nat.le_of_ble_eq_true rfl⟩) rfl rfl (fun r_1 u H locs hw_4 hP hD hK hS => ?_)
  obtain ⟨st1v_2, sc1v_3⟩ := u
  have hK : va_K D vwCl [(K, .int), (KS, .object "BarcodeWand$State")] s := hK
  have hP : va_P D vwCl ((WW a K KS st1v_2 (svH hs st) sc1v_3)) H := hP
  have hD : va_D A ((WW a K KS st1v_2 (svH hs st) sc1v_3)) := hD
  have hw_4 : RC (setT (s_ns st) (cpy (s_drw st lf rt b) (s_tf st) (s_ns st)) st) st1v_2 r_1 := hw_4
  have hP9 : va_P D vwCl ((WW a K KS st1v_2 (svH hs st) sc1v_3)) H := k_subP (wp := []) (wp' := []) (T := (WW a K KS st1v_2 (svH hs st) sc1v_3)) hP [] rfl
  have hD9 : va_D A ((WW a K KS st1v_2 (svH hs st) sc1v_3)) := k_subD (wp := []) (wp' := []) (T := (WW a K KS st1v_2 (svH hs st) sc1v_3)) hD [] (by decide) rfl
  have hP9 : va_P D vwCl ((WW a K KS st1v_2 (svH hs st) sc1v_3)) H := hP9
  have hD9 : va_D A ((WW a K KS st1v_2 (svH hs st) sc1v_3)) := hD9
  have hK9 : va_K D vwCl [] s := hK.sub [] rfl
  exact W.iret (v := r_1) hx hb hr (fun t ht9 hW9 => ⟨⟨r_1, (st1v_2, sc1v_3), rfl, by first | rfl | exact hw_4, ⟨by rw [ht9]; exact hP9, va_K.moved hW9.alike hK9, hD9⟩⟩, hS.F ht9⟩) hS.2.2 dL_draw_7
set_option maxHeartbeats 4000000 in
set_option maxRecDepth 100000 in
theorem c_L_measure (l : Launch) (D : va_G) (a : Nat → Nat) (K : ClassId) (KS : ClassId) (st : ST) (hs : HT) (sc : SCT) (x : Int32) (hbst : bST st) (hh : okH hs) (hx1 : ¬ x < 1) (hx2 : x ≤ 9999) (h41 : s_tn st < 41) (sz : Nat) : k_Wi (S := Unit) l D yL_measure cL_measure 3 (some .int) [(0, 5, 6, 16), (0, 5, 10, 36)] 7 0 0 148 [.ref (a 0), .int x] ((WW a K KS st hs sc)) [(K, .int), (KS, .object "BarcodeWand$State")] (fun (r : Int32) (_ : Unit) => r = (nI (s_tn st + 1))) (fun _ => ((WW a K KS (setT (s_tn st + 1) (upd (s_tf st) (s_tn st) x) st) (svH hs st) sc))) (fun _ => []) sz := by
  refine va_MetW (cc := cL_measure) (maxL := 3) (ret := (some .int)) (hh := [(0, 5, 6, 16), (0, 5, 10, 36)]) (by decide) rfl ?_
  intro p e s m args below meth c s₁ B hml hv
  obtain ⟨rfl, hsz, hP, hK, hD0, hG⟩ := hv
  have hx := B.exec
  have hb := B.bytes
  have hr := B.returns
  have ht : ∀ v9 ∈ wsA, v9.before ([.ref (a 0), .int x] : List Value).toArray s = true := fun v9 h9 => atoms_spec (ws := Cond.codeWith yL_measure cL_measure 3 (some .int) [(0, 5, 6, 16), (0, 5, 10, 36)] :: wsA) B.pre v9 (List.mem_cons_of_mem _ h9)
  have htab : c.exceptionTable.toList = tableOf [(0, 5, 6, 16), (0, 5, 10, 36)] := vx_table (x := yL_measure) B (atoms_spec (ws := Cond.codeWith yL_measure cL_measure 3 (some .int) [(0, 5, 6, 16), (0, 5, 10, 36)] :: wsA) B.pre _ List.mem_cons_self)
  have hown : s.vm.findClass RL = some m.cls := findClass_of_methodNamed B.named
  have S0 : k_C p s m ([.ref (a 0), .int x] : List Value).toArray c cL_measure 3 RL := ⟨hx, hb, hml, hown, ht⟩
  have hlocks := B.notSynchronized
  subst hsz
  have hD := hD0.self (sz := s.heap.size)
  generalize hAe : va_A ((WW a K KS st hs sc)) s.heap.size = A at hD hG ⊢
  have hA : ∀ q : Nat, s.heap.size ≤ q → A q := fun q h => by rw [← hAe]; exact Or.inr h
  have hS : va_S A s.heap s.heap [] := va_S.rf
  have hl := lv_entry ([.ref (a 0), .int x]) (n := 3) (Nat.le_of_ble_eq_true rfl)
  rw [lg_entry_eq]
  generalize (lg_sl ([.ref (a 0), .int x]) ++ List.replicate (3 - (lg_sl ([.ref (a 0), .int x])).length) Slot.unset).toArray = ls at hl ⊢
  have hl : lv_has ls 3 [(0, .ref (a 0)), (1, .int x)] := hl
  have hP : va_P D vwCl ((WW a K KS st hs sc)) s.heap := hP
  refine lv_aload_n hx hb dL_measure_0 rfl (lv_at hl 0 rfl) ?_
  refine lv_iload_n hx hb dL_measure_1 rfl (lv_at hl 1 rfl) ?_
  have ct := k_cut_TT (wp := []) (T := (WW a K KS st hs sc)) (wc := []) (wr := []) (tc := [(K, .int), (KS, .object "BarcodeWand$State")]) hG hS hA hK hP hD [] [] [0, 1] rfl rfl (by decide) (by decide) (by decide) rfl
  refine k_endi (As := [.ref (a 0), .int x]) ct (k_runV (As := [.int x]) (rest := []) S0 Lv_L_38 rfl (ci := 7) (q0 := 0) rfl (WW_0 a K KS st hs sc) ct (c_B_measure l D a K KS st hs sc x (by assumption) (by assumption) (by assumption) (by assumption) (by assumption) s.heap.size) hl.1 rfl (Nat.le_of_ble_eq_true rfl) rfl dL_measure_2 ⟨⟨Nat.le_of_ble_eq_true rfl, Nat.le_of_ble_eq_true rfl⟩, Nat.le_of_ble_eq_true rfl, Nat.le_of_ble_eq_true rfl⟩) rfl rfl (fun r_1 _ H locs hw_2 hP hD hK hS => ?_)
  have hK : va_K D vwCl [(K, .int), (KS, .object "BarcodeWand$State")] s := hK
  have hP : va_P D vwCl ((WW a K KS (setT (s_tn st + 1) (upd (s_tf st) (s_tn st) x) st) (svH hs st) sc)) H := hP
  have hD : va_D A ((WW a K KS (setT (s_tn st + 1) (upd (s_tf st) (s_tn st) x) st) (svH hs st) sc)) := hD
  have hw_2 : r_1 = (nI (s_tn st + 1)) := hw_2
  have hw_2 := hw_2.symm
  subst hw_2
  refine k_nrm (y := (nI (s_tn st + 1))) rfl ?_
  have hP9 : va_P D vwCl ((WW a K KS (setT (s_tn st + 1) (upd (s_tf st) (s_tn st) x) st) (svH hs st) sc)) H := k_subP (wp := []) (wp' := []) (T := (WW a K KS (setT (s_tn st + 1) (upd (s_tf st) (s_tn st) x) st) (svH hs st) sc)) hP [] rfl
  have hD9 : va_D A ((WW a K KS (setT (s_tn st + 1) (upd (s_tf st) (s_tn st) x) st) (svH hs st) sc)) := k_subD (wp := []) (wp' := []) (T := (WW a K KS (setT (s_tn st + 1) (upd (s_tf st) (s_tn st) x) st) (svH hs st) sc)) hD [] (by decide) rfl
  have hP9 : va_P D vwCl ((WW a K KS (setT (s_tn st + 1) (upd (s_tf st) (s_tn st) x) st) (svH hs st) sc)) H := hP9
  have hD9 : va_D A ((WW a K KS (setT (s_tn st + 1) (upd (s_tf st) (s_tn st) x) st) (svH hs st) sc)) := hD9
  have hK9 : va_K D vwCl [] s := hK.sub [] rfl
  exact W.iret (v := (nI (s_tn st + 1))) hx hb hr (fun t ht9 hW9 => ⟨⟨(nI (s_tn st + 1)), (), rfl, by rfl, ⟨by rw [ht9]; exact hP9, va_K.moved hW9.alike hK9, hD9⟩⟩, hS.F ht9⟩) hS.2.2 dL_measure_5
set_option maxHeartbeats 4000000 in
set_option maxRecDepth 100000 in
theorem c_L_time (l : Launch) (D : va_G) (a : Nat → Nat) (K : ClassId) (KS : ClassId) (st : ST) (hs : HT) (sc : SCT) (x : Int32) (hxi : inR x (nI (s_tn st)) = 1) (sz : Nat) : k_Wi (S := Unit) l D yL_time cL_time 3 (some .int) [(0, 5, 6, 22)] 2 0 0 42 [.ref (a 0), .int x] ((WW a K KS st hs sc)) [(K, .int), (KS, .object "BarcodeWand$State")] (fun (r : Int32) (_ : Unit) => r = (rowAt 41 (nI (s_tn st)) (s_tf st) x)) (fun _ => ((WW a K KS st hs sc))) (fun _ => []) sz := by
  refine va_MetW (cc := cL_time) (maxL := 3) (ret := (some .int)) (hh := [(0, 5, 6, 22)]) (by decide) rfl ?_
  intro p e s m args below meth c s₁ B hml hv
  obtain ⟨rfl, hsz, hP, hK, hD0, hG⟩ := hv
  have hx := B.exec
  have hb := B.bytes
  have hr := B.returns
  have ht : ∀ v9 ∈ wsA, v9.before ([.ref (a 0), .int x] : List Value).toArray s = true := fun v9 h9 => atoms_spec (ws := Cond.codeWith yL_time cL_time 3 (some .int) [(0, 5, 6, 22)] :: wsA) B.pre v9 (List.mem_cons_of_mem _ h9)
  have htab : c.exceptionTable.toList = tableOf [(0, 5, 6, 22)] := vx_table (x := yL_time) B (atoms_spec (ws := Cond.codeWith yL_time cL_time 3 (some .int) [(0, 5, 6, 22)] :: wsA) B.pre _ List.mem_cons_self)
  have hown : s.vm.findClass RL = some m.cls := findClass_of_methodNamed B.named
  have S0 : k_C p s m ([.ref (a 0), .int x] : List Value).toArray c cL_time 3 RL := ⟨hx, hb, hml, hown, ht⟩
  have hlocks := B.notSynchronized
  subst hsz
  have hD := hD0.self (sz := s.heap.size)
  generalize hAe : va_A ((WW a K KS st hs sc)) s.heap.size = A at hD hG ⊢
  have hA : ∀ q : Nat, s.heap.size ≤ q → A q := fun q h => by rw [← hAe]; exact Or.inr h
  have hS : va_S A s.heap s.heap [] := va_S.rf
  have hl := lv_entry ([.ref (a 0), .int x]) (n := 3) (Nat.le_of_ble_eq_true rfl)
  rw [lg_entry_eq]
  generalize (lg_sl ([.ref (a 0), .int x]) ++ List.replicate (3 - (lg_sl ([.ref (a 0), .int x])).length) Slot.unset).toArray = ls at hl ⊢
  have hl : lv_has ls 3 [(0, .ref (a 0)), (1, .int x)] := hl
  have hP : va_P D vwCl ((WW a K KS st hs sc)) s.heap := hP
  refine lv_aload_n hx hb dL_time_0 rfl (lv_at hl 0 rfl) ?_
  refine lv_iload_n hx hb dL_time_1 rfl (lv_at hl 1 rfl) ?_
  have ct := k_cut_TT (wp := []) (T := (WW a K KS st hs sc)) (wc := []) (wr := []) (tc := [(K, .int), (KS, .object "BarcodeWand$State")]) hG hS hA hK hP hD [] [] [0, 1] rfl rfl (by decide) (by decide) (by decide) rfl
  refine k_endi (As := [.ref (a 0), .int x]) ct (k_runV (As := [.int x]) (rest := []) S0 Lv_L_41 rfl (ci := 7) (q0 := 0) rfl (WW_0 a K KS st hs sc) ct (c_B_time l D a K KS st hs sc x (by assumption) s.heap.size) hl.1 rfl (Nat.le_of_ble_eq_true rfl) rfl dL_time_2 ⟨⟨Nat.le_of_ble_eq_true rfl, Nat.le_of_ble_eq_true rfl⟩, Nat.le_of_ble_eq_true rfl, Nat.le_of_ble_eq_true rfl⟩) rfl rfl (fun r_1 _ H locs hw_2 hP hD hK hS => ?_)
  have hK : va_K D vwCl [(K, .int), (KS, .object "BarcodeWand$State")] s := hK
  have hP : va_P D vwCl ((WW a K KS st hs sc)) H := hP
  have hD : va_D A ((WW a K KS st hs sc)) := hD
  have hw_2 : r_1 = (rowAt 41 (nI (s_tn st)) (s_tf st) x) := hw_2
  have hw_2 := hw_2.symm
  subst hw_2
  refine k_nrm (y := (rowAt 41 (nI (s_tn st)) (s_tf st) x)) rfl ?_
  have hP9 : va_P D vwCl ((WW a K KS st hs sc)) H := k_subP (wp := []) (wp' := []) (T := (WW a K KS st hs sc)) hP [] rfl
  have hD9 : va_D A ((WW a K KS st hs sc)) := k_subD (wp := []) (wp' := []) (T := (WW a K KS st hs sc)) hD [] (by decide) rfl
  have hP9 : va_P D vwCl ((WW a K KS st hs sc)) H := hP9
  have hD9 : va_D A ((WW a K KS st hs sc)) := hD9
  have hK9 : va_K D vwCl [] s := hK.sub [] rfl
  exact W.iret (v := (rowAt 41 (nI (s_tn st)) (s_tf st) x)) hx hb hr (fun t ht9 hW9 => ⟨⟨(rowAt 41 (nI (s_tn st)) (s_tf st) x), (), rfl, by rfl, ⟨by rw [ht9]; exact hP9, va_K.moved hW9.alike hK9, hD9⟩⟩, hS.F ht9⟩) hS.2.2 dL_time_5
set_option maxHeartbeats 4000000 in
set_option maxRecDepth 100000 in
theorem c_L_setTol (l : Launch) (D : va_G) (a : Nat → Nat) (K : ClassId) (KS : ClassId) (st : ST) (hs : HT) (sc : SCT) (x : Int32) (hbst : bST st) (hh : okH hs) (hx1 : ¬ x < 1) (hx2 : x ≤ 8) (sz : Nat) : k_Wi (S := Unit) l D yL_setTolerance cL_setTolerance 3 (some .int) [(0, 5, 6, 16)] 7 0 0 149 [.ref (a 0), .int x] ((WW a K KS st hs sc)) [(K, .int), (KS, .object "BarcodeWand$State")] (fun (r : Int32) (_ : Unit) => r = (s_tol st)) (fun _ => ((WW a K KS (setL x st) (svH hs st) sc))) (fun _ => []) sz := by
  refine va_MetW (cc := cL_setTolerance) (maxL := 3) (ret := (some .int)) (hh := [(0, 5, 6, 16)]) (by decide) rfl ?_
  intro p e s m args below meth c s₁ B hml hv
  obtain ⟨rfl, hsz, hP, hK, hD0, hG⟩ := hv
  have hx := B.exec
  have hb := B.bytes
  have hr := B.returns
  have ht : ∀ v9 ∈ wsA, v9.before ([.ref (a 0), .int x] : List Value).toArray s = true := fun v9 h9 => atoms_spec (ws := Cond.codeWith yL_setTolerance cL_setTolerance 3 (some .int) [(0, 5, 6, 16)] :: wsA) B.pre v9 (List.mem_cons_of_mem _ h9)
  have htab : c.exceptionTable.toList = tableOf [(0, 5, 6, 16)] := vx_table (x := yL_setTolerance) B (atoms_spec (ws := Cond.codeWith yL_setTolerance cL_setTolerance 3 (some .int) [(0, 5, 6, 16)] :: wsA) B.pre _ List.mem_cons_self)
  have hown : s.vm.findClass RL = some m.cls := findClass_of_methodNamed B.named
  have S0 : k_C p s m ([.ref (a 0), .int x] : List Value).toArray c cL_setTolerance 3 RL := ⟨hx, hb, hml, hown, ht⟩
  have hlocks := B.notSynchronized
  subst hsz
  have hD := hD0.self (sz := s.heap.size)
  generalize hAe : va_A ((WW a K KS st hs sc)) s.heap.size = A at hD hG ⊢
  have hA : ∀ q : Nat, s.heap.size ≤ q → A q := fun q h => by rw [← hAe]; exact Or.inr h
  have hS : va_S A s.heap s.heap [] := va_S.rf
  have hl := lv_entry ([.ref (a 0), .int x]) (n := 3) (Nat.le_of_ble_eq_true rfl)
  rw [lg_entry_eq]
  generalize (lg_sl ([.ref (a 0), .int x]) ++ List.replicate (3 - (lg_sl ([.ref (a 0), .int x])).length) Slot.unset).toArray = ls at hl ⊢
  have hl : lv_has ls 3 [(0, .ref (a 0)), (1, .int x)] := hl
  have hP : va_P D vwCl ((WW a K KS st hs sc)) s.heap := hP
  refine lv_aload_n hx hb dL_setTolerance_0 rfl (lv_at hl 0 rfl) ?_
  refine lv_iload_n hx hb dL_setTolerance_1 rfl (lv_at hl 1 rfl) ?_
  have ct := k_cut_TT (wp := []) (T := (WW a K KS st hs sc)) (wc := []) (wr := []) (tc := [(K, .int), (KS, .object "BarcodeWand$State")]) hG hS hA hK hP hD [] [] [0, 1] rfl rfl (by decide) (by decide) (by decide) rfl
  refine k_endi (As := [.ref (a 0), .int x]) ct (k_runV (As := [.int x]) (rest := []) S0 Lv_L_44 rfl (ci := 7) (q0 := 0) rfl (WW_0 a K KS st hs sc) ct (c_B_setTol l D a K KS st hs sc x (by assumption) (by assumption) (by assumption) (by assumption) s.heap.size) hl.1 rfl (Nat.le_of_ble_eq_true rfl) rfl dL_setTolerance_2 ⟨⟨Nat.le_of_ble_eq_true rfl, Nat.le_of_ble_eq_true rfl⟩, Nat.le_of_ble_eq_true rfl, Nat.le_of_ble_eq_true rfl⟩) rfl rfl (fun r_1 _ H locs hw_2 hP hD hK hS => ?_)
  have hK : va_K D vwCl [(K, .int), (KS, .object "BarcodeWand$State")] s := hK
  have hP : va_P D vwCl ((WW a K KS (setL x st) (svH hs st) sc)) H := hP
  have hD : va_D A ((WW a K KS (setL x st) (svH hs st) sc)) := hD
  have hw_2 : r_1 = (s_tol st) := hw_2
  have hw_2 := hw_2.symm
  subst hw_2
  refine k_nrm (y := (s_tol st)) rfl ?_
  have hP9 : va_P D vwCl ((WW a K KS (setL x st) (svH hs st) sc)) H := k_subP (wp := []) (wp' := []) (T := (WW a K KS (setL x st) (svH hs st) sc)) hP [] rfl
  have hD9 : va_D A ((WW a K KS (setL x st) (svH hs st) sc)) := k_subD (wp := []) (wp' := []) (T := (WW a K KS (setL x st) (svH hs st) sc)) hD [] (by decide) rfl
  have hP9 : va_P D vwCl ((WW a K KS (setL x st) (svH hs st) sc)) H := hP9
  have hD9 : va_D A ((WW a K KS (setL x st) (svH hs st) sc)) := hD9
  have hK9 : va_K D vwCl [] s := hK.sub [] rfl
  exact W.iret (v := (s_tol st)) hx hb hr (fun t ht9 hW9 => ⟨⟨(s_tol st), (), rfl, by rfl, ⟨by rw [ht9]; exact hP9, va_K.moved hW9.alike hK9, hD9⟩⟩, hS.F ht9⟩) hS.2.2 dL_setTolerance_5
set_option maxHeartbeats 4000000 in
set_option maxRecDepth 100000 in
theorem c_L_digit (l : Launch) (D : va_G) (a : Nat → Nat) (K : ClassId) (KS : ClassId) (st : ST) (hs : HT) (sc : SCT) (x : Nat) (hbst : bST st) (hx9 : x < 9) (sz : Nat) : k_Wi (S := SCT) l D yL_digit cL_digit 3 (some .int) [(0, 5, 6, 22)] 5 0 0 123 [.ref (a 0), .int (nI x)] ((WW a K KS st hs sc)) [(K, .int), (KS, .object "BarcodeWand$State")] (fun (r : Int32) (sc1 : SCT) => r = digR (s_tn st) (s_tf st) (s_tol st) x) (fun sc1 => ((WW a K KS st hs sc1))) (fun sc1 => []) sz := by
  refine va_MetW (cc := cL_digit) (maxL := 3) (ret := (some .int)) (hh := [(0, 5, 6, 22)]) (by decide) rfl ?_
  intro p e s m args below meth c s₁ B hml hv
  obtain ⟨rfl, hsz, hP, hK, hD0, hG⟩ := hv
  have hx := B.exec
  have hb := B.bytes
  have hr := B.returns
  have ht : ∀ v9 ∈ wsA, v9.before ([.ref (a 0), .int (nI x)] : List Value).toArray s = true := fun v9 h9 => atoms_spec (ws := Cond.codeWith yL_digit cL_digit 3 (some .int) [(0, 5, 6, 22)] :: wsA) B.pre v9 (List.mem_cons_of_mem _ h9)
  have htab : c.exceptionTable.toList = tableOf [(0, 5, 6, 22)] := vx_table (x := yL_digit) B (atoms_spec (ws := Cond.codeWith yL_digit cL_digit 3 (some .int) [(0, 5, 6, 22)] :: wsA) B.pre _ List.mem_cons_self)
  have hown : s.vm.findClass RL = some m.cls := findClass_of_methodNamed B.named
  have S0 : k_C p s m ([.ref (a 0), .int (nI x)] : List Value).toArray c cL_digit 3 RL := ⟨hx, hb, hml, hown, ht⟩
  have hlocks := B.notSynchronized
  subst hsz
  have hD := hD0.self (sz := s.heap.size)
  generalize hAe : va_A ((WW a K KS st hs sc)) s.heap.size = A at hD hG ⊢
  have hA : ∀ q : Nat, s.heap.size ≤ q → A q := fun q h => by rw [← hAe]; exact Or.inr h
  have hS : va_S A s.heap s.heap [] := va_S.rf
  have hl := lv_entry ([.ref (a 0), .int (nI x)]) (n := 3) (Nat.le_of_ble_eq_true rfl)
  rw [lg_entry_eq]
  generalize (lg_sl ([.ref (a 0), .int (nI x)]) ++ List.replicate (3 - (lg_sl ([.ref (a 0), .int (nI x)])).length) Slot.unset).toArray = ls at hl ⊢
  have hl : lv_has ls 3 [(0, .ref (a 0)), (1, .int (nI x))] := hl
  have hP : va_P D vwCl ((WW a K KS st hs sc)) s.heap := hP
  refine lv_aload_n hx hb dL_digit_0 rfl (lv_at hl 0 rfl) ?_
  refine lv_iload_n hx hb dL_digit_1 rfl (lv_at hl 1 rfl) ?_
  have ct := k_cut_TT (wp := []) (T := (WW a K KS st hs sc)) (wc := []) (wr := []) (tc := [(K, .int), (KS, .object "BarcodeWand$State")]) hG hS hA hK hP hD [] [] [0, 1] rfl rfl (by decide) (by decide) (by decide) rfl
  refine k_endi (As := [.ref (a 0), .int (nI x)]) ct (k_runV (As := [.int (nI x)]) (rest := []) S0 Lv_L_47 rfl (ci := 7) (q0 := 0) rfl (WW_0 a K KS st hs sc) ct (c_B_digit l D a K KS st hs sc x (by assumption) (by first | assumption | omega) s.heap.size) hl.1 rfl (Nat.le_of_ble_eq_true rfl) rfl dL_digit_2 ⟨⟨Nat.le_of_ble_eq_true rfl, Nat.le_of_ble_eq_true rfl⟩, Nat.le_of_ble_eq_true rfl, Nat.le_of_ble_eq_true rfl⟩) rfl rfl (fun r_1 sc1v_2 H locs hw_3 hP hD hK hS => ?_)
  have hK : va_K D vwCl [(K, .int), (KS, .object "BarcodeWand$State")] s := hK
  have hP : va_P D vwCl ((WW a K KS st hs sc1v_2)) H := hP
  have hD : va_D A ((WW a K KS st hs sc1v_2)) := hD
  have hw_3 : r_1 = digR (s_tn st) (s_tf st) (s_tol st) x := hw_3
  have hP9 : va_P D vwCl ((WW a K KS st hs sc1v_2)) H := k_subP (wp := []) (wp' := []) (T := (WW a K KS st hs sc1v_2)) hP [] rfl
  have hD9 : va_D A ((WW a K KS st hs sc1v_2)) := k_subD (wp := []) (wp' := []) (T := (WW a K KS st hs sc1v_2)) hD [] (by decide) rfl
  have hP9 : va_P D vwCl ((WW a K KS st hs sc1v_2)) H := hP9
  have hD9 : va_D A ((WW a K KS st hs sc1v_2)) := hD9
  have hK9 : va_K D vwCl [] s := hK.sub [] rfl
  exact W.iret (v := r_1) hx hb hr (fun t ht9 hW9 => ⟨⟨r_1, sc1v_2, rfl, by first | rfl | exact hw_3, ⟨by rw [ht9]; exact hP9, va_K.moved hW9.alike hK9, hD9⟩⟩, hS.F ht9⟩) hS.2.2 dL_digit_5
set_option maxHeartbeats 4000000 in
set_option maxRecDepth 100000 in
theorem c_L_nearest (l : Launch) (D : va_G) (a : Nat → Nat) (K : ClassId) (KS : ClassId) (st : ST) (hs : HT) (sc : SCT) (x : Nat) (hbst : bST st) (hx9 : x + 4 ≤ s_tn st) (sz : Nat) : k_Wi (S := SCT) l D yL_nearest cL_nearest 3 (some .int) [(0, 5, 6, 22)] 3 0 0 72 [.ref (a 0), .int (nI x)] ((WW a K KS st hs sc)) [(K, .int), (KS, .object "BarcodeWand$State")] (fun (r : Int32) (sc1 : SCT) => r = (nrF (dsF (rowAt 41 (nI (s_tn st)) (s_tf st) (nI x)) (rowAt 41 (nI (s_tn st)) (s_tf st) (nI x + 1)) (rowAt 41 (nI (s_tn st)) (s_tf st) (nI x + 2)) (rowAt 41 (nI (s_tn st)) (s_tf st) (nI x + 3)) (rowAt 41 (nI (s_tn st)) (s_tf st) (nI x) + rowAt 41 (nI (s_tn st)) (s_tf st) (nI x + 1) + rowAt 41 (nI (s_tn st)) (s_tf st) (nI x + 2) + rowAt 41 (nI (s_tn st)) (s_tf st) (nI x + 3))) 0 0 10).1) (fun sc1 => ((WW a K KS st hs sc1))) (fun sc1 => []) sz := by
  refine va_MetW (cc := cL_nearest) (maxL := 3) (ret := (some .int)) (hh := [(0, 5, 6, 22)]) (by decide) rfl ?_
  intro p e s m args below meth c s₁ B hml hv
  obtain ⟨rfl, hsz, hP, hK, hD0, hG⟩ := hv
  have hx := B.exec
  have hb := B.bytes
  have hr := B.returns
  have ht : ∀ v9 ∈ wsA, v9.before ([.ref (a 0), .int (nI x)] : List Value).toArray s = true := fun v9 h9 => atoms_spec (ws := Cond.codeWith yL_nearest cL_nearest 3 (some .int) [(0, 5, 6, 22)] :: wsA) B.pre v9 (List.mem_cons_of_mem _ h9)
  have htab : c.exceptionTable.toList = tableOf [(0, 5, 6, 22)] := vx_table (x := yL_nearest) B (atoms_spec (ws := Cond.codeWith yL_nearest cL_nearest 3 (some .int) [(0, 5, 6, 22)] :: wsA) B.pre _ List.mem_cons_self)
  have hown : s.vm.findClass RL = some m.cls := findClass_of_methodNamed B.named
  have S0 : k_C p s m ([.ref (a 0), .int (nI x)] : List Value).toArray c cL_nearest 3 RL := ⟨hx, hb, hml, hown, ht⟩
  have hlocks := B.notSynchronized
  subst hsz
  have hD := hD0.self (sz := s.heap.size)
  generalize hAe : va_A ((WW a K KS st hs sc)) s.heap.size = A at hD hG ⊢
  have hA : ∀ q : Nat, s.heap.size ≤ q → A q := fun q h => by rw [← hAe]; exact Or.inr h
  have hS : va_S A s.heap s.heap [] := va_S.rf
  have hl := lv_entry ([.ref (a 0), .int (nI x)]) (n := 3) (Nat.le_of_ble_eq_true rfl)
  rw [lg_entry_eq]
  generalize (lg_sl ([.ref (a 0), .int (nI x)]) ++ List.replicate (3 - (lg_sl ([.ref (a 0), .int (nI x)])).length) Slot.unset).toArray = ls at hl ⊢
  have hl : lv_has ls 3 [(0, .ref (a 0)), (1, .int (nI x))] := hl
  have hP : va_P D vwCl ((WW a K KS st hs sc)) s.heap := hP
  refine lv_aload_n hx hb dL_nearest_0 rfl (lv_at hl 0 rfl) ?_
  refine lv_iload_n hx hb dL_nearest_1 rfl (lv_at hl 1 rfl) ?_
  have ct := k_cut_TT (wp := []) (T := (WW a K KS st hs sc)) (wc := []) (wr := []) (tc := [(K, .int), (KS, .object "BarcodeWand$State")]) hG hS hA hK hP hD [] [] [0, 1] rfl rfl (by decide) (by decide) (by decide) rfl
  refine k_endi (As := [.ref (a 0), .int (nI x)]) ct (k_runV (As := [.int (nI x)]) (rest := []) S0 Lv_L_50 rfl (ci := 7) (q0 := 0) rfl (WW_0 a K KS st hs sc) ct (c_B_nearest l D a K KS st hs sc x (by assumption) (by assumption) s.heap.size) hl.1 rfl (Nat.le_of_ble_eq_true rfl) rfl dL_nearest_2 ⟨⟨Nat.le_of_ble_eq_true rfl, Nat.le_of_ble_eq_true rfl⟩, Nat.le_of_ble_eq_true rfl, Nat.le_of_ble_eq_true rfl⟩) rfl rfl (fun r_1 sc1v_2 H locs hw_3 hP hD hK hS => ?_)
  have hK : va_K D vwCl [(K, .int), (KS, .object "BarcodeWand$State")] s := hK
  have hP : va_P D vwCl ((WW a K KS st hs sc1v_2)) H := hP
  have hD : va_D A ((WW a K KS st hs sc1v_2)) := hD
  have hw_3 : r_1 = (nrF (dsF (rowAt 41 (nI (s_tn st)) (s_tf st) (nI x)) (rowAt 41 (nI (s_tn st)) (s_tf st) (nI x + 1)) (rowAt 41 (nI (s_tn st)) (s_tf st) (nI x + 2)) (rowAt 41 (nI (s_tn st)) (s_tf st) (nI x + 3)) (rowAt 41 (nI (s_tn st)) (s_tf st) (nI x) + rowAt 41 (nI (s_tn st)) (s_tf st) (nI x + 1) + rowAt 41 (nI (s_tn st)) (s_tf st) (nI x + 2) + rowAt 41 (nI (s_tn st)) (s_tf st) (nI x + 3))) 0 0 10).1 := hw_3
  have hw_3 := hw_3.symm
  subst hw_3
  refine k_nrm (y := (nrF (dsF (rowAt 41 (nI (s_tn st)) (s_tf st) (nI x)) (rowAt 41 (nI (s_tn st)) (s_tf st) (nI x + 1)) (rowAt 41 (nI (s_tn st)) (s_tf st) (nI x + 2)) (rowAt 41 (nI (s_tn st)) (s_tf st) (nI x + 3)) (rowAt 41 (nI (s_tn st)) (s_tf st) (nI x) + rowAt 41 (nI (s_tn st)) (s_tf st) (nI x + 1) + rowAt 41 (nI (s_tn st)) (s_tf st) (nI x + 2) + rowAt 41 (nI (s_tn st)) (s_tf st) (nI x + 3))) 0 0 10).1) rfl ?_
  have hP9 : va_P D vwCl ((WW a K KS st hs sc1v_2)) H := k_subP (wp := []) (wp' := []) (T := (WW a K KS st hs sc1v_2)) hP [] rfl
  have hD9 : va_D A ((WW a K KS st hs sc1v_2)) := k_subD (wp := []) (wp' := []) (T := (WW a K KS st hs sc1v_2)) hD [] (by decide) rfl
  have hP9 : va_P D vwCl ((WW a K KS st hs sc1v_2)) H := hP9
  have hD9 : va_D A ((WW a K KS st hs sc1v_2)) := hD9
  have hK9 : va_K D vwCl [] s := hK.sub [] rfl
  exact W.iret (v := (nrF (dsF (rowAt 41 (nI (s_tn st)) (s_tf st) (nI x)) (rowAt 41 (nI (s_tn st)) (s_tf st) (nI x + 1)) (rowAt 41 (nI (s_tn st)) (s_tf st) (nI x + 2)) (rowAt 41 (nI (s_tn st)) (s_tf st) (nI x + 3)) (rowAt 41 (nI (s_tn st)) (s_tf st) (nI x) + rowAt 41 (nI (s_tn st)) (s_tf st) (nI x + 1) + rowAt 41 (nI (s_tn st)) (s_tf st) (nI x + 2) + rowAt 41 (nI (s_tn st)) (s_tf st) (nI x + 3))) 0 0 10).1) hx hb hr (fun t ht9 hW9 => ⟨⟨(nrF (dsF (rowAt 41 (nI (s_tn st)) (s_tf st) (nI x)) (rowAt 41 (nI (s_tn st)) (s_tf st) (nI x + 1)) (rowAt 41 (nI (s_tn st)) (s_tf st) (nI x + 2)) (rowAt 41 (nI (s_tn st)) (s_tf st) (nI x + 3)) (rowAt 41 (nI (s_tn st)) (s_tf st) (nI x) + rowAt 41 (nI (s_tn st)) (s_tf st) (nI x + 1) + rowAt 41 (nI (s_tn st)) (s_tf st) (nI x + 2) + rowAt 41 (nI (s_tn st)) (s_tf st) (nI x + 3))) 0 0 10).1, sc1v_2, rfl, by rfl, ⟨by rw [ht9]; exact hP9, va_K.moved hW9.alike hK9, hD9⟩⟩, hS.F ht9⟩) hS.2.2 dL_nearest_5
set_option maxHeartbeats 4000000 in
set_option maxRecDepth 100000 in
theorem c_L_code (l : Launch) (D : va_G) (a : Nat → Nat) (K : ClassId) (KS : ClassId) (st : ST) (hs : HT) (sc : SCT) (x : Int32) (hxi : inR x (nI (s_k st)) = 1) (sz : Nat) : k_Wi (S := Unit) l D yL_code cL_code 3 (some .int) [(0, 5, 6, 22)] 3 0 0 63 [.ref (a 0), .int x] ((WW a K KS st hs sc)) [(K, .int), (KS, .object "BarcodeWand$State")] (fun (r : Int32) (_ : Unit) => r = (rowAt 10 (nI (s_k st)) (s_f st) x)) (fun _ => ((WW a K KS st hs sc))) (fun _ => []) sz := by
  refine va_MetW (cc := cL_code) (maxL := 3) (ret := (some .int)) (hh := [(0, 5, 6, 22)]) (by decide) rfl ?_
  intro p e s m args below meth c s₁ B hml hv
  obtain ⟨rfl, hsz, hP, hK, hD0, hG⟩ := hv
  have hx := B.exec
  have hb := B.bytes
  have hr := B.returns
  have ht : ∀ v9 ∈ wsA, v9.before ([.ref (a 0), .int x] : List Value).toArray s = true := fun v9 h9 => atoms_spec (ws := Cond.codeWith yL_code cL_code 3 (some .int) [(0, 5, 6, 22)] :: wsA) B.pre v9 (List.mem_cons_of_mem _ h9)
  have htab : c.exceptionTable.toList = tableOf [(0, 5, 6, 22)] := vx_table (x := yL_code) B (atoms_spec (ws := Cond.codeWith yL_code cL_code 3 (some .int) [(0, 5, 6, 22)] :: wsA) B.pre _ List.mem_cons_self)
  have hown : s.vm.findClass RL = some m.cls := findClass_of_methodNamed B.named
  have S0 : k_C p s m ([.ref (a 0), .int x] : List Value).toArray c cL_code 3 RL := ⟨hx, hb, hml, hown, ht⟩
  have hlocks := B.notSynchronized
  subst hsz
  have hD := hD0.self (sz := s.heap.size)
  generalize hAe : va_A ((WW a K KS st hs sc)) s.heap.size = A at hD hG ⊢
  have hA : ∀ q : Nat, s.heap.size ≤ q → A q := fun q h => by rw [← hAe]; exact Or.inr h
  have hS : va_S A s.heap s.heap [] := va_S.rf
  have hl := lv_entry ([.ref (a 0), .int x]) (n := 3) (Nat.le_of_ble_eq_true rfl)
  rw [lg_entry_eq]
  generalize (lg_sl ([.ref (a 0), .int x]) ++ List.replicate (3 - (lg_sl ([.ref (a 0), .int x])).length) Slot.unset).toArray = ls at hl ⊢
  have hl : lv_has ls 3 [(0, .ref (a 0)), (1, .int x)] := hl
  have hP : va_P D vwCl ((WW a K KS st hs sc)) s.heap := hP
  refine lv_aload_n hx hb dL_code_0 rfl (lv_at hl 0 rfl) ?_
  refine lv_iload_n hx hb dL_code_1 rfl (lv_at hl 1 rfl) ?_
  have ct := k_cut_TT (wp := []) (T := (WW a K KS st hs sc)) (wc := []) (wr := []) (tc := [(K, .int), (KS, .object "BarcodeWand$State")]) hG hS hA hK hP hD [] [] [0, 1] rfl rfl (by decide) (by decide) (by decide) rfl
  refine k_endi (As := [.ref (a 0), .int x]) ct (k_runV (As := [.int x]) (rest := []) S0 Lv_L_53 rfl (ci := 7) (q0 := 0) rfl (WW_0 a K KS st hs sc) ct (c_B_code l D a K KS st hs sc x (by assumption) s.heap.size) hl.1 rfl (Nat.le_of_ble_eq_true rfl) rfl dL_code_2 ⟨⟨Nat.le_of_ble_eq_true rfl, Nat.le_of_ble_eq_true rfl⟩, Nat.le_of_ble_eq_true rfl, Nat.le_of_ble_eq_true rfl⟩) rfl rfl (fun r_1 _ H locs hw_2 hP hD hK hS => ?_)
  have hK : va_K D vwCl [(K, .int), (KS, .object "BarcodeWand$State")] s := hK
  have hP : va_P D vwCl ((WW a K KS st hs sc)) H := hP
  have hD : va_D A ((WW a K KS st hs sc)) := hD
  have hw_2 : r_1 = (rowAt 10 (nI (s_k st)) (s_f st) x) := hw_2
  have hw_2 := hw_2.symm
  subst hw_2
  refine k_nrm (y := (rowAt 10 (nI (s_k st)) (s_f st) x)) rfl ?_
  have hP9 : va_P D vwCl ((WW a K KS st hs sc)) H := k_subP (wp := []) (wp' := []) (T := (WW a K KS st hs sc)) hP [] rfl
  have hD9 : va_D A ((WW a K KS st hs sc)) := k_subD (wp := []) (wp' := []) (T := (WW a K KS st hs sc)) hD [] (by decide) rfl
  have hP9 : va_P D vwCl ((WW a K KS st hs sc)) H := hP9
  have hD9 : va_D A ((WW a K KS st hs sc)) := hD9
  have hK9 : va_K D vwCl [] s := hK.sub [] rfl
  exact W.iret (v := (rowAt 10 (nI (s_k st)) (s_f st) x)) hx hb hr (fun t ht9 hW9 => ⟨⟨(rowAt 10 (nI (s_k st)) (s_f st) x), (), rfl, by rfl, ⟨by rw [ht9]; exact hP9, va_K.moved hW9.alike hK9, hD9⟩⟩, hS.F ht9⟩) hS.2.2 dL_code_5
set_option maxHeartbeats 4000000 in
set_option maxRecDepth 100000 in
theorem c_L_codeLength (l : Launch) (D : va_G) (a : Nat → Nat) (K : ClassId) (KS : ClassId) (st : ST) (hs : HT) (sc : SCT) (x : Int32) (hxi : inR x (nI (s_k st)) = 1) (sz : Nat) : k_Wi (S := Unit) l D yL_codeLength cL_codeLength 3 (some .int) [(0, 5, 6, 22)] 3 0 0 63 [.ref (a 0), .int x] ((WW a K KS st hs sc)) [(K, .int), (KS, .object "BarcodeWand$State")] (fun (r : Int32) (_ : Unit) => r = (rowAt 10 (nI (s_k st)) (s_g st) x)) (fun _ => ((WW a K KS st hs sc))) (fun _ => []) sz := by
  refine va_MetW (cc := cL_codeLength) (maxL := 3) (ret := (some .int)) (hh := [(0, 5, 6, 22)]) (by decide) rfl ?_
  intro p e s m args below meth c s₁ B hml hv
  obtain ⟨rfl, hsz, hP, hK, hD0, hG⟩ := hv
  have hx := B.exec
  have hb := B.bytes
  have hr := B.returns
  have ht : ∀ v9 ∈ wsA, v9.before ([.ref (a 0), .int x] : List Value).toArray s = true := fun v9 h9 => atoms_spec (ws := Cond.codeWith yL_codeLength cL_codeLength 3 (some .int) [(0, 5, 6, 22)] :: wsA) B.pre v9 (List.mem_cons_of_mem _ h9)
  have htab : c.exceptionTable.toList = tableOf [(0, 5, 6, 22)] := vx_table (x := yL_codeLength) B (atoms_spec (ws := Cond.codeWith yL_codeLength cL_codeLength 3 (some .int) [(0, 5, 6, 22)] :: wsA) B.pre _ List.mem_cons_self)
  have hown : s.vm.findClass RL = some m.cls := findClass_of_methodNamed B.named
  have S0 : k_C p s m ([.ref (a 0), .int x] : List Value).toArray c cL_codeLength 3 RL := ⟨hx, hb, hml, hown, ht⟩
  have hlocks := B.notSynchronized
  subst hsz
  have hD := hD0.self (sz := s.heap.size)
  generalize hAe : va_A ((WW a K KS st hs sc)) s.heap.size = A at hD hG ⊢
  have hA : ∀ q : Nat, s.heap.size ≤ q → A q := fun q h => by rw [← hAe]; exact Or.inr h
  have hS : va_S A s.heap s.heap [] := va_S.rf
  have hl := lv_entry ([.ref (a 0), .int x]) (n := 3) (Nat.le_of_ble_eq_true rfl)
  rw [lg_entry_eq]
  generalize (lg_sl ([.ref (a 0), .int x]) ++ List.replicate (3 - (lg_sl ([.ref (a 0), .int x])).length) Slot.unset).toArray = ls at hl ⊢
  have hl : lv_has ls 3 [(0, .ref (a 0)), (1, .int x)] := hl
  have hP : va_P D vwCl ((WW a K KS st hs sc)) s.heap := hP
  refine lv_aload_n hx hb dL_codeLength_0 rfl (lv_at hl 0 rfl) ?_
  refine lv_iload_n hx hb dL_codeLength_1 rfl (lv_at hl 1 rfl) ?_
  have ct := k_cut_TT (wp := []) (T := (WW a K KS st hs sc)) (wc := []) (wr := []) (tc := [(K, .int), (KS, .object "BarcodeWand$State")]) hG hS hA hK hP hD [] [] [0, 1] rfl rfl (by decide) (by decide) (by decide) rfl
  refine k_endi (As := [.ref (a 0), .int x]) ct (k_runV (As := [.int x]) (rest := []) S0 Lv_L_56 rfl (ci := 7) (q0 := 0) rfl (WW_0 a K KS st hs sc) ct (c_B_codeLength l D a K KS st hs sc x (by assumption) s.heap.size) hl.1 rfl (Nat.le_of_ble_eq_true rfl) rfl dL_codeLength_2 ⟨⟨Nat.le_of_ble_eq_true rfl, Nat.le_of_ble_eq_true rfl⟩, Nat.le_of_ble_eq_true rfl, Nat.le_of_ble_eq_true rfl⟩) rfl rfl (fun r_1 _ H locs hw_2 hP hD hK hS => ?_)
  have hK : va_K D vwCl [(K, .int), (KS, .object "BarcodeWand$State")] s := hK
  have hP : va_P D vwCl ((WW a K KS st hs sc)) H := hP
  have hD : va_D A ((WW a K KS st hs sc)) := hD
  have hw_2 : r_1 = (rowAt 10 (nI (s_k st)) (s_g st) x) := hw_2
  have hw_2 := hw_2.symm
  subst hw_2
  refine k_nrm (y := (rowAt 10 (nI (s_k st)) (s_g st) x)) rfl ?_
  have hP9 : va_P D vwCl ((WW a K KS st hs sc)) H := k_subP (wp := []) (wp' := []) (T := (WW a K KS st hs sc)) hP [] rfl
  have hD9 : va_D A ((WW a K KS st hs sc)) := k_subD (wp := []) (wp' := []) (T := (WW a K KS st hs sc)) hD [] (by decide) rfl
  have hP9 : va_P D vwCl ((WW a K KS st hs sc)) H := hP9
  have hD9 : va_D A ((WW a K KS st hs sc)) := hD9
  have hK9 : va_K D vwCl [] s := hK.sub [] rfl
  exact W.iret (v := (rowAt 10 (nI (s_k st)) (s_g st) x)) hx hb hr (fun t ht9 hW9 => ⟨⟨(rowAt 10 (nI (s_k st)) (s_g st) x), (), rfl, by rfl, ⟨by rw [ht9]; exact hP9, va_K.moved hW9.alike hK9, hD9⟩⟩, hS.F ht9⟩) hS.2.2 dL_codeLength_5
set_option maxHeartbeats 4000000 in
set_option maxRecDepth 100000 in
theorem c_L_count (l : Launch) (D : va_G) (a : Nat → Nat) (K : ClassId) (KS : ClassId) (st : ST) (hs : HT) (sc : SCT) (x : Int32) (hxi : inR x (nI (s_k st)) = 1) (sz : Nat) : k_Wi (S := Unit) l D yL_count cL_count 3 (some .int) [(0, 5, 6, 22)] 3 0 0 63 [.ref (a 0), .int x] ((WW a K KS st hs sc)) [(K, .int), (KS, .object "BarcodeWand$State")] (fun (r : Int32) (_ : Unit) => r = (rowAt 10 (nI (s_k st)) (s_c st) x)) (fun _ => ((WW a K KS st hs sc))) (fun _ => []) sz := by
  refine va_MetW (cc := cL_count) (maxL := 3) (ret := (some .int)) (hh := [(0, 5, 6, 22)]) (by decide) rfl ?_
  intro p e s m args below meth c s₁ B hml hv
  obtain ⟨rfl, hsz, hP, hK, hD0, hG⟩ := hv
  have hx := B.exec
  have hb := B.bytes
  have hr := B.returns
  have ht : ∀ v9 ∈ wsA, v9.before ([.ref (a 0), .int x] : List Value).toArray s = true := fun v9 h9 => atoms_spec (ws := Cond.codeWith yL_count cL_count 3 (some .int) [(0, 5, 6, 22)] :: wsA) B.pre v9 (List.mem_cons_of_mem _ h9)
  have htab : c.exceptionTable.toList = tableOf [(0, 5, 6, 22)] := vx_table (x := yL_count) B (atoms_spec (ws := Cond.codeWith yL_count cL_count 3 (some .int) [(0, 5, 6, 22)] :: wsA) B.pre _ List.mem_cons_self)
  have hown : s.vm.findClass RL = some m.cls := findClass_of_methodNamed B.named
  have S0 : k_C p s m ([.ref (a 0), .int x] : List Value).toArray c cL_count 3 RL := ⟨hx, hb, hml, hown, ht⟩
  have hlocks := B.notSynchronized
  subst hsz
  have hD := hD0.self (sz := s.heap.size)
  generalize hAe : va_A ((WW a K KS st hs sc)) s.heap.size = A at hD hG ⊢
  have hA : ∀ q : Nat, s.heap.size ≤ q → A q := fun q h => by rw [← hAe]; exact Or.inr h
  have hS : va_S A s.heap s.heap [] := va_S.rf
  have hl := lv_entry ([.ref (a 0), .int x]) (n := 3) (Nat.le_of_ble_eq_true rfl)
  rw [lg_entry_eq]
  generalize (lg_sl ([.ref (a 0), .int x]) ++ List.replicate (3 - (lg_sl ([.ref (a 0), .int x])).length) Slot.unset).toArray = ls at hl ⊢
  have hl : lv_has ls 3 [(0, .ref (a 0)), (1, .int x)] := hl
  have hP : va_P D vwCl ((WW a K KS st hs sc)) s.heap := hP
  refine lv_aload_n hx hb dL_count_0 rfl (lv_at hl 0 rfl) ?_
  refine lv_iload_n hx hb dL_count_1 rfl (lv_at hl 1 rfl) ?_
  have ct := k_cut_TT (wp := []) (T := (WW a K KS st hs sc)) (wc := []) (wr := []) (tc := [(K, .int), (KS, .object "BarcodeWand$State")]) hG hS hA hK hP hD [] [] [0, 1] rfl rfl (by decide) (by decide) (by decide) rfl
  refine k_endi (As := [.ref (a 0), .int x]) ct (k_runV (As := [.int x]) (rest := []) S0 Lv_L_59 rfl (ci := 7) (q0 := 0) rfl (WW_0 a K KS st hs sc) ct (c_B_count l D a K KS st hs sc x (by assumption) s.heap.size) hl.1 rfl (Nat.le_of_ble_eq_true rfl) rfl dL_count_2 ⟨⟨Nat.le_of_ble_eq_true rfl, Nat.le_of_ble_eq_true rfl⟩, Nat.le_of_ble_eq_true rfl, Nat.le_of_ble_eq_true rfl⟩) rfl rfl (fun r_1 _ H locs hw_2 hP hD hK hS => ?_)
  have hK : va_K D vwCl [(K, .int), (KS, .object "BarcodeWand$State")] s := hK
  have hP : va_P D vwCl ((WW a K KS st hs sc)) H := hP
  have hD : va_D A ((WW a K KS st hs sc)) := hD
  have hw_2 : r_1 = (rowAt 10 (nI (s_k st)) (s_c st) x) := hw_2
  have hw_2 := hw_2.symm
  subst hw_2
  refine k_nrm (y := (rowAt 10 (nI (s_k st)) (s_c st) x)) rfl ?_
  have hP9 : va_P D vwCl ((WW a K KS st hs sc)) H := k_subP (wp := []) (wp' := []) (T := (WW a K KS st hs sc)) hP [] rfl
  have hD9 : va_D A ((WW a K KS st hs sc)) := k_subD (wp := []) (wp' := []) (T := (WW a K KS st hs sc)) hD [] (by decide) rfl
  have hP9 : va_P D vwCl ((WW a K KS st hs sc)) H := hP9
  have hD9 : va_D A ((WW a K KS st hs sc)) := hD9
  have hK9 : va_K D vwCl [] s := hK.sub [] rfl
  exact W.iret (v := (rowAt 10 (nI (s_k st)) (s_c st) x)) hx hb hr (fun t ht9 hW9 => ⟨⟨(rowAt 10 (nI (s_k st)) (s_c st) x), (), rfl, by rfl, ⟨by rw [ht9]; exact hP9, va_K.moved hW9.alike hK9, hD9⟩⟩, hS.F ht9⟩) hS.2.2 dL_count_5
set_option maxHeartbeats 4000000 in
set_option maxRecDepth 100000 in
theorem c_L_ifDrawn (l : Launch) (D : va_G) (a : Nat → Nat) (K : ClassId) (KS : ClassId) (st : ST) (hs : HT) (sc : SCT) (lf : Int32) (rt : Int32) (b : Int32) (hbst : bST st) (hp : k_per lf rt) (hne : ¬ s_ns st = 0) (sz : Nat) : k_Wi (S := SCT) l D yL_ifDrawn cL_ifDrawn 5 (some .int) [(0, 7, 8, 16), (0, 7, 13, 36)] 6 0 0 140 [.ref (a 0), .int lf, .int rt, .int b] ((WW a K KS st hs sc)) [(K, .int), (KS, .object "BarcodeWand$State")] (fun (r : Int32) (sc1 : SCT) => r = resF (s_ns st) (s_drw st lf rt b) (s_tol st)) (fun sc1 => ((WW a K KS st hs sc1))) (fun sc1 => []) sz := by
  refine va_MetW (cc := cL_ifDrawn) (maxL := 5) (ret := (some .int)) (hh := [(0, 7, 8, 16), (0, 7, 13, 36)]) (by decide) rfl ?_
  intro p e s m args below meth c s₁ B hml hv
  obtain ⟨rfl, hsz, hP, hK, hD0, hG⟩ := hv
  have hx := B.exec
  have hb := B.bytes
  have hr := B.returns
  have ht : ∀ v9 ∈ wsA, v9.before ([.ref (a 0), .int lf, .int rt, .int b] : List Value).toArray s = true := fun v9 h9 => atoms_spec (ws := Cond.codeWith yL_ifDrawn cL_ifDrawn 5 (some .int) [(0, 7, 8, 16), (0, 7, 13, 36)] :: wsA) B.pre v9 (List.mem_cons_of_mem _ h9)
  have htab : c.exceptionTable.toList = tableOf [(0, 7, 8, 16), (0, 7, 13, 36)] := vx_table (x := yL_ifDrawn) B (atoms_spec (ws := Cond.codeWith yL_ifDrawn cL_ifDrawn 5 (some .int) [(0, 7, 8, 16), (0, 7, 13, 36)] :: wsA) B.pre _ List.mem_cons_self)
  have hown : s.vm.findClass RL = some m.cls := findClass_of_methodNamed B.named
  have S0 : k_C p s m ([.ref (a 0), .int lf, .int rt, .int b] : List Value).toArray c cL_ifDrawn 5 RL := ⟨hx, hb, hml, hown, ht⟩
  have hlocks := B.notSynchronized
  subst hsz
  have hD := hD0.self (sz := s.heap.size)
  generalize hAe : va_A ((WW a K KS st hs sc)) s.heap.size = A at hD hG ⊢
  have hA : ∀ q : Nat, s.heap.size ≤ q → A q := fun q h => by rw [← hAe]; exact Or.inr h
  have hS : va_S A s.heap s.heap [] := va_S.rf
  have hl := lv_entry ([.ref (a 0), .int lf, .int rt, .int b]) (n := 5) (Nat.le_of_ble_eq_true rfl)
  rw [lg_entry_eq]
  generalize (lg_sl ([.ref (a 0), .int lf, .int rt, .int b]) ++ List.replicate (5 - (lg_sl ([.ref (a 0), .int lf, .int rt, .int b])).length) Slot.unset).toArray = ls at hl ⊢
  have hl : lv_has ls 5 [(0, .ref (a 0)), (1, .int lf), (2, .int rt), (3, .int b)] := hl
  have hP : va_P D vwCl ((WW a K KS st hs sc)) s.heap := hP
  refine lv_aload_n hx hb dL_ifDrawn_0 rfl (lv_at hl 0 rfl) ?_
  refine lv_iload_n hx hb dL_ifDrawn_1 rfl (lv_at hl 1 rfl) ?_
  refine lv_iload_n hx hb dL_ifDrawn_2 rfl (lv_at hl 2 rfl) ?_
  refine lv_iload_n hx hb dL_ifDrawn_3 rfl (lv_at hl 3 rfl) ?_
  have ct := k_cut_TT (wp := []) (T := (WW a K KS st hs sc)) (wc := []) (wr := []) (tc := [(K, .int), (KS, .object "BarcodeWand$State")]) hG hS hA hK hP hD [] [] [0, 1] rfl rfl (by decide) (by decide) (by decide) rfl
  refine k_endi (As := [.ref (a 0), .int lf, .int rt, .int b]) ct (k_runV (As := [.int lf, .int rt, .int b]) (rest := []) S0 Lv_L_62 rfl (ci := 7) (q0 := 0) rfl (WW_0 a K KS st hs sc) ct (c_B_ifDrawn l D a K KS st hs sc lf rt b (by assumption) (by assumption) (by assumption) s.heap.size) hl.1 rfl (Nat.le_of_ble_eq_true rfl) rfl dL_ifDrawn_4 ⟨⟨Nat.le_of_ble_eq_true rfl, Nat.le_of_ble_eq_true rfl⟩, Nat.le_of_ble_eq_true rfl, Nat.le_of_ble_eq_true rfl⟩) rfl rfl (fun r_1 sc1v_2 H locs hw_3 hP hD hK hS => ?_)
  have hK : va_K D vwCl [(K, .int), (KS, .object "BarcodeWand$State")] s := hK
  have hP : va_P D vwCl ((WW a K KS st hs sc1v_2)) H := hP
  have hD : va_D A ((WW a K KS st hs sc1v_2)) := hD
  have hw_3 : r_1 = resF (s_ns st) (s_drw st lf rt b) (s_tol st) := hw_3
  have hP9 : va_P D vwCl ((WW a K KS st hs sc1v_2)) H := k_subP (wp := []) (wp' := []) (T := (WW a K KS st hs sc1v_2)) hP [] rfl
  have hD9 : va_D A ((WW a K KS st hs sc1v_2)) := k_subD (wp := []) (wp' := []) (T := (WW a K KS st hs sc1v_2)) hD [] (by decide) rfl
  have hP9 : va_P D vwCl ((WW a K KS st hs sc1v_2)) H := hP9
  have hD9 : va_D A ((WW a K KS st hs sc1v_2)) := hD9
  have hK9 : va_K D vwCl [] s := hK.sub [] rfl
  exact W.iret (v := r_1) hx hb hr (fun t ht9 hW9 => ⟨⟨r_1, sc1v_2, rfl, by first | rfl | exact hw_3, ⟨by rw [ht9]; exact hP9, va_K.moved hW9.alike hK9, hD9⟩⟩, hS.F ht9⟩) hS.2.2 dL_ifDrawn_7
set_option maxHeartbeats 4000000 in
set_option maxRecDepth 100000 in
theorem c_L_greatest (l : Launch) (D : va_G) (a : Nat → Nat) (K : ClassId) (KS : ClassId) (st : ST) (hs : HT) (sc : SCT) (en : Nat) (hbst : bST st) (hen : en < s_ns st) (sz : Nat) : k_Wi (S := SCT) l D yL_greatestSmudge cL_greatestSmudge 3 (some .int) [(0, 5, 6, 22)] 6 0 0 141 [.ref (a 0), .int (nI en)] ((WW a K KS st hs sc)) [(K, .int), (KS, .object "BarcodeWand$State")] (fun (r : Int32) (sc1 : SCT) => GS st en r) (fun sc1 => ((WW a K KS st hs sc1))) (fun sc1 => []) sz := by
  refine va_MetW (cc := cL_greatestSmudge) (maxL := 3) (ret := (some .int)) (hh := [(0, 5, 6, 22)]) (by decide) rfl ?_
  intro p e s m args below meth c s₁ B hml hv
  obtain ⟨rfl, hsz, hP, hK, hD0, hG⟩ := hv
  have hx := B.exec
  have hb := B.bytes
  have hr := B.returns
  have ht : ∀ v9 ∈ wsA, v9.before ([.ref (a 0), .int (nI en)] : List Value).toArray s = true := fun v9 h9 => atoms_spec (ws := Cond.codeWith yL_greatestSmudge cL_greatestSmudge 3 (some .int) [(0, 5, 6, 22)] :: wsA) B.pre v9 (List.mem_cons_of_mem _ h9)
  have htab : c.exceptionTable.toList = tableOf [(0, 5, 6, 22)] := vx_table (x := yL_greatestSmudge) B (atoms_spec (ws := Cond.codeWith yL_greatestSmudge cL_greatestSmudge 3 (some .int) [(0, 5, 6, 22)] :: wsA) B.pre _ List.mem_cons_self)
  have hown : s.vm.findClass RL = some m.cls := findClass_of_methodNamed B.named
  have S0 : k_C p s m ([.ref (a 0), .int (nI en)] : List Value).toArray c cL_greatestSmudge 3 RL := ⟨hx, hb, hml, hown, ht⟩
  have hlocks := B.notSynchronized
  subst hsz
  have hD := hD0.self (sz := s.heap.size)
  generalize hAe : va_A ((WW a K KS st hs sc)) s.heap.size = A at hD hG ⊢
  have hA : ∀ q : Nat, s.heap.size ≤ q → A q := fun q h => by rw [← hAe]; exact Or.inr h
  have hS : va_S A s.heap s.heap [] := va_S.rf
  have hl := lv_entry ([.ref (a 0), .int (nI en)]) (n := 3) (Nat.le_of_ble_eq_true rfl)
  rw [lg_entry_eq]
  generalize (lg_sl ([.ref (a 0), .int (nI en)]) ++ List.replicate (3 - (lg_sl ([.ref (a 0), .int (nI en)])).length) Slot.unset).toArray = ls at hl ⊢
  have hl : lv_has ls 3 [(0, .ref (a 0)), (1, .int (nI en))] := hl
  have hP : va_P D vwCl ((WW a K KS st hs sc)) s.heap := hP
  refine lv_aload_n hx hb dL_greatestSmudge_0 rfl (lv_at hl 0 rfl) ?_
  refine lv_iload_n hx hb dL_greatestSmudge_1 rfl (lv_at hl 1 rfl) ?_
  have ct := k_cut_TT (wp := []) (T := (WW a K KS st hs sc)) (wc := []) (wr := []) (tc := [(K, .int), (KS, .object "BarcodeWand$State")]) hG hS hA hK hP hD [] [] [0, 1] rfl rfl (by decide) (by decide) (by decide) rfl
  refine k_endi (As := [.ref (a 0), .int (nI en)]) ct (k_runV (As := [.int (nI en)]) (rest := []) S0 Lv_L_65 rfl (ci := 7) (q0 := 0) rfl (WW_0 a K KS st hs sc) ct (c_B_greatest l D a K KS st hs sc en (by assumption) (by assumption) s.heap.size) hl.1 rfl (Nat.le_of_ble_eq_true rfl) rfl dL_greatestSmudge_2 ⟨⟨Nat.le_of_ble_eq_true rfl, Nat.le_of_ble_eq_true rfl⟩, Nat.le_of_ble_eq_true rfl, Nat.le_of_ble_eq_true rfl⟩) rfl rfl (fun r_1 sc1v_2 H locs hw_3 hP hD hK hS => ?_)
  have hK : va_K D vwCl [(K, .int), (KS, .object "BarcodeWand$State")] s := hK
  have hP : va_P D vwCl ((WW a K KS st hs sc1v_2)) H := hP
  have hD : va_D A ((WW a K KS st hs sc1v_2)) := hD
  have hw_3 : GS st en r_1 := hw_3
  have hP9 : va_P D vwCl ((WW a K KS st hs sc1v_2)) H := k_subP (wp := []) (wp' := []) (T := (WW a K KS st hs sc1v_2)) hP [] rfl
  have hD9 : va_D A ((WW a K KS st hs sc1v_2)) := k_subD (wp := []) (wp' := []) (T := (WW a K KS st hs sc1v_2)) hD [] (by decide) rfl
  have hP9 : va_P D vwCl ((WW a K KS st hs sc1v_2)) H := hP9
  have hD9 : va_D A ((WW a K KS st hs sc1v_2)) := hD9
  have hK9 : va_K D vwCl [] s := hK.sub [] rfl
  exact W.iret (v := r_1) hx hb hr (fun t ht9 hW9 => ⟨⟨r_1, sc1v_2, rfl, by first | rfl | exact hw_3, ⟨by rw [ht9]; exact hP9, va_K.moved hW9.alike hK9, hD9⟩⟩, hS.F ht9⟩) hS.2.2 dL_greatestSmudge_5
set_option maxHeartbeats 4000000 in
set_option maxRecDepth 100000 in
theorem c_L_undo (l : Launch) (D : va_G) (a : Nat → Nat) (K : ClassId) (KS : ClassId) (st : ST) (hs : HT) (sc : SCT) (hbst : bST st) (hh : okH hs) (hk0 : 1 ≤ h_kp hs) (sz : Nat) : k_Wi (S := ST) l D yL_undo cL_undo 2 (some .int) [(0, 4, 5, 36)] 7 0 0 147 [.ref (a 0)] ((WW a K KS st hs sc)) [(K, .int), (KS, .object "BarcodeWand$State")] (fun (r : Int32) (st1 : ST) => r = (nI (h_kp hs - 1)) ∧ st1 = rsS hs st) (fun st1 => ((WW a K KS st1 (rsH hs) sc))) (fun st1 => []) sz := by
  refine va_MetW (cc := cL_undo) (maxL := 2) (ret := (some .int)) (hh := [(0, 4, 5, 36)]) (by decide) rfl ?_
  intro p e s m args below meth c s₁ B hml hv
  obtain ⟨rfl, hsz, hP, hK, hD0, hG⟩ := hv
  have hx := B.exec
  have hb := B.bytes
  have hr := B.returns
  have ht : ∀ v9 ∈ wsA, v9.before ([.ref (a 0)] : List Value).toArray s = true := fun v9 h9 => atoms_spec (ws := Cond.codeWith yL_undo cL_undo 2 (some .int) [(0, 4, 5, 36)] :: wsA) B.pre v9 (List.mem_cons_of_mem _ h9)
  have htab : c.exceptionTable.toList = tableOf [(0, 4, 5, 36)] := vx_table (x := yL_undo) B (atoms_spec (ws := Cond.codeWith yL_undo cL_undo 2 (some .int) [(0, 4, 5, 36)] :: wsA) B.pre _ List.mem_cons_self)
  have hown : s.vm.findClass RL = some m.cls := findClass_of_methodNamed B.named
  have S0 : k_C p s m ([.ref (a 0)] : List Value).toArray c cL_undo 2 RL := ⟨hx, hb, hml, hown, ht⟩
  have hlocks := B.notSynchronized
  subst hsz
  have hD := hD0.self (sz := s.heap.size)
  generalize hAe : va_A ((WW a K KS st hs sc)) s.heap.size = A at hD hG ⊢
  have hA : ∀ q : Nat, s.heap.size ≤ q → A q := fun q h => by rw [← hAe]; exact Or.inr h
  have hS : va_S A s.heap s.heap [] := va_S.rf
  have hl := lv_entry ([.ref (a 0)]) (n := 2) (Nat.le_of_ble_eq_true rfl)
  rw [lg_entry_eq]
  generalize (lg_sl ([.ref (a 0)]) ++ List.replicate (2 - (lg_sl ([.ref (a 0)])).length) Slot.unset).toArray = ls at hl ⊢
  have hl : lv_has ls 2 [(0, .ref (a 0))] := hl
  have hP : va_P D vwCl ((WW a K KS st hs sc)) s.heap := hP
  refine lv_aload_n hx hb dL_undo_0 rfl (lv_at hl 0 rfl) ?_
  have ct := k_cut_TT (wp := []) (T := (WW a K KS st hs sc)) (wc := []) (wr := []) (tc := [(K, .int), (KS, .object "BarcodeWand$State")]) hG hS hA hK hP hD [] [] [0, 1] rfl rfl (by decide) (by decide) (by decide) rfl
  refine k_endi (As := [.ref (a 0)]) ct (k_runV (As := []) (rest := []) S0 Lv_L_68 rfl (ci := 7) (q0 := 0) rfl (WW_0 a K KS st hs sc) ct (c_B_undo l D a K KS st hs sc (by assumption) (by assumption) (by assumption) s.heap.size) hl.1 rfl (Nat.le_of_ble_eq_true rfl) rfl dL_undo_1 ⟨⟨Nat.le_of_ble_eq_true rfl, Nat.le_of_ble_eq_true rfl⟩, Nat.le_of_ble_eq_true rfl, Nat.le_of_ble_eq_true rfl⟩) rfl rfl (fun r_1 st1v_2 H locs hw_3 hP hD hK hS => ?_)
  have hK : va_K D vwCl [(K, .int), (KS, .object "BarcodeWand$State")] s := hK
  have hP : va_P D vwCl ((WW a K KS st1v_2 (rsH hs) sc)) H := hP
  have hD : va_D A ((WW a K KS st1v_2 (rsH hs) sc)) := hD
  have hw_3 : r_1 = (nI (h_kp hs - 1)) ∧ st1v_2 = rsS hs st := hw_3
  have hP9 : va_P D vwCl ((WW a K KS st1v_2 (rsH hs) sc)) H := k_subP (wp := []) (wp' := []) (T := (WW a K KS st1v_2 (rsH hs) sc)) hP [] rfl
  have hD9 : va_D A ((WW a K KS st1v_2 (rsH hs) sc)) := k_subD (wp := []) (wp' := []) (T := (WW a K KS st1v_2 (rsH hs) sc)) hD [] (by decide) rfl
  have hP9 : va_P D vwCl ((WW a K KS st1v_2 (rsH hs) sc)) H := hP9
  have hD9 : va_D A ((WW a K KS st1v_2 (rsH hs) sc)) := hD9
  have hK9 : va_K D vwCl [] s := hK.sub [] rfl
  exact W.iret (v := r_1) hx hb hr (fun t ht9 hW9 => ⟨⟨r_1, st1v_2, rfl, by first | rfl | exact hw_3, ⟨by rw [ht9]; exact hP9, va_K.moved hW9.alike hK9, hD9⟩⟩, hS.F ht9⟩) hS.2.2 dL_undo_4
set_option maxHeartbeats 4000000 in
set_option maxRecDepth 100000 in
theorem c_L_smudgeX (l : Launch) (hst : l.stackTraces = false) (D : va_G) (a : Nat → Nat) (K : ClassId) (KS : ClassId) (st : ST) (hs : HT) (sc : SCT) (en : Nat) (x : Int32) (hxi : inR (nI en) (nI (s_ns st)) = 0) (sz : Nat) : k_Wi (S := Unit) l D yL_smudge cL_smudge 4 (some .int) [(0, 6, 7, 22), (0, 6, 11, 16)] 8 1 6 126 [.ref (a 0), .int (nI en), .int x] ((WW a K KS st hs sc)) [(K, .int), (KS, .object "BarcodeWand$State")] (fun (r : Int32) (_ : Unit) => r = (-1000001)) (fun _ => ((WW a K KS st hs sc))) (fun _ => []) sz := by
  refine va_MetW (cc := cL_smudge) (maxL := 4) (ret := (some .int)) (hh := [(0, 6, 7, 22), (0, 6, 11, 16)]) (by decide) rfl ?_
  intro p e s m args below meth c s₁ B hml hv
  obtain ⟨rfl, hsz, hP, hK, hD0, hG⟩ := hv
  have hx := B.exec
  have hb := B.bytes
  have hr := B.returns
  have ht : ∀ v9 ∈ wsA, v9.before ([.ref (a 0), .int (nI en), .int x] : List Value).toArray s = true := fun v9 h9 => atoms_spec (ws := Cond.codeWith yL_smudge cL_smudge 4 (some .int) [(0, 6, 7, 22), (0, 6, 11, 16)] :: wsA) B.pre v9 (List.mem_cons_of_mem _ h9)
  have htab : c.exceptionTable.toList = tableOf [(0, 6, 7, 22), (0, 6, 11, 16)] := vx_table (x := yL_smudge) B (atoms_spec (ws := Cond.codeWith yL_smudge cL_smudge 4 (some .int) [(0, 6, 7, 22), (0, 6, 11, 16)] :: wsA) B.pre _ List.mem_cons_self)
  have hown : s.vm.findClass RL = some m.cls := findClass_of_methodNamed B.named
  have S0 : k_C p s m ([.ref (a 0), .int (nI en), .int x] : List Value).toArray c cL_smudge 4 RL := ⟨hx, hb, hml, hown, ht⟩
  have hlocks := B.notSynchronized
  subst hsz
  have hD := hD0.self (sz := s.heap.size)
  generalize hAe : va_A ((WW a K KS st hs sc)) s.heap.size = A at hD hG ⊢
  have hA : ∀ q : Nat, s.heap.size ≤ q → A q := fun q h => by rw [← hAe]; exact Or.inr h
  have hS : va_S A s.heap s.heap [] := va_S.rf
  have hl := lv_entry ([.ref (a 0), .int (nI en), .int x]) (n := 4) (Nat.le_of_ble_eq_true rfl)
  rw [lg_entry_eq]
  generalize (lg_sl ([.ref (a 0), .int (nI en), .int x]) ++ List.replicate (4 - (lg_sl ([.ref (a 0), .int (nI en), .int x])).length) Slot.unset).toArray = ls at hl ⊢
  have hl : lv_has ls 4 [(0, .ref (a 0)), (1, .int (nI en)), (2, .int x)] := hl
  have hP : va_P D vwCl ((WW a K KS st hs sc)) s.heap := hP
  refine lv_aload_n hx hb dL_smudge_0 rfl (lv_at hl 0 rfl) ?_
  refine lv_iload_n hx hb dL_smudge_1 rfl (lv_at hl 1 rfl) ?_
  refine lv_iload_n hx hb dL_smudge_2 rfl (lv_at hl 2 rfl) ?_
  have ct := k_cut_TT (wp := []) (T := (WW a K KS st hs sc)) (wc := []) (wr := []) (tc := [(K, .int), (KS, .object "BarcodeWand$State")]) hG hS hA hK hP hD [] [] [0, 1] rfl rfl (by decide) (by decide) (by decide) rfl
  refine k_endXi (EX := fun E => E = "java/lang/IndexOutOfBoundsException") (As := [.ref (a 0), .int (nI en), .int x]) ct (k_xrunV (As := [.int (nI en), .int x]) (rest := []) S0 Lv_L_19 rfl (ci := 7) (q0 := 0) rfl (WW_0 a K KS st hs sc) ct (c_B_smudgeX l hst D a K KS st hs sc en x (by assumption) s.heap.size) hl.1 rfl (Nat.le_of_ble_eq_true rfl) rfl dL_smudge_3 ⟨⟨Nat.le_of_ble_eq_true rfl, Nat.le_of_ble_eq_true rfl⟩, Nat.le_of_ble_eq_true rfl, Nat.le_of_ble_eq_true rfl⟩) rfl rfl ?_ (fun r_1 _ H locs hw_2 hP hD hK hS => ?_)
  · intro E ce q9 H locs hE hP hD hS hq9 hv9 hcl9
    try dsimp only at hE
    have hP : va_P D vwCl ((WW a K KS st hs sc)) H := hP
    have hD : va_D A ((WW a K KS st hs sc)) := hD
    subst hE
    refine vx_catch hown [] ⟨0, 6, 7, 22⟩ [⟨0, 6, 11, 16⟩] (by rw [htab]; rfl) (fun z9 h9 => absurd h9 List.not_mem_nil) (by decide) (by decide) (ht _ lc_L_22) (va_Nw.use rfl (hG.1 _ (List.mem_of_getElem? (i := 416) rfl) rfl)) hq9 hv9 hcl9 ?_
    refine lv_astore_n (lv' := [(3, .ref q9), (0, .ref (a 0)), (1, .int (nI en)), (2, .int x)]) hx hb dL_smudge_7 rfl hl (by decide) rfl (fun ls hl => ?_)
    refine lv_ldc (v := (-1000001)) hx hb hown (ht _ lx_L_18) dL_smudge_8 ?_
    have hP9 : va_P D vwCl ((WW a K KS st hs sc)) H := k_subP (wp := []) (wp' := []) (T := (WW a K KS st hs sc)) hP [] rfl
    have hD9 : va_D A ((WW a K KS st hs sc)) := k_subD (wp := []) (wp' := []) (T := (WW a K KS st hs sc)) hD [] (by decide) rfl
    have hP9 : va_P D vwCl ((WW a K KS st hs sc)) H := hP9
    have hD9 : va_D A ((WW a K KS st hs sc)) := hD9
    have hK9 : va_K D vwCl [] s := hK.sub [] rfl
    exact W.iret (v := (-1000001)) hx hb hr (fun t ht9 hW9 => ⟨⟨(-1000001), (), rfl, by first | rfl | trivial | (simp only [if_true, if_false, reduceIte, and_self]; done) | simp_all, ⟨by rw [ht9]; exact hP9, va_K.moved hW9.alike hK9, hD9⟩⟩, hS.F ht9⟩) hS.2.2 dL_smudge_10
  have hK : va_K D vwCl [(K, .int), (KS, .object "BarcodeWand$State")] s := hK
  have hP : va_P D vwCl ((WW a K KS st hs sc)) H := hP
  have hD : va_D A ((WW a K KS st hs sc)) := hD
  exact hw_2.elim
set_option maxHeartbeats 4000000 in
set_option maxRecDepth 100000 in
theorem c_L_widthX (l : Launch) (hst : l.stackTraces = false) (D : va_G) (a : Nat → Nat) (K : ClassId) (KS : ClassId) (st : ST) (hs : HT) (sc : SCT) (x : Int32) (hxi : inR x (nI (s_ns st)) = 0) (sz : Nat) : k_Wi (S := Unit) l D yL_width cL_width 3 (some .int) [(0, 5, 6, 22)] 8 1 6 124 [.ref (a 0), .int x] ((WW a K KS st hs sc)) [(K, .int), (KS, .object "BarcodeWand$State")] (fun (r : Int32) (_ : Unit) => r = (-1000001)) (fun _ => ((WW a K KS st hs sc))) (fun _ => []) sz := by
  refine va_MetW (cc := cL_width) (maxL := 3) (ret := (some .int)) (hh := [(0, 5, 6, 22)]) (by decide) rfl ?_
  intro p e s m args below meth c s₁ B hml hv
  obtain ⟨rfl, hsz, hP, hK, hD0, hG⟩ := hv
  have hx := B.exec
  have hb := B.bytes
  have hr := B.returns
  have ht : ∀ v9 ∈ wsA, v9.before ([.ref (a 0), .int x] : List Value).toArray s = true := fun v9 h9 => atoms_spec (ws := Cond.codeWith yL_width cL_width 3 (some .int) [(0, 5, 6, 22)] :: wsA) B.pre v9 (List.mem_cons_of_mem _ h9)
  have htab : c.exceptionTable.toList = tableOf [(0, 5, 6, 22)] := vx_table (x := yL_width) B (atoms_spec (ws := Cond.codeWith yL_width cL_width 3 (some .int) [(0, 5, 6, 22)] :: wsA) B.pre _ List.mem_cons_self)
  have hown : s.vm.findClass RL = some m.cls := findClass_of_methodNamed B.named
  have S0 : k_C p s m ([.ref (a 0), .int x] : List Value).toArray c cL_width 3 RL := ⟨hx, hb, hml, hown, ht⟩
  have hlocks := B.notSynchronized
  subst hsz
  have hD := hD0.self (sz := s.heap.size)
  generalize hAe : va_A ((WW a K KS st hs sc)) s.heap.size = A at hD hG ⊢
  have hA : ∀ q : Nat, s.heap.size ≤ q → A q := fun q h => by rw [← hAe]; exact Or.inr h
  have hS : va_S A s.heap s.heap [] := va_S.rf
  have hl := lv_entry ([.ref (a 0), .int x]) (n := 3) (Nat.le_of_ble_eq_true rfl)
  rw [lg_entry_eq]
  generalize (lg_sl ([.ref (a 0), .int x]) ++ List.replicate (3 - (lg_sl ([.ref (a 0), .int x])).length) Slot.unset).toArray = ls at hl ⊢
  have hl : lv_has ls 3 [(0, .ref (a 0)), (1, .int x)] := hl
  have hP : va_P D vwCl ((WW a K KS st hs sc)) s.heap := hP
  refine lv_aload_n hx hb dL_width_0 rfl (lv_at hl 0 rfl) ?_
  refine lv_iload_n hx hb dL_width_1 rfl (lv_at hl 1 rfl) ?_
  have ct := k_cut_TT (wp := []) (T := (WW a K KS st hs sc)) (wc := []) (wr := []) (tc := [(K, .int), (KS, .object "BarcodeWand$State")]) hG hS hA hK hP hD [] [] [0, 1] rfl rfl (by decide) (by decide) (by decide) rfl
  refine k_endXi (EX := fun E => E = "java/lang/IndexOutOfBoundsException") (As := [.ref (a 0), .int x]) ct (k_xrunV (As := [.int x]) (rest := []) S0 Lv_L_25 rfl (ci := 7) (q0 := 0) rfl (WW_0 a K KS st hs sc) ct (c_B_widthX l hst D a K KS st hs sc x (by assumption) s.heap.size) hl.1 rfl (Nat.le_of_ble_eq_true rfl) rfl dL_width_2 ⟨⟨Nat.le_of_ble_eq_true rfl, Nat.le_of_ble_eq_true rfl⟩, Nat.le_of_ble_eq_true rfl, Nat.le_of_ble_eq_true rfl⟩) rfl rfl ?_ (fun r_1 _ H locs hw_2 hP hD hK hS => ?_)
  · intro E ce q9 H locs hE hP hD hS hq9 hv9 hcl9
    try dsimp only at hE
    have hP : va_P D vwCl ((WW a K KS st hs sc)) H := hP
    have hD : va_D A ((WW a K KS st hs sc)) := hD
    subst hE
    refine vx_catch hown [] ⟨0, 5, 6, 22⟩ [] (by rw [htab]; rfl) (fun z9 h9 => absurd h9 List.not_mem_nil) (by decide) (by decide) (ht _ lc_L_22) (va_Nw.use rfl (hG.1 _ (List.mem_of_getElem? (i := 416) rfl) rfl)) hq9 hv9 hcl9 ?_
    refine lv_astore_n (lv' := [(2, .ref q9), (0, .ref (a 0)), (1, .int x)]) hx hb dL_width_6 rfl hl (by decide) rfl (fun ls hl => ?_)
    refine lv_ldc (v := (-1000001)) hx hb hown (ht _ lx_L_18) dL_width_7 ?_
    have hP9 : va_P D vwCl ((WW a K KS st hs sc)) H := k_subP (wp := []) (wp' := []) (T := (WW a K KS st hs sc)) hP [] rfl
    have hD9 : va_D A ((WW a K KS st hs sc)) := k_subD (wp := []) (wp' := []) (T := (WW a K KS st hs sc)) hD [] (by decide) rfl
    have hP9 : va_P D vwCl ((WW a K KS st hs sc)) H := hP9
    have hD9 : va_D A ((WW a K KS st hs sc)) := hD9
    have hK9 : va_K D vwCl [] s := hK.sub [] rfl
    exact W.iret (v := (-1000001)) hx hb hr (fun t ht9 hW9 => ⟨⟨(-1000001), (), rfl, by first | rfl | trivial | (simp only [if_true, if_false, reduceIte, and_self]; done) | simp_all, ⟨by rw [ht9]; exact hP9, va_K.moved hW9.alike hK9, hD9⟩⟩, hS.F ht9⟩) hS.2.2 dL_width_9
  have hK : va_K D vwCl [(K, .int), (KS, .object "BarcodeWand$State")] s := hK
  have hP : va_P D vwCl ((WW a K KS st hs sc)) H := hP
  have hD : va_D A ((WW a K KS st hs sc)) := hD
  exact hw_2.elim
set_option maxHeartbeats 4000000 in
set_option maxRecDepth 100000 in
theorem c_L_labelDigitX (l : Launch) (hst : l.stackTraces = false) (D : va_G) (a : Nat → Nat) (K : ClassId) (KS : ClassId) (st : ST) (hs : HT) (sc : SCT) (x : Int32) (hxi : inR x (nI (s_nd st)) = 0) (sz : Nat) : k_Wi (S := Unit) l D yL_labelDigit cL_labelDigit 3 (some .int) [(0, 5, 6, 22)] 7 1 6 103 [.ref (a 0), .int x] ((WW a K KS st hs sc)) [(K, .int), (KS, .object "BarcodeWand$State")] (fun (r : Int32) (_ : Unit) => r = (-1000001)) (fun _ => ((WW a K KS st hs sc))) (fun _ => []) sz := by
  refine va_MetW (cc := cL_labelDigit) (maxL := 3) (ret := (some .int)) (hh := [(0, 5, 6, 22)]) (by decide) rfl ?_
  intro p e s m args below meth c s₁ B hml hv
  obtain ⟨rfl, hsz, hP, hK, hD0, hG⟩ := hv
  have hx := B.exec
  have hb := B.bytes
  have hr := B.returns
  have ht : ∀ v9 ∈ wsA, v9.before ([.ref (a 0), .int x] : List Value).toArray s = true := fun v9 h9 => atoms_spec (ws := Cond.codeWith yL_labelDigit cL_labelDigit 3 (some .int) [(0, 5, 6, 22)] :: wsA) B.pre v9 (List.mem_cons_of_mem _ h9)
  have htab : c.exceptionTable.toList = tableOf [(0, 5, 6, 22)] := vx_table (x := yL_labelDigit) B (atoms_spec (ws := Cond.codeWith yL_labelDigit cL_labelDigit 3 (some .int) [(0, 5, 6, 22)] :: wsA) B.pre _ List.mem_cons_self)
  have hown : s.vm.findClass RL = some m.cls := findClass_of_methodNamed B.named
  have S0 : k_C p s m ([.ref (a 0), .int x] : List Value).toArray c cL_labelDigit 3 RL := ⟨hx, hb, hml, hown, ht⟩
  have hlocks := B.notSynchronized
  subst hsz
  have hD := hD0.self (sz := s.heap.size)
  generalize hAe : va_A ((WW a K KS st hs sc)) s.heap.size = A at hD hG ⊢
  have hA : ∀ q : Nat, s.heap.size ≤ q → A q := fun q h => by rw [← hAe]; exact Or.inr h
  have hS : va_S A s.heap s.heap [] := va_S.rf
  have hl := lv_entry ([.ref (a 0), .int x]) (n := 3) (Nat.le_of_ble_eq_true rfl)
  rw [lg_entry_eq]
  generalize (lg_sl ([.ref (a 0), .int x]) ++ List.replicate (3 - (lg_sl ([.ref (a 0), .int x])).length) Slot.unset).toArray = ls at hl ⊢
  have hl : lv_has ls 3 [(0, .ref (a 0)), (1, .int x)] := hl
  have hP : va_P D vwCl ((WW a K KS st hs sc)) s.heap := hP
  refine lv_aload_n hx hb dL_labelDigit_0 rfl (lv_at hl 0 rfl) ?_
  refine lv_iload_n hx hb dL_labelDigit_1 rfl (lv_at hl 1 rfl) ?_
  have ct := k_cut_TT (wp := []) (T := (WW a K KS st hs sc)) (wc := []) (wr := []) (tc := [(K, .int), (KS, .object "BarcodeWand$State")]) hG hS hA hK hP hD [] [] [0, 1] rfl rfl (by decide) (by decide) (by decide) rfl
  refine k_endXi (EX := fun E => E = "java/lang/IndexOutOfBoundsException") (As := [.ref (a 0), .int x]) ct (k_xrunV (As := [.int x]) (rest := []) S0 Lv_L_29 rfl (ci := 7) (q0 := 0) rfl (WW_0 a K KS st hs sc) ct (c_B_labelDigitX l hst D a K KS st hs sc x (by assumption) s.heap.size) hl.1 rfl (Nat.le_of_ble_eq_true rfl) rfl dL_labelDigit_2 ⟨⟨Nat.le_of_ble_eq_true rfl, Nat.le_of_ble_eq_true rfl⟩, Nat.le_of_ble_eq_true rfl, Nat.le_of_ble_eq_true rfl⟩) rfl rfl ?_ (fun r_1 _ H locs hw_2 hP hD hK hS => ?_)
  · intro E ce q9 H locs hE hP hD hS hq9 hv9 hcl9
    try dsimp only at hE
    have hP : va_P D vwCl ((WW a K KS st hs sc)) H := hP
    have hD : va_D A ((WW a K KS st hs sc)) := hD
    subst hE
    refine vx_catch hown [] ⟨0, 5, 6, 22⟩ [] (by rw [htab]; rfl) (fun z9 h9 => absurd h9 List.not_mem_nil) (by decide) (by decide) (ht _ lc_L_22) (va_Nw.use rfl (hG.1 _ (List.mem_of_getElem? (i := 416) rfl) rfl)) hq9 hv9 hcl9 ?_
    refine lv_astore_n (lv' := [(2, .ref q9), (0, .ref (a 0)), (1, .int x)]) hx hb dL_labelDigit_6 rfl hl (by decide) rfl (fun ls hl => ?_)
    refine lv_ldc (v := (-1000001)) hx hb hown (ht _ lx_L_18) dL_labelDigit_7 ?_
    have hP9 : va_P D vwCl ((WW a K KS st hs sc)) H := k_subP (wp := []) (wp' := []) (T := (WW a K KS st hs sc)) hP [] rfl
    have hD9 : va_D A ((WW a K KS st hs sc)) := k_subD (wp := []) (wp' := []) (T := (WW a K KS st hs sc)) hD [] (by decide) rfl
    have hP9 : va_P D vwCl ((WW a K KS st hs sc)) H := hP9
    have hD9 : va_D A ((WW a K KS st hs sc)) := hD9
    have hK9 : va_K D vwCl [] s := hK.sub [] rfl
    exact W.iret (v := (-1000001)) hx hb hr (fun t ht9 hW9 => ⟨⟨(-1000001), (), rfl, by first | rfl | trivial | (simp only [if_true, if_false, reduceIte, and_self]; done) | simp_all, ⟨by rw [ht9]; exact hP9, va_K.moved hW9.alike hK9, hD9⟩⟩, hS.F ht9⟩) hS.2.2 dL_labelDigit_9
  have hK : va_K D vwCl [(K, .int), (KS, .object "BarcodeWand$State")] s := hK
  have hP : va_P D vwCl ((WW a K KS st hs sc)) H := hP
  have hD : va_D A ((WW a K KS st hs sc)) := hD
  exact hw_2.elim
set_option maxHeartbeats 4000000 in
set_option maxRecDepth 100000 in
theorem c_L_drawX (l : Launch) (hst : l.stackTraces = false) (D : va_G) (a : Nat → Nat) (K : ClassId) (KS : ClassId) (st : ST) (hs : HT) (sc : SCT) (lf : Int32) (rt : Int32) (b : Int32) (hp : k_per lf rt) (hne : s_ns st = 0) (sz : Nat) : k_Wi (S := Unit) l D yL_draw cL_draw 5 (some .int) [(0, 7, 8, 16), (0, 7, 13, 36)] 8 1 6 127 [.ref (a 0), .int lf, .int rt, .int b] ((WW a K KS st hs sc)) [(K, .int), (KS, .object "BarcodeWand$State")] (fun (r : Int32) (_ : Unit) => r = (-1000002)) (fun _ => ((WW a K KS st hs sc))) (fun _ => []) sz := by
  refine va_MetW (cc := cL_draw) (maxL := 5) (ret := (some .int)) (hh := [(0, 7, 8, 16), (0, 7, 13, 36)]) (by decide) rfl ?_
  intro p e s m args below meth c s₁ B hml hv
  obtain ⟨rfl, hsz, hP, hK, hD0, hG⟩ := hv
  have hx := B.exec
  have hb := B.bytes
  have hr := B.returns
  have ht : ∀ v9 ∈ wsA, v9.before ([.ref (a 0), .int lf, .int rt, .int b] : List Value).toArray s = true := fun v9 h9 => atoms_spec (ws := Cond.codeWith yL_draw cL_draw 5 (some .int) [(0, 7, 8, 16), (0, 7, 13, 36)] :: wsA) B.pre v9 (List.mem_cons_of_mem _ h9)
  have htab : c.exceptionTable.toList = tableOf [(0, 7, 8, 16), (0, 7, 13, 36)] := vx_table (x := yL_draw) B (atoms_spec (ws := Cond.codeWith yL_draw cL_draw 5 (some .int) [(0, 7, 8, 16), (0, 7, 13, 36)] :: wsA) B.pre _ List.mem_cons_self)
  have hown : s.vm.findClass RL = some m.cls := findClass_of_methodNamed B.named
  have S0 : k_C p s m ([.ref (a 0), .int lf, .int rt, .int b] : List Value).toArray c cL_draw 5 RL := ⟨hx, hb, hml, hown, ht⟩
  have hlocks := B.notSynchronized
  subst hsz
  have hD := hD0.self (sz := s.heap.size)
  generalize hAe : va_A ((WW a K KS st hs sc)) s.heap.size = A at hD hG ⊢
  have hA : ∀ q : Nat, s.heap.size ≤ q → A q := fun q h => by rw [← hAe]; exact Or.inr h
  have hS : va_S A s.heap s.heap [] := va_S.rf
  have hl := lv_entry ([.ref (a 0), .int lf, .int rt, .int b]) (n := 5) (Nat.le_of_ble_eq_true rfl)
  rw [lg_entry_eq]
  generalize (lg_sl ([.ref (a 0), .int lf, .int rt, .int b]) ++ List.replicate (5 - (lg_sl ([.ref (a 0), .int lf, .int rt, .int b])).length) Slot.unset).toArray = ls at hl ⊢
  have hl : lv_has ls 5 [(0, .ref (a 0)), (1, .int lf), (2, .int rt), (3, .int b)] := hl
  have hP : va_P D vwCl ((WW a K KS st hs sc)) s.heap := hP
  refine lv_aload_n hx hb dL_draw_0 rfl (lv_at hl 0 rfl) ?_
  refine lv_iload_n hx hb dL_draw_1 rfl (lv_at hl 1 rfl) ?_
  refine lv_iload_n hx hb dL_draw_2 rfl (lv_at hl 2 rfl) ?_
  refine lv_iload_n hx hb dL_draw_3 rfl (lv_at hl 3 rfl) ?_
  have ct := k_cut_TT (wp := []) (T := (WW a K KS st hs sc)) (wc := []) (wr := []) (tc := [(K, .int), (KS, .object "BarcodeWand$State")]) hG hS hA hK hP hD [] [] [0, 1] rfl rfl (by decide) (by decide) (by decide) rfl
  refine k_endXi (EX := fun E => E = "java/lang/IllegalStateException") (As := [.ref (a 0), .int lf, .int rt, .int b]) ct (k_xrunV (As := [.int lf, .int rt, .int b]) (rest := []) S0 Lv_L_32 rfl (ci := 7) (q0 := 0) rfl (WW_0 a K KS st hs sc) ct (c_B_drawX l hst D a K KS st hs sc lf rt b (by assumption) (by assumption) s.heap.size) hl.1 rfl (Nat.le_of_ble_eq_true rfl) rfl dL_draw_4 ⟨⟨Nat.le_of_ble_eq_true rfl, Nat.le_of_ble_eq_true rfl⟩, Nat.le_of_ble_eq_true rfl, Nat.le_of_ble_eq_true rfl⟩) rfl rfl ?_ (fun r_1 _ H locs hw_2 hP hD hK hS => ?_)
  · intro E ce q9 H locs hE hP hD hS hq9 hv9 hcl9
    try dsimp only at hE
    have hP : va_P D vwCl ((WW a K KS st hs sc)) H := hP
    have hD : va_D A ((WW a K KS st hs sc)) := hD
    subst hE
    refine vx_catch hown [⟨0, 7, 8, 16⟩] ⟨0, 7, 13, 36⟩ [] (by rw [htab]; rfl) (fun z9 h9 => by rcases List.mem_singleton.mp h9 with rfl; exact Or.inr ⟨by decide, "java/lang/IllegalArgumentException", ht _ lc_L_16, hG.2.2.2.2.1⟩) (by decide) (by decide) (ht _ lc_L_36) (va_Nw.use rfl (hG.1 _ (List.mem_of_getElem? (i := 376) rfl) rfl)) hq9 hv9 hcl9 ?_
    refine lv_astore (lv' := [(4, .ref q9), (0, .ref (a 0)), (1, .int lf), (2, .int rt), (3, .int b)]) hx hb dL_draw_13 hl (by decide) rfl (fun ls hl => ?_)
    refine lv_ldc (v := (-1000002)) hx hb hown (ht _ lx_L_24) dL_draw_15 ?_
    have hP9 : va_P D vwCl ((WW a K KS st hs sc)) H := k_subP (wp := []) (wp' := []) (T := (WW a K KS st hs sc)) hP [] rfl
    have hD9 : va_D A ((WW a K KS st hs sc)) := k_subD (wp := []) (wp' := []) (T := (WW a K KS st hs sc)) hD [] (by decide) rfl
    have hP9 : va_P D vwCl ((WW a K KS st hs sc)) H := hP9
    have hD9 : va_D A ((WW a K KS st hs sc)) := hD9
    have hK9 : va_K D vwCl [] s := hK.sub [] rfl
    exact W.iret (v := (-1000002)) hx hb hr (fun t ht9 hW9 => ⟨⟨(-1000002), (), rfl, by first | rfl | trivial | (simp only [if_true, if_false, reduceIte, and_self]; done) | simp_all, ⟨by rw [ht9]; exact hP9, va_K.moved hW9.alike hK9, hD9⟩⟩, hS.F ht9⟩) hS.2.2 dL_draw_17
  have hK : va_K D vwCl [(K, .int), (KS, .object "BarcodeWand$State")] s := hK
  have hP : va_P D vwCl ((WW a K KS st hs sc)) H := hP
  have hD : va_D A ((WW a K KS st hs sc)) := hD
  exact hw_2.elim
set_option maxHeartbeats 4000000 in
set_option maxRecDepth 100000 in
theorem c_L_measureX (l : Launch) (hst : l.stackTraces = false) (D : va_G) (a : Nat → Nat) (K : ClassId) (KS : ClassId) (st : ST) (hs : HT) (sc : SCT) (x : Int32) (hbst : bST st) (hx1 : ¬ x < 1) (hx2 : x ≤ 9999) (h41 : 41 ≤ s_tn st) (sz : Nat) : k_Wi (S := Unit) l D yL_measure cL_measure 3 (some .int) [(0, 5, 6, 16), (0, 5, 10, 36)] 7 1 6 103 [.ref (a 0), .int x] ((WW a K KS st hs sc)) [(K, .int), (KS, .object "BarcodeWand$State")] (fun (r : Int32) (_ : Unit) => r = (-1000002)) (fun _ => ((WW a K KS st hs sc))) (fun _ => []) sz := by
  refine va_MetW (cc := cL_measure) (maxL := 3) (ret := (some .int)) (hh := [(0, 5, 6, 16), (0, 5, 10, 36)]) (by decide) rfl ?_
  intro p e s m args below meth c s₁ B hml hv
  obtain ⟨rfl, hsz, hP, hK, hD0, hG⟩ := hv
  have hx := B.exec
  have hb := B.bytes
  have hr := B.returns
  have ht : ∀ v9 ∈ wsA, v9.before ([.ref (a 0), .int x] : List Value).toArray s = true := fun v9 h9 => atoms_spec (ws := Cond.codeWith yL_measure cL_measure 3 (some .int) [(0, 5, 6, 16), (0, 5, 10, 36)] :: wsA) B.pre v9 (List.mem_cons_of_mem _ h9)
  have htab : c.exceptionTable.toList = tableOf [(0, 5, 6, 16), (0, 5, 10, 36)] := vx_table (x := yL_measure) B (atoms_spec (ws := Cond.codeWith yL_measure cL_measure 3 (some .int) [(0, 5, 6, 16), (0, 5, 10, 36)] :: wsA) B.pre _ List.mem_cons_self)
  have hown : s.vm.findClass RL = some m.cls := findClass_of_methodNamed B.named
  have S0 : k_C p s m ([.ref (a 0), .int x] : List Value).toArray c cL_measure 3 RL := ⟨hx, hb, hml, hown, ht⟩
  have hlocks := B.notSynchronized
  subst hsz
  have hD := hD0.self (sz := s.heap.size)
  generalize hAe : va_A ((WW a K KS st hs sc)) s.heap.size = A at hD hG ⊢
  have hA : ∀ q : Nat, s.heap.size ≤ q → A q := fun q h => by rw [← hAe]; exact Or.inr h
  have hS : va_S A s.heap s.heap [] := va_S.rf
  have hl := lv_entry ([.ref (a 0), .int x]) (n := 3) (Nat.le_of_ble_eq_true rfl)
  rw [lg_entry_eq]
  generalize (lg_sl ([.ref (a 0), .int x]) ++ List.replicate (3 - (lg_sl ([.ref (a 0), .int x])).length) Slot.unset).toArray = ls at hl ⊢
  have hl : lv_has ls 3 [(0, .ref (a 0)), (1, .int x)] := hl
  have hP : va_P D vwCl ((WW a K KS st hs sc)) s.heap := hP
  refine lv_aload_n hx hb dL_measure_0 rfl (lv_at hl 0 rfl) ?_
  refine lv_iload_n hx hb dL_measure_1 rfl (lv_at hl 1 rfl) ?_
  have ct := k_cut_TT (wp := []) (T := (WW a K KS st hs sc)) (wc := []) (wr := []) (tc := [(K, .int), (KS, .object "BarcodeWand$State")]) hG hS hA hK hP hD [] [] [0, 1] rfl rfl (by decide) (by decide) (by decide) rfl
  refine k_endXi (EX := fun E => E = "java/lang/IllegalStateException") (As := [.ref (a 0), .int x]) ct (k_xrunV (As := [.int x]) (rest := []) S0 Lv_L_38 rfl (ci := 7) (q0 := 0) rfl (WW_0 a K KS st hs sc) ct (c_B_measureX l hst D a K KS st hs sc x (by assumption) (by assumption) (by assumption) (by assumption) s.heap.size) hl.1 rfl (Nat.le_of_ble_eq_true rfl) rfl dL_measure_2 ⟨⟨Nat.le_of_ble_eq_true rfl, Nat.le_of_ble_eq_true rfl⟩, Nat.le_of_ble_eq_true rfl, Nat.le_of_ble_eq_true rfl⟩) rfl rfl ?_ (fun r_1 _ H locs hw_2 hP hD hK hS => ?_)
  · intro E ce q9 H locs hE hP hD hS hq9 hv9 hcl9
    try dsimp only at hE
    have hP : va_P D vwCl ((WW a K KS st hs sc)) H := hP
    have hD : va_D A ((WW a K KS st hs sc)) := hD
    subst hE
    refine vx_catch hown [⟨0, 5, 6, 16⟩] ⟨0, 5, 10, 36⟩ [] (by rw [htab]; rfl) (fun z9 h9 => by rcases List.mem_singleton.mp h9 with rfl; exact Or.inr ⟨by decide, "java/lang/IllegalArgumentException", ht _ lc_L_16, hG.2.2.2.2.1⟩) (by decide) (by decide) (ht _ lc_L_36) (va_Nw.use rfl (hG.1 _ (List.mem_of_getElem? (i := 376) rfl) rfl)) hq9 hv9 hcl9 ?_
    refine lv_astore_n (lv' := [(2, .ref q9), (0, .ref (a 0)), (1, .int x)]) hx hb dL_measure_10 rfl hl (by decide) rfl (fun ls hl => ?_)
    refine lv_ldc (v := (-1000002)) hx hb hown (ht _ lx_L_24) dL_measure_11 ?_
    have hP9 : va_P D vwCl ((WW a K KS st hs sc)) H := k_subP (wp := []) (wp' := []) (T := (WW a K KS st hs sc)) hP [] rfl
    have hD9 : va_D A ((WW a K KS st hs sc)) := k_subD (wp := []) (wp' := []) (T := (WW a K KS st hs sc)) hD [] (by decide) rfl
    have hP9 : va_P D vwCl ((WW a K KS st hs sc)) H := hP9
    have hD9 : va_D A ((WW a K KS st hs sc)) := hD9
    have hK9 : va_K D vwCl [] s := hK.sub [] rfl
    exact W.iret (v := (-1000002)) hx hb hr (fun t ht9 hW9 => ⟨⟨(-1000002), (), rfl, by first | rfl | trivial | (simp only [if_true, if_false, reduceIte, and_self]; done) | simp_all, ⟨by rw [ht9]; exact hP9, va_K.moved hW9.alike hK9, hD9⟩⟩, hS.F ht9⟩) hS.2.2 dL_measure_13
  have hK : va_K D vwCl [(K, .int), (KS, .object "BarcodeWand$State")] s := hK
  have hP : va_P D vwCl ((WW a K KS st hs sc)) H := hP
  have hD : va_D A ((WW a K KS st hs sc)) := hD
  exact hw_2.elim
set_option maxHeartbeats 4000000 in
set_option maxRecDepth 100000 in
theorem c_L_ifDrawnX (l : Launch) (hst : l.stackTraces = false) (D : va_G) (a : Nat → Nat) (K : ClassId) (KS : ClassId) (st : ST) (hs : HT) (sc : SCT) (lf : Int32) (rt : Int32) (b : Int32) (hp : k_per lf rt) (hne : s_ns st = 0) (sz : Nat) : k_Wi (S := Unit) l D yL_ifDrawn cL_ifDrawn 5 (some .int) [(0, 7, 8, 16), (0, 7, 13, 36)] 8 1 6 127 [.ref (a 0), .int lf, .int rt, .int b] ((WW a K KS st hs sc)) [(K, .int), (KS, .object "BarcodeWand$State")] (fun (r : Int32) (_ : Unit) => r = (-1000002)) (fun _ => ((WW a K KS st hs sc))) (fun _ => []) sz := by
  refine va_MetW (cc := cL_ifDrawn) (maxL := 5) (ret := (some .int)) (hh := [(0, 7, 8, 16), (0, 7, 13, 36)]) (by decide) rfl ?_
  intro p e s m args below meth c s₁ B hml hv
  obtain ⟨rfl, hsz, hP, hK, hD0, hG⟩ := hv
  have hx := B.exec
  have hb := B.bytes
  have hr := B.returns
  have ht : ∀ v9 ∈ wsA, v9.before ([.ref (a 0), .int lf, .int rt, .int b] : List Value).toArray s = true := fun v9 h9 => atoms_spec (ws := Cond.codeWith yL_ifDrawn cL_ifDrawn 5 (some .int) [(0, 7, 8, 16), (0, 7, 13, 36)] :: wsA) B.pre v9 (List.mem_cons_of_mem _ h9)
  have htab : c.exceptionTable.toList = tableOf [(0, 7, 8, 16), (0, 7, 13, 36)] := vx_table (x := yL_ifDrawn) B (atoms_spec (ws := Cond.codeWith yL_ifDrawn cL_ifDrawn 5 (some .int) [(0, 7, 8, 16), (0, 7, 13, 36)] :: wsA) B.pre _ List.mem_cons_self)
  have hown : s.vm.findClass RL = some m.cls := findClass_of_methodNamed B.named
  have S0 : k_C p s m ([.ref (a 0), .int lf, .int rt, .int b] : List Value).toArray c cL_ifDrawn 5 RL := ⟨hx, hb, hml, hown, ht⟩
  have hlocks := B.notSynchronized
  subst hsz
  have hD := hD0.self (sz := s.heap.size)
  generalize hAe : va_A ((WW a K KS st hs sc)) s.heap.size = A at hD hG ⊢
  have hA : ∀ q : Nat, s.heap.size ≤ q → A q := fun q h => by rw [← hAe]; exact Or.inr h
  have hS : va_S A s.heap s.heap [] := va_S.rf
  have hl := lv_entry ([.ref (a 0), .int lf, .int rt, .int b]) (n := 5) (Nat.le_of_ble_eq_true rfl)
  rw [lg_entry_eq]
  generalize (lg_sl ([.ref (a 0), .int lf, .int rt, .int b]) ++ List.replicate (5 - (lg_sl ([.ref (a 0), .int lf, .int rt, .int b])).length) Slot.unset).toArray = ls at hl ⊢
  have hl : lv_has ls 5 [(0, .ref (a 0)), (1, .int lf), (2, .int rt), (3, .int b)] := hl
  have hP : va_P D vwCl ((WW a K KS st hs sc)) s.heap := hP
  refine lv_aload_n hx hb dL_ifDrawn_0 rfl (lv_at hl 0 rfl) ?_
  refine lv_iload_n hx hb dL_ifDrawn_1 rfl (lv_at hl 1 rfl) ?_
  refine lv_iload_n hx hb dL_ifDrawn_2 rfl (lv_at hl 2 rfl) ?_
  refine lv_iload_n hx hb dL_ifDrawn_3 rfl (lv_at hl 3 rfl) ?_
  have ct := k_cut_TT (wp := []) (T := (WW a K KS st hs sc)) (wc := []) (wr := []) (tc := [(K, .int), (KS, .object "BarcodeWand$State")]) hG hS hA hK hP hD [] [] [0, 1] rfl rfl (by decide) (by decide) (by decide) rfl
  refine k_endXi (EX := fun E => E = "java/lang/IllegalStateException") (As := [.ref (a 0), .int lf, .int rt, .int b]) ct (k_xrunV (As := [.int lf, .int rt, .int b]) (rest := []) S0 Lv_L_62 rfl (ci := 7) (q0 := 0) rfl (WW_0 a K KS st hs sc) ct (c_B_ifDrawnX l hst D a K KS st hs sc lf rt b (by assumption) (by assumption) s.heap.size) hl.1 rfl (Nat.le_of_ble_eq_true rfl) rfl dL_ifDrawn_4 ⟨⟨Nat.le_of_ble_eq_true rfl, Nat.le_of_ble_eq_true rfl⟩, Nat.le_of_ble_eq_true rfl, Nat.le_of_ble_eq_true rfl⟩) rfl rfl ?_ (fun r_1 _ H locs hw_2 hP hD hK hS => ?_)
  · intro E ce q9 H locs hE hP hD hS hq9 hv9 hcl9
    try dsimp only at hE
    have hP : va_P D vwCl ((WW a K KS st hs sc)) H := hP
    have hD : va_D A ((WW a K KS st hs sc)) := hD
    subst hE
    refine vx_catch hown [⟨0, 7, 8, 16⟩] ⟨0, 7, 13, 36⟩ [] (by rw [htab]; rfl) (fun z9 h9 => by rcases List.mem_singleton.mp h9 with rfl; exact Or.inr ⟨by decide, "java/lang/IllegalArgumentException", ht _ lc_L_16, hG.2.2.2.2.1⟩) (by decide) (by decide) (ht _ lc_L_36) (va_Nw.use rfl (hG.1 _ (List.mem_of_getElem? (i := 376) rfl) rfl)) hq9 hv9 hcl9 ?_
    refine lv_astore (lv' := [(4, .ref q9), (0, .ref (a 0)), (1, .int lf), (2, .int rt), (3, .int b)]) hx hb dL_ifDrawn_13 hl (by decide) rfl (fun ls hl => ?_)
    refine lv_ldc (v := (-1000002)) hx hb hown (ht _ lx_L_24) dL_ifDrawn_15 ?_
    have hP9 : va_P D vwCl ((WW a K KS st hs sc)) H := k_subP (wp := []) (wp' := []) (T := (WW a K KS st hs sc)) hP [] rfl
    have hD9 : va_D A ((WW a K KS st hs sc)) := k_subD (wp := []) (wp' := []) (T := (WW a K KS st hs sc)) hD [] (by decide) rfl
    have hP9 : va_P D vwCl ((WW a K KS st hs sc)) H := hP9
    have hD9 : va_D A ((WW a K KS st hs sc)) := hD9
    have hK9 : va_K D vwCl [] s := hK.sub [] rfl
    exact W.iret (v := (-1000002)) hx hb hr (fun t ht9 hW9 => ⟨⟨(-1000002), (), rfl, by first | rfl | trivial | (simp only [if_true, if_false, reduceIte, and_self]; done) | simp_all, ⟨by rw [ht9]; exact hP9, va_K.moved hW9.alike hK9, hD9⟩⟩, hS.F ht9⟩) hS.2.2 dL_ifDrawn_17
  have hK : va_K D vwCl [(K, .int), (KS, .object "BarcodeWand$State")] s := hK
  have hP : va_P D vwCl ((WW a K KS st hs sc)) H := hP
  have hD : va_D A ((WW a K KS st hs sc)) := hD
  exact hw_2.elim
set_option maxHeartbeats 4000000 in
set_option maxRecDepth 100000 in
theorem c_L_greatestX (l : Launch) (hst : l.stackTraces = false) (D : va_G) (a : Nat → Nat) (K : ClassId) (KS : ClassId) (st : ST) (hs : HT) (sc : SCT) (en : Nat) (hxi : inR (nI en) (nI (s_ns st)) = 0) (sz : Nat) : k_Wi (S := Unit) l D yL_greatestSmudge cL_greatestSmudge 3 (some .int) [(0, 5, 6, 22)] 8 1 6 127 [.ref (a 0), .int (nI en)] ((WW a K KS st hs sc)) [(K, .int), (KS, .object "BarcodeWand$State")] (fun (r : Int32) (_ : Unit) => r = (-1000001)) (fun _ => ((WW a K KS st hs sc))) (fun _ => []) sz := by
  refine va_MetW (cc := cL_greatestSmudge) (maxL := 3) (ret := (some .int)) (hh := [(0, 5, 6, 22)]) (by decide) rfl ?_
  intro p e s m args below meth c s₁ B hml hv
  obtain ⟨rfl, hsz, hP, hK, hD0, hG⟩ := hv
  have hx := B.exec
  have hb := B.bytes
  have hr := B.returns
  have ht : ∀ v9 ∈ wsA, v9.before ([.ref (a 0), .int (nI en)] : List Value).toArray s = true := fun v9 h9 => atoms_spec (ws := Cond.codeWith yL_greatestSmudge cL_greatestSmudge 3 (some .int) [(0, 5, 6, 22)] :: wsA) B.pre v9 (List.mem_cons_of_mem _ h9)
  have htab : c.exceptionTable.toList = tableOf [(0, 5, 6, 22)] := vx_table (x := yL_greatestSmudge) B (atoms_spec (ws := Cond.codeWith yL_greatestSmudge cL_greatestSmudge 3 (some .int) [(0, 5, 6, 22)] :: wsA) B.pre _ List.mem_cons_self)
  have hown : s.vm.findClass RL = some m.cls := findClass_of_methodNamed B.named
  have S0 : k_C p s m ([.ref (a 0), .int (nI en)] : List Value).toArray c cL_greatestSmudge 3 RL := ⟨hx, hb, hml, hown, ht⟩
  have hlocks := B.notSynchronized
  subst hsz
  have hD := hD0.self (sz := s.heap.size)
  generalize hAe : va_A ((WW a K KS st hs sc)) s.heap.size = A at hD hG ⊢
  have hA : ∀ q : Nat, s.heap.size ≤ q → A q := fun q h => by rw [← hAe]; exact Or.inr h
  have hS : va_S A s.heap s.heap [] := va_S.rf
  have hl := lv_entry ([.ref (a 0), .int (nI en)]) (n := 3) (Nat.le_of_ble_eq_true rfl)
  rw [lg_entry_eq]
  generalize (lg_sl ([.ref (a 0), .int (nI en)]) ++ List.replicate (3 - (lg_sl ([.ref (a 0), .int (nI en)])).length) Slot.unset).toArray = ls at hl ⊢
  have hl : lv_has ls 3 [(0, .ref (a 0)), (1, .int (nI en))] := hl
  have hP : va_P D vwCl ((WW a K KS st hs sc)) s.heap := hP
  refine lv_aload_n hx hb dL_greatestSmudge_0 rfl (lv_at hl 0 rfl) ?_
  refine lv_iload_n hx hb dL_greatestSmudge_1 rfl (lv_at hl 1 rfl) ?_
  have ct := k_cut_TT (wp := []) (T := (WW a K KS st hs sc)) (wc := []) (wr := []) (tc := [(K, .int), (KS, .object "BarcodeWand$State")]) hG hS hA hK hP hD [] [] [0, 1] rfl rfl (by decide) (by decide) (by decide) rfl
  refine k_endXi (EX := fun E => E = "java/lang/IndexOutOfBoundsException") (As := [.ref (a 0), .int (nI en)]) ct (k_xrunV (As := [.int (nI en)]) (rest := []) S0 Lv_L_65 rfl (ci := 7) (q0 := 0) rfl (WW_0 a K KS st hs sc) ct (c_B_greatestX l hst D a K KS st hs sc en (by assumption) s.heap.size) hl.1 rfl (Nat.le_of_ble_eq_true rfl) rfl dL_greatestSmudge_2 ⟨⟨Nat.le_of_ble_eq_true rfl, Nat.le_of_ble_eq_true rfl⟩, Nat.le_of_ble_eq_true rfl, Nat.le_of_ble_eq_true rfl⟩) rfl rfl ?_ (fun r_1 _ H locs hw_2 hP hD hK hS => ?_)
  · intro E ce q9 H locs hE hP hD hS hq9 hv9 hcl9
    try dsimp only at hE
    have hP : va_P D vwCl ((WW a K KS st hs sc)) H := hP
    have hD : va_D A ((WW a K KS st hs sc)) := hD
    subst hE
    refine vx_catch hown [] ⟨0, 5, 6, 22⟩ [] (by rw [htab]; rfl) (fun z9 h9 => absurd h9 List.not_mem_nil) (by decide) (by decide) (ht _ lc_L_22) (va_Nw.use rfl (hG.1 _ (List.mem_of_getElem? (i := 416) rfl) rfl)) hq9 hv9 hcl9 ?_
    refine lv_astore_n (lv' := [(2, .ref q9), (0, .ref (a 0)), (1, .int (nI en))]) hx hb dL_greatestSmudge_6 rfl hl (by decide) rfl (fun ls hl => ?_)
    refine lv_ldc (v := (-1000001)) hx hb hown (ht _ lx_L_18) dL_greatestSmudge_7 ?_
    have hP9 : va_P D vwCl ((WW a K KS st hs sc)) H := k_subP (wp := []) (wp' := []) (T := (WW a K KS st hs sc)) hP [] rfl
    have hD9 : va_D A ((WW a K KS st hs sc)) := k_subD (wp := []) (wp' := []) (T := (WW a K KS st hs sc)) hD [] (by decide) rfl
    have hP9 : va_P D vwCl ((WW a K KS st hs sc)) H := hP9
    have hD9 : va_D A ((WW a K KS st hs sc)) := hD9
    have hK9 : va_K D vwCl [] s := hK.sub [] rfl
    exact W.iret (v := (-1000001)) hx hb hr (fun t ht9 hW9 => ⟨⟨(-1000001), (), rfl, by first | rfl | trivial | (simp only [if_true, if_false, reduceIte, and_self]; done) | simp_all, ⟨by rw [ht9]; exact hP9, va_K.moved hW9.alike hK9, hD9⟩⟩, hS.F ht9⟩) hS.2.2 dL_greatestSmudge_9
  have hK : va_K D vwCl [(K, .int), (KS, .object "BarcodeWand$State")] s := hK
  have hP : va_P D vwCl ((WW a K KS st hs sc)) H := hP
  have hD : va_D A ((WW a K KS st hs sc)) := hD
  exact hw_2.elim
