set_option maxRecDepth 20000 in
theorem lk_X7_print : Cond.code yX7_print cX7_print 3 (some .int) ∈ wsA := mA 577 rfl rfl
theorem ly_X7_print : k_y yX7_print 2 := ⟨by decide +kernel, by decide +kernel, by decide +kernel⟩
set_option maxRecDepth 20000 in
theorem lm_X7_print : Cond.instanceMethod yX7_print ∈ wsA := mA 575 rfl rfl
set_option maxRecDepth 20000 in
theorem le_X7_print : Cond.selects (yX7_print).cls yX7_print yX7_print ∈ wsA := mA 576 rfl rfl
set_option maxRecDepth 20000 in
theorem Lv_L_7 : k_LV RL 7 yX7_print cX7_print 3 (some .int) 2 := ⟨mA 574 rfl rfl, lm_X7_print, le_X7_print, li_BarcodeWand, lk_X7_print, ly_X7_print⟩
set_option maxRecDepth 20000 in
theorem lc_L_13 : Cond.classLink RL 13 "java/lang/IllegalArgumentException" ∈ wsA := mA 573 rfl rfl
set_option maxRecDepth 20000 in
theorem lk_X7_smudge : Cond.code yX7_smudge cX7_smudge 4 (some .int) ∈ wsA := mA 615 rfl rfl
theorem ly_X7_smudge : k_y yX7_smudge 2 := ⟨by decide +kernel, by decide +kernel, by decide +kernel⟩
set_option maxRecDepth 20000 in
theorem lm_X7_smudge : Cond.instanceMethod yX7_smudge ∈ wsA := mA 613 rfl rfl
set_option maxRecDepth 20000 in
theorem le_X7_smudge : Cond.selects (yX7_smudge).cls yX7_smudge yX7_smudge ∈ wsA := mA 614 rfl rfl
set_option maxRecDepth 20000 in
theorem Lv_L_15 : k_LV RL 15 yX7_smudge cX7_smudge 4 (some .int) 2 := ⟨mA 612 rfl rfl, lm_X7_smudge, le_X7_smudge, li_BarcodeWand, lk_X7_smudge, ly_X7_smudge⟩
set_option maxRecDepth 20000 in
theorem lc_L_18 : Cond.classLink RL 18 "java/lang/IndexOutOfBoundsException" ∈ wsA := mA 611 rfl rfl
set_option maxRecDepth 20000 in
theorem lk_X7_width : Cond.code yX7_width cX7_width 2 (some .int) ∈ wsA := mA 623 rfl rfl
theorem ly_X7_width : k_y yX7_width 1 := ⟨by decide +kernel, by decide +kernel, by decide +kernel⟩
set_option maxRecDepth 20000 in
theorem lm_X7_width : Cond.instanceMethod yX7_width ∈ wsA := mA 621 rfl rfl
set_option maxRecDepth 20000 in
theorem le_X7_width : Cond.selects (yX7_width).cls yX7_width yX7_width ∈ wsA := mA 622 rfl rfl
set_option maxRecDepth 20000 in
theorem Lv_L_20 : k_LV RL 20 yX7_width cX7_width 2 (some .int) 1 := ⟨mA 620 rfl rfl, lm_X7_width, le_X7_width, li_BarcodeWand, lk_X7_width, ly_X7_width⟩
set_option maxRecDepth 20000 in
theorem lk_X7_labelDigit : Cond.code yX7_labelDigit cX7_labelDigit 2 (some .int) ∈ wsA := mA 630 rfl rfl
theorem ly_X7_labelDigit : k_y yX7_labelDigit 1 := ⟨by decide +kernel, by decide +kernel, by decide +kernel⟩
set_option maxRecDepth 20000 in
theorem lm_X7_labelDigit : Cond.instanceMethod yX7_labelDigit ∈ wsA := mA 628 rfl rfl
set_option maxRecDepth 20000 in
theorem le_X7_labelDigit : Cond.selects (yX7_labelDigit).cls yX7_labelDigit yX7_labelDigit ∈ wsA := mA 629 rfl rfl
set_option maxRecDepth 20000 in
theorem Lv_L_24 : k_LV RL 24 yX7_labelDigit cX7_labelDigit 2 (some .int) 1 := ⟨mA 627 rfl rfl, lm_X7_labelDigit, le_X7_labelDigit, li_BarcodeWand, lk_X7_labelDigit, ly_X7_labelDigit⟩
set_option maxRecDepth 20000 in
theorem lk_X7_time : Cond.code yX7_time cX7_time 2 (some .int) ∈ wsA := mA 678 rfl rfl
theorem ly_X7_time : k_y yX7_time 1 := ⟨by decide +kernel, by decide +kernel, by decide +kernel⟩
set_option maxRecDepth 20000 in
theorem lm_X7_time : Cond.instanceMethod yX7_time ∈ wsA := mA 676 rfl rfl
set_option maxRecDepth 20000 in
theorem le_X7_time : Cond.selects (yX7_time).cls yX7_time yX7_time ∈ wsA := mA 677 rfl rfl
set_option maxRecDepth 20000 in
theorem Lv_L_36 : k_LV RL 36 yX7_time cX7_time 2 (some .int) 1 := ⟨mA 675 rfl rfl, lm_X7_time, le_X7_time, li_BarcodeWand, lk_X7_time, ly_X7_time⟩
set_option maxRecDepth 20000 in
theorem lk_X7_nearest : Cond.code yX7_nearest cX7_nearest 2 (some .int) ∈ wsA := mA 702 rfl rfl
theorem ly_X7_nearest : k_y yX7_nearest 1 := ⟨by decide +kernel, by decide +kernel, by decide +kernel⟩
set_option maxRecDepth 20000 in
theorem lm_X7_nearest : Cond.instanceMethod yX7_nearest ∈ wsA := mA 700 rfl rfl
set_option maxRecDepth 20000 in
theorem le_X7_nearest : Cond.selects (yX7_nearest).cls yX7_nearest yX7_nearest ∈ wsA := mA 701 rfl rfl
set_option maxRecDepth 20000 in
theorem Lv_L_45 : k_LV RL 45 yX7_nearest cX7_nearest 2 (some .int) 1 := ⟨mA 699 rfl rfl, lm_X7_nearest, le_X7_nearest, li_BarcodeWand, lk_X7_nearest, ly_X7_nearest⟩
set_option maxRecDepth 20000 in
theorem lk_X7_code : Cond.code yX7_code cX7_code 2 (some .int) ∈ wsA := mA 711 rfl rfl
theorem ly_X7_code : k_y yX7_code 1 := ⟨by decide +kernel, by decide +kernel, by decide +kernel⟩
set_option maxRecDepth 20000 in
theorem lm_X7_code : Cond.instanceMethod yX7_code ∈ wsA := mA 709 rfl rfl
set_option maxRecDepth 20000 in
theorem le_X7_code : Cond.selects (yX7_code).cls yX7_code yX7_code ∈ wsA := mA 710 rfl rfl
set_option maxRecDepth 20000 in
theorem Lv_L_48 : k_LV RL 48 yX7_code cX7_code 2 (some .int) 1 := ⟨mA 708 rfl rfl, lm_X7_code, le_X7_code, li_BarcodeWand, lk_X7_code, ly_X7_code⟩
set_option maxRecDepth 20000 in
theorem lk_X7_codeLength : Cond.code yX7_codeLength cX7_codeLength 2 (some .int) ∈ wsA := mA 723 rfl rfl
theorem ly_X7_codeLength : k_y yX7_codeLength 1 := ⟨by decide +kernel, by decide +kernel, by decide +kernel⟩
set_option maxRecDepth 20000 in
theorem lm_X7_codeLength : Cond.instanceMethod yX7_codeLength ∈ wsA := mA 721 rfl rfl
set_option maxRecDepth 20000 in
theorem le_X7_codeLength : Cond.selects (yX7_codeLength).cls yX7_codeLength yX7_codeLength ∈ wsA := mA 722 rfl rfl
set_option maxRecDepth 20000 in
theorem Lv_L_51 : k_LV RL 51 yX7_codeLength cX7_codeLength 2 (some .int) 1 := ⟨mA 720 rfl rfl, lm_X7_codeLength, le_X7_codeLength, li_BarcodeWand, lk_X7_codeLength, ly_X7_codeLength⟩
set_option maxRecDepth 20000 in
theorem lk_X7_count : Cond.code yX7_count cX7_count 2 (some .int) ∈ wsA := mA 730 rfl rfl
theorem ly_X7_count : k_y yX7_count 1 := ⟨by decide +kernel, by decide +kernel, by decide +kernel⟩
set_option maxRecDepth 20000 in
theorem lm_X7_count : Cond.instanceMethod yX7_count ∈ wsA := mA 728 rfl rfl
set_option maxRecDepth 20000 in
theorem le_X7_count : Cond.selects (yX7_count).cls yX7_count yX7_count ∈ wsA := mA 729 rfl rfl
set_option maxRecDepth 20000 in
theorem Lv_L_54 : k_LV RL 54 yX7_count cX7_count 2 (some .int) 1 := ⟨mA 727 rfl rfl, lm_X7_count, le_X7_count, li_BarcodeWand, lk_X7_count, ly_X7_count⟩
set_option maxRecDepth 20000 in
theorem lk_X7_greatestSmudge : Cond.code yX7_greatestSmudge cX7_greatestSmudge 5 (some .int) ∈ wsA := mA 475 rfl rfl
theorem ly_X7_greatestSmudge : k_y yX7_greatestSmudge 1 := ⟨by decide +kernel, by decide +kernel, by decide +kernel⟩
set_option maxRecDepth 20000 in
theorem lm_X7_greatestSmudge : Cond.instanceMethod yX7_greatestSmudge ∈ wsA := mA 473 rfl rfl
set_option maxRecDepth 20000 in
theorem le_X7_greatestSmudge : Cond.selects (yX7_greatestSmudge).cls yX7_greatestSmudge yX7_greatestSmudge ∈ wsA := mA 474 rfl rfl
set_option maxRecDepth 20000 in
theorem Lv_L_60 : k_LV RL 60 yX7_greatestSmudge cX7_greatestSmudge 5 (some .int) 1 := ⟨mA 741 rfl rfl, lm_X7_greatestSmudge, le_X7_greatestSmudge, li_BarcodeWand, lk_X7_greatestSmudge, ly_X7_greatestSmudge⟩
set_option maxRecDepth 20000 in
theorem lk_X7_draw : Cond.code yX7_draw cX7_draw 4 (some .int) ∈ wsA := mA 639 rfl rfl
theorem ly_X7_draw : k_y yX7_draw 3 := ⟨by decide +kernel, by decide +kernel, by decide +kernel⟩
set_option maxRecDepth 20000 in
theorem lm_X7_draw : Cond.instanceMethod yX7_draw ∈ wsA := mA 637 rfl rfl
set_option maxRecDepth 20000 in
theorem le_X7_draw : Cond.selects (yX7_draw).cls yX7_draw yX7_draw ∈ wsA := mA 638 rfl rfl
set_option maxRecDepth 20000 in
theorem Lv_L_27 : k_LV RL 27 yX7_draw cX7_draw 4 (some .int) 3 := ⟨mA 636 rfl rfl, lm_X7_draw, le_X7_draw, li_BarcodeWand, lk_X7_draw, ly_X7_draw⟩
set_option maxRecDepth 20000 in
theorem lc_L_31 : Cond.classLink RL 31 "java/lang/IllegalStateException" ∈ wsA := mA 635 rfl rfl
set_option maxRecDepth 20000 in
theorem lk_X7_ifDrawn : Cond.code yX7_ifDrawn cX7_ifDrawn 4 (some .int) ∈ wsA := mA 737 rfl rfl
theorem ly_X7_ifDrawn : k_y yX7_ifDrawn 3 := ⟨by decide +kernel, by decide +kernel, by decide +kernel⟩
set_option maxRecDepth 20000 in
theorem lm_X7_ifDrawn : Cond.instanceMethod yX7_ifDrawn ∈ wsA := mA 735 rfl rfl
set_option maxRecDepth 20000 in
theorem le_X7_ifDrawn : Cond.selects (yX7_ifDrawn).cls yX7_ifDrawn yX7_ifDrawn ∈ wsA := mA 736 rfl rfl
set_option maxRecDepth 20000 in
theorem Lv_L_57 : k_LV RL 57 yX7_ifDrawn cX7_ifDrawn 4 (some .int) 3 := ⟨mA 734 rfl rfl, lm_X7_ifDrawn, le_X7_ifDrawn, li_BarcodeWand, lk_X7_ifDrawn, ly_X7_ifDrawn⟩
set_option maxRecDepth 20000 in
theorem lk_X7_measure : Cond.code yX7_measure cX7_measure 2 (some .int) ∈ wsA := mA 667 rfl rfl
theorem ly_X7_measure : k_y yX7_measure 1 := ⟨by decide +kernel, by decide +kernel, by decide +kernel⟩
set_option maxRecDepth 20000 in
theorem lm_X7_measure : Cond.instanceMethod yX7_measure ∈ wsA := mA 665 rfl rfl
set_option maxRecDepth 20000 in
theorem le_X7_measure : Cond.selects (yX7_measure).cls yX7_measure yX7_measure ∈ wsA := mA 666 rfl rfl
set_option maxRecDepth 20000 in
theorem Lv_L_33 : k_LV RL 33 yX7_measure cX7_measure 2 (some .int) 1 := ⟨mA 664 rfl rfl, lm_X7_measure, le_X7_measure, li_BarcodeWand, lk_X7_measure, ly_X7_measure⟩
set_option maxRecDepth 20000 in
theorem lk_X7_setTolerance : Cond.code yX7_setTolerance cX7_setTolerance 3 (some .int) ∈ wsA := mA 686 rfl rfl
theorem ly_X7_setTolerance : k_y yX7_setTolerance 1 := ⟨by decide +kernel, by decide +kernel, by decide +kernel⟩
set_option maxRecDepth 20000 in
theorem lm_X7_setTolerance : Cond.instanceMethod yX7_setTolerance ∈ wsA := mA 684 rfl rfl
set_option maxRecDepth 20000 in
theorem le_X7_setTolerance : Cond.selects (yX7_setTolerance).cls yX7_setTolerance yX7_setTolerance ∈ wsA := mA 685 rfl rfl
set_option maxRecDepth 20000 in
theorem Lv_L_39 : k_LV RL 39 yX7_setTolerance cX7_setTolerance 3 (some .int) 1 := ⟨mA 683 rfl rfl, lm_X7_setTolerance, le_X7_setTolerance, li_BarcodeWand, lk_X7_setTolerance, ly_X7_setTolerance⟩
set_option maxRecDepth 20000 in
theorem lk_X7_digit : Cond.code yX7_digit cX7_digit 3 (some .int) ∈ wsA := mA 694 rfl rfl
theorem ly_X7_digit : k_y yX7_digit 1 := ⟨by decide +kernel, by decide +kernel, by decide +kernel⟩
set_option maxRecDepth 20000 in
theorem lm_X7_digit : Cond.instanceMethod yX7_digit ∈ wsA := mA 692 rfl rfl
set_option maxRecDepth 20000 in
theorem le_X7_digit : Cond.selects (yX7_digit).cls yX7_digit yX7_digit ∈ wsA := mA 693 rfl rfl
set_option maxRecDepth 20000 in
theorem Lv_L_42 : k_LV RL 42 yX7_digit cX7_digit 3 (some .int) 1 := ⟨mA 691 rfl rfl, lm_X7_digit, le_X7_digit, li_BarcodeWand, lk_X7_digit, ly_X7_digit⟩
set_option maxRecDepth 20000 in
theorem lk_X7_append : Cond.code yX7_append cX7_append 2 (some .int) ∈ wsA := mA 748 rfl rfl
theorem ly_X7_append : k_y yX7_append 1 := ⟨by decide +kernel, by decide +kernel, by decide +kernel⟩
set_option maxRecDepth 20000 in
theorem lm_X7_append : Cond.instanceMethod yX7_append ∈ wsA := mA 746 rfl rfl
set_option maxRecDepth 20000 in
theorem le_X7_append : Cond.selects (yX7_append).cls yX7_append yX7_append ∈ wsA := mA 747 rfl rfl
set_option maxRecDepth 20000 in
theorem Lv_L_63 : k_LV RL 63 yX7_append cX7_append 2 (some .int) 1 := ⟨mA 745 rfl rfl, lm_X7_append, le_X7_append, li_BarcodeWand, lk_X7_append, ly_X7_append⟩
set_option maxRecDepth 20000 in
theorem lk_X7_run : Cond.code yX7_run cX7_run 5 (some .int) ∈ wsA := mA 757 rfl rfl
theorem ly_X7_run : k_y yX7_run 0 := ⟨by decide +kernel, by decide +kernel, by decide +kernel⟩
set_option maxRecDepth 20000 in
theorem lm_X7_run : Cond.instanceMethod yX7_run ∈ wsA := mA 755 rfl rfl
set_option maxRecDepth 20000 in
theorem le_X7_run : Cond.selects (yX7_run).cls yX7_run yX7_run ∈ wsA := mA 756 rfl rfl
set_option maxRecDepth 20000 in
theorem Lv_L_66 : k_LV RL 66 yX7_run cX7_run 5 (some .int) 0 := ⟨mA 754 rfl rfl, lm_X7_run, le_X7_run, li_BarcodeWand, lk_X7_run, ly_X7_run⟩
set_option maxRecDepth 20000 in
theorem lk_X7_undo : Cond.code yX7_undo cX7_undo 1 (some .int) ∈ wsA := mA 774 rfl rfl
theorem ly_X7_undo : k_y yX7_undo 0 := ⟨by decide +kernel, by decide +kernel, by decide +kernel⟩
set_option maxRecDepth 20000 in
theorem lm_X7_undo : Cond.instanceMethod yX7_undo ∈ wsA := mA 772 rfl rfl
set_option maxRecDepth 20000 in
theorem le_X7_undo : Cond.selects (yX7_undo).cls yX7_undo yX7_undo ∈ wsA := mA 773 rfl rfl
set_option maxRecDepth 20000 in
theorem Lv_L_70 : k_LV RL 70 yX7_undo cX7_undo 1 (some .int) 0 := ⟨mA 771 rfl rfl, lm_X7_undo, le_X7_undo, li_BarcodeWand, lk_X7_undo, ly_X7_undo⟩
theorem dL_print_0 : decode cL_print 0 = .ok (.aload_n 3, 1) := by decide +kernel
theorem dL_print_1 : decode cL_print 1 = .ok (.iconst 0, 1) := by decide +kernel
theorem dL_print_2 : decode cL_print 2 = .ok (.aload_n 0, 1) := by decide +kernel
theorem dL_print_3 : decode cL_print 3 = .ok (.iload_n 1, 1) := by decide +kernel
theorem dL_print_4 : decode cL_print 4 = .ok (.iload_n 2, 1) := by decide +kernel
theorem dL_print_5 : decode cL_print 5 = .ok (.invokevirtual 7, 3) := by decide +kernel
theorem dL_print_8 : decode cL_print 8 = .ok (.i2l, 1) := by decide +kernel
theorem dL_print_9 : decode cL_print 9 = .ok (.lastore, 1) := by decide +kernel
theorem dL_print_10 : decode cL_print 10 = .ok (.goto 7, 3) := by decide +kernel
theorem dL_print_13 : decode cL_print 13 = .ok (.astore 4, 2) := by decide +kernel
theorem dL_print_15 : decode cL_print 15 = .ok (.iconst 1, 1) := by decide +kernel
theorem dL_print_16 : decode cL_print 16 = .ok (.ireturn, 1) := by decide +kernel
theorem dL_print_17 : decode cL_print 17 = .ok (.iconst 0, 1) := by decide +kernel
theorem dL_print_18 : decode cL_print 18 = .ok (.ireturn, 1) := by decide +kernel
theorem dL_smudge_0 : decode cL_smudge 0 = .ok (.aload_n 3, 1) := by decide +kernel
theorem dL_smudge_1 : decode cL_smudge 1 = .ok (.iconst 0, 1) := by decide +kernel
theorem dL_smudge_2 : decode cL_smudge 2 = .ok (.aload_n 0, 1) := by decide +kernel
theorem dL_smudge_3 : decode cL_smudge 3 = .ok (.iload_n 1, 1) := by decide +kernel
theorem dL_smudge_4 : decode cL_smudge 4 = .ok (.iload_n 2, 1) := by decide +kernel
theorem dL_smudge_5 : decode cL_smudge 5 = .ok (.invokevirtual 15, 3) := by decide +kernel
theorem dL_smudge_8 : decode cL_smudge 8 = .ok (.i2l, 1) := by decide +kernel
theorem dL_smudge_9 : decode cL_smudge 9 = .ok (.lastore, 1) := by decide +kernel
theorem dL_smudge_10 : decode cL_smudge 10 = .ok (.goto 11, 3) := by decide +kernel
theorem dL_smudge_13 : decode cL_smudge 13 = .ok (.astore 4, 2) := by decide +kernel
theorem dL_smudge_15 : decode cL_smudge 15 = .ok (.iconst 1, 1) := by decide +kernel
theorem dL_smudge_16 : decode cL_smudge 16 = .ok (.ireturn, 1) := by decide +kernel
theorem dL_smudge_17 : decode cL_smudge 17 = .ok (.astore 4, 2) := by decide +kernel
theorem dL_smudge_19 : decode cL_smudge 19 = .ok (.iconst 2, 1) := by decide +kernel
theorem dL_smudge_20 : decode cL_smudge 20 = .ok (.ireturn, 1) := by decide +kernel
theorem dL_smudge_21 : decode cL_smudge 21 = .ok (.iconst 0, 1) := by decide +kernel
theorem dL_smudge_22 : decode cL_smudge 22 = .ok (.ireturn, 1) := by decide +kernel
theorem dL_width_0 : decode cL_width 0 = .ok (.aload_n 2, 1) := by decide +kernel
theorem dL_width_1 : decode cL_width 1 = .ok (.iconst 0, 1) := by decide +kernel
theorem dL_width_2 : decode cL_width 2 = .ok (.aload_n 0, 1) := by decide +kernel
theorem dL_width_3 : decode cL_width 3 = .ok (.iload_n 1, 1) := by decide +kernel
theorem dL_width_4 : decode cL_width 4 = .ok (.invokevirtual 20, 3) := by decide +kernel
theorem dL_width_7 : decode cL_width 7 = .ok (.i2l, 1) := by decide +kernel
theorem dL_width_8 : decode cL_width 8 = .ok (.lastore, 1) := by decide +kernel
theorem dL_width_9 : decode cL_width 9 = .ok (.goto 6, 3) := by decide +kernel
theorem dL_width_12 : decode cL_width 12 = .ok (.astore_n 3, 1) := by decide +kernel
theorem dL_width_13 : decode cL_width 13 = .ok (.iconst 1, 1) := by decide +kernel
theorem dL_width_14 : decode cL_width 14 = .ok (.ireturn, 1) := by decide +kernel
theorem dL_width_15 : decode cL_width 15 = .ok (.iconst 0, 1) := by decide +kernel
theorem dL_width_16 : decode cL_width 16 = .ok (.ireturn, 1) := by decide +kernel
theorem dL_labelDigit_0 : decode cL_labelDigit 0 = .ok (.aload_n 2, 1) := by decide +kernel
theorem dL_labelDigit_1 : decode cL_labelDigit 1 = .ok (.iconst 0, 1) := by decide +kernel
theorem dL_labelDigit_2 : decode cL_labelDigit 2 = .ok (.aload_n 0, 1) := by decide +kernel
theorem dL_labelDigit_3 : decode cL_labelDigit 3 = .ok (.iload_n 1, 1) := by decide +kernel
theorem dL_labelDigit_4 : decode cL_labelDigit 4 = .ok (.invokevirtual 24, 3) := by decide +kernel
theorem dL_labelDigit_7 : decode cL_labelDigit 7 = .ok (.i2l, 1) := by decide +kernel
theorem dL_labelDigit_8 : decode cL_labelDigit 8 = .ok (.lastore, 1) := by decide +kernel
theorem dL_labelDigit_9 : decode cL_labelDigit 9 = .ok (.goto 6, 3) := by decide +kernel
theorem dL_labelDigit_12 : decode cL_labelDigit 12 = .ok (.astore_n 3, 1) := by decide +kernel
theorem dL_labelDigit_13 : decode cL_labelDigit 13 = .ok (.iconst 1, 1) := by decide +kernel
theorem dL_labelDigit_14 : decode cL_labelDigit 14 = .ok (.ireturn, 1) := by decide +kernel
theorem dL_labelDigit_15 : decode cL_labelDigit 15 = .ok (.iconst 0, 1) := by decide +kernel
theorem dL_labelDigit_16 : decode cL_labelDigit 16 = .ok (.ireturn, 1) := by decide +kernel
theorem dL_time_0 : decode cL_time 0 = .ok (.aload_n 2, 1) := by decide +kernel
theorem dL_time_1 : decode cL_time 1 = .ok (.iconst 0, 1) := by decide +kernel
theorem dL_time_2 : decode cL_time 2 = .ok (.aload_n 0, 1) := by decide +kernel
theorem dL_time_3 : decode cL_time 3 = .ok (.iload_n 1, 1) := by decide +kernel
theorem dL_time_4 : decode cL_time 4 = .ok (.invokevirtual 36, 3) := by decide +kernel
theorem dL_time_7 : decode cL_time 7 = .ok (.i2l, 1) := by decide +kernel
theorem dL_time_8 : decode cL_time 8 = .ok (.lastore, 1) := by decide +kernel
theorem dL_time_9 : decode cL_time 9 = .ok (.goto 6, 3) := by decide +kernel
theorem dL_time_12 : decode cL_time 12 = .ok (.astore_n 3, 1) := by decide +kernel
theorem dL_time_13 : decode cL_time 13 = .ok (.iconst 1, 1) := by decide +kernel
theorem dL_time_14 : decode cL_time 14 = .ok (.ireturn, 1) := by decide +kernel
theorem dL_time_15 : decode cL_time 15 = .ok (.iconst 0, 1) := by decide +kernel
theorem dL_time_16 : decode cL_time 16 = .ok (.ireturn, 1) := by decide +kernel
theorem dL_nearest_0 : decode cL_nearest 0 = .ok (.aload_n 2, 1) := by decide +kernel
theorem dL_nearest_1 : decode cL_nearest 1 = .ok (.iconst 0, 1) := by decide +kernel
theorem dL_nearest_2 : decode cL_nearest 2 = .ok (.aload_n 0, 1) := by decide +kernel
theorem dL_nearest_3 : decode cL_nearest 3 = .ok (.iload_n 1, 1) := by decide +kernel
theorem dL_nearest_4 : decode cL_nearest 4 = .ok (.invokevirtual 45, 3) := by decide +kernel
theorem dL_nearest_7 : decode cL_nearest 7 = .ok (.i2l, 1) := by decide +kernel
theorem dL_nearest_8 : decode cL_nearest 8 = .ok (.lastore, 1) := by decide +kernel
theorem dL_nearest_9 : decode cL_nearest 9 = .ok (.goto 6, 3) := by decide +kernel
theorem dL_nearest_12 : decode cL_nearest 12 = .ok (.astore_n 3, 1) := by decide +kernel
theorem dL_nearest_13 : decode cL_nearest 13 = .ok (.iconst 1, 1) := by decide +kernel
theorem dL_nearest_14 : decode cL_nearest 14 = .ok (.ireturn, 1) := by decide +kernel
theorem dL_nearest_15 : decode cL_nearest 15 = .ok (.iconst 0, 1) := by decide +kernel
theorem dL_nearest_16 : decode cL_nearest 16 = .ok (.ireturn, 1) := by decide +kernel
theorem dL_code_0 : decode cL_code 0 = .ok (.aload_n 2, 1) := by decide +kernel
theorem dL_code_1 : decode cL_code 1 = .ok (.iconst 0, 1) := by decide +kernel
theorem dL_code_2 : decode cL_code 2 = .ok (.aload_n 0, 1) := by decide +kernel
theorem dL_code_3 : decode cL_code 3 = .ok (.iload_n 1, 1) := by decide +kernel
theorem dL_code_4 : decode cL_code 4 = .ok (.invokevirtual 48, 3) := by decide +kernel
theorem dL_code_7 : decode cL_code 7 = .ok (.i2l, 1) := by decide +kernel
theorem dL_code_8 : decode cL_code 8 = .ok (.lastore, 1) := by decide +kernel
theorem dL_code_9 : decode cL_code 9 = .ok (.goto 6, 3) := by decide +kernel
theorem dL_code_12 : decode cL_code 12 = .ok (.astore_n 3, 1) := by decide +kernel
theorem dL_code_13 : decode cL_code 13 = .ok (.iconst 1, 1) := by decide +kernel
theorem dL_code_14 : decode cL_code 14 = .ok (.ireturn, 1) := by decide +kernel
theorem dL_code_15 : decode cL_code 15 = .ok (.iconst 0, 1) := by decide +kernel
theorem dL_code_16 : decode cL_code 16 = .ok (.ireturn, 1) := by decide +kernel
theorem dL_codeLength_0 : decode cL_codeLength 0 = .ok (.aload_n 2, 1) := by decide +kernel
theorem dL_codeLength_1 : decode cL_codeLength 1 = .ok (.iconst 0, 1) := by decide +kernel
theorem dL_codeLength_2 : decode cL_codeLength 2 = .ok (.aload_n 0, 1) := by decide +kernel
theorem dL_codeLength_3 : decode cL_codeLength 3 = .ok (.iload_n 1, 1) := by decide +kernel
theorem dL_codeLength_4 : decode cL_codeLength 4 = .ok (.invokevirtual 51, 3) := by decide +kernel
theorem dL_codeLength_7 : decode cL_codeLength 7 = .ok (.i2l, 1) := by decide +kernel
theorem dL_codeLength_8 : decode cL_codeLength 8 = .ok (.lastore, 1) := by decide +kernel
theorem dL_codeLength_9 : decode cL_codeLength 9 = .ok (.goto 6, 3) := by decide +kernel
theorem dL_codeLength_12 : decode cL_codeLength 12 = .ok (.astore_n 3, 1) := by decide +kernel
theorem dL_codeLength_13 : decode cL_codeLength 13 = .ok (.iconst 1, 1) := by decide +kernel
theorem dL_codeLength_14 : decode cL_codeLength 14 = .ok (.ireturn, 1) := by decide +kernel
theorem dL_codeLength_15 : decode cL_codeLength 15 = .ok (.iconst 0, 1) := by decide +kernel
theorem dL_codeLength_16 : decode cL_codeLength 16 = .ok (.ireturn, 1) := by decide +kernel
theorem dL_count_0 : decode cL_count 0 = .ok (.aload_n 2, 1) := by decide +kernel
theorem dL_count_1 : decode cL_count 1 = .ok (.iconst 0, 1) := by decide +kernel
theorem dL_count_2 : decode cL_count 2 = .ok (.aload_n 0, 1) := by decide +kernel
theorem dL_count_3 : decode cL_count 3 = .ok (.iload_n 1, 1) := by decide +kernel
theorem dL_count_4 : decode cL_count 4 = .ok (.invokevirtual 54, 3) := by decide +kernel
theorem dL_count_7 : decode cL_count 7 = .ok (.i2l, 1) := by decide +kernel
theorem dL_count_8 : decode cL_count 8 = .ok (.lastore, 1) := by decide +kernel
theorem dL_count_9 : decode cL_count 9 = .ok (.goto 6, 3) := by decide +kernel
theorem dL_count_12 : decode cL_count 12 = .ok (.astore_n 3, 1) := by decide +kernel
theorem dL_count_13 : decode cL_count 13 = .ok (.iconst 1, 1) := by decide +kernel
theorem dL_count_14 : decode cL_count 14 = .ok (.ireturn, 1) := by decide +kernel
theorem dL_count_15 : decode cL_count 15 = .ok (.iconst 0, 1) := by decide +kernel
theorem dL_count_16 : decode cL_count 16 = .ok (.ireturn, 1) := by decide +kernel
theorem dL_greatestSmudge_0 : decode cL_greatestSmudge 0 = .ok (.aload_n 2, 1) := by decide +kernel
theorem dL_greatestSmudge_1 : decode cL_greatestSmudge 1 = .ok (.iconst 0, 1) := by decide +kernel
theorem dL_greatestSmudge_2 : decode cL_greatestSmudge 2 = .ok (.aload_n 0, 1) := by decide +kernel
theorem dL_greatestSmudge_3 : decode cL_greatestSmudge 3 = .ok (.iload_n 1, 1) := by decide +kernel
theorem dL_greatestSmudge_4 : decode cL_greatestSmudge 4 = .ok (.invokevirtual 60, 3) := by decide +kernel
theorem dL_greatestSmudge_7 : decode cL_greatestSmudge 7 = .ok (.i2l, 1) := by decide +kernel
theorem dL_greatestSmudge_8 : decode cL_greatestSmudge 8 = .ok (.lastore, 1) := by decide +kernel
theorem dL_greatestSmudge_9 : decode cL_greatestSmudge 9 = .ok (.goto 6, 3) := by decide +kernel
theorem dL_greatestSmudge_12 : decode cL_greatestSmudge 12 = .ok (.astore_n 3, 1) := by decide +kernel
theorem dL_greatestSmudge_13 : decode cL_greatestSmudge 13 = .ok (.iconst 1, 1) := by decide +kernel
theorem dL_greatestSmudge_14 : decode cL_greatestSmudge 14 = .ok (.ireturn, 1) := by decide +kernel
theorem dL_greatestSmudge_15 : decode cL_greatestSmudge 15 = .ok (.iconst 0, 1) := by decide +kernel
theorem dL_greatestSmudge_16 : decode cL_greatestSmudge 16 = .ok (.ireturn, 1) := by decide +kernel
theorem dL_draw_0 : decode cL_draw 0 = .ok (.aload 4, 2) := by decide +kernel
theorem dL_draw_2 : decode cL_draw 2 = .ok (.iconst 0, 1) := by decide +kernel
theorem dL_draw_3 : decode cL_draw 3 = .ok (.aload_n 0, 1) := by decide +kernel
theorem dL_draw_4 : decode cL_draw 4 = .ok (.iload_n 1, 1) := by decide +kernel
theorem dL_draw_5 : decode cL_draw 5 = .ok (.iload_n 2, 1) := by decide +kernel
theorem dL_draw_6 : decode cL_draw 6 = .ok (.iload_n 3, 1) := by decide +kernel
theorem dL_draw_7 : decode cL_draw 7 = .ok (.invokevirtual 27, 3) := by decide +kernel
theorem dL_draw_10 : decode cL_draw 10 = .ok (.i2l, 1) := by decide +kernel
theorem dL_draw_11 : decode cL_draw 11 = .ok (.lastore, 1) := by decide +kernel
theorem dL_draw_12 : decode cL_draw 12 = .ok (.goto 11, 3) := by decide +kernel
theorem dL_draw_15 : decode cL_draw 15 = .ok (.astore 5, 2) := by decide +kernel
theorem dL_draw_17 : decode cL_draw 17 = .ok (.iconst 1, 1) := by decide +kernel
theorem dL_draw_18 : decode cL_draw 18 = .ok (.ireturn, 1) := by decide +kernel
theorem dL_draw_19 : decode cL_draw 19 = .ok (.astore 5, 2) := by decide +kernel
theorem dL_draw_21 : decode cL_draw 21 = .ok (.iconst 2, 1) := by decide +kernel
theorem dL_draw_22 : decode cL_draw 22 = .ok (.ireturn, 1) := by decide +kernel
theorem dL_draw_23 : decode cL_draw 23 = .ok (.iconst 0, 1) := by decide +kernel
theorem dL_draw_24 : decode cL_draw 24 = .ok (.ireturn, 1) := by decide +kernel
theorem dL_ifDrawn_0 : decode cL_ifDrawn 0 = .ok (.aload 4, 2) := by decide +kernel
theorem dL_ifDrawn_2 : decode cL_ifDrawn 2 = .ok (.iconst 0, 1) := by decide +kernel
theorem dL_ifDrawn_3 : decode cL_ifDrawn 3 = .ok (.aload_n 0, 1) := by decide +kernel
theorem dL_ifDrawn_4 : decode cL_ifDrawn 4 = .ok (.iload_n 1, 1) := by decide +kernel
theorem dL_ifDrawn_5 : decode cL_ifDrawn 5 = .ok (.iload_n 2, 1) := by decide +kernel
theorem dL_ifDrawn_6 : decode cL_ifDrawn 6 = .ok (.iload_n 3, 1) := by decide +kernel
theorem dL_ifDrawn_7 : decode cL_ifDrawn 7 = .ok (.invokevirtual 57, 3) := by decide +kernel
theorem dL_ifDrawn_10 : decode cL_ifDrawn 10 = .ok (.i2l, 1) := by decide +kernel
theorem dL_ifDrawn_11 : decode cL_ifDrawn 11 = .ok (.lastore, 1) := by decide +kernel
theorem dL_ifDrawn_12 : decode cL_ifDrawn 12 = .ok (.goto 11, 3) := by decide +kernel
theorem dL_ifDrawn_15 : decode cL_ifDrawn 15 = .ok (.astore 5, 2) := by decide +kernel
theorem dL_ifDrawn_17 : decode cL_ifDrawn 17 = .ok (.iconst 1, 1) := by decide +kernel
theorem dL_ifDrawn_18 : decode cL_ifDrawn 18 = .ok (.ireturn, 1) := by decide +kernel
theorem dL_ifDrawn_19 : decode cL_ifDrawn 19 = .ok (.astore 5, 2) := by decide +kernel
theorem dL_ifDrawn_21 : decode cL_ifDrawn 21 = .ok (.iconst 2, 1) := by decide +kernel
theorem dL_ifDrawn_22 : decode cL_ifDrawn 22 = .ok (.ireturn, 1) := by decide +kernel
theorem dL_ifDrawn_23 : decode cL_ifDrawn 23 = .ok (.iconst 0, 1) := by decide +kernel
theorem dL_ifDrawn_24 : decode cL_ifDrawn 24 = .ok (.ireturn, 1) := by decide +kernel
theorem dL_measure_0 : decode cL_measure 0 = .ok (.aload_n 2, 1) := by decide +kernel
theorem dL_measure_1 : decode cL_measure 1 = .ok (.iconst 0, 1) := by decide +kernel
theorem dL_measure_2 : decode cL_measure 2 = .ok (.aload_n 0, 1) := by decide +kernel
theorem dL_measure_3 : decode cL_measure 3 = .ok (.iload_n 1, 1) := by decide +kernel
theorem dL_measure_4 : decode cL_measure 4 = .ok (.invokevirtual 33, 3) := by decide +kernel
theorem dL_measure_7 : decode cL_measure 7 = .ok (.i2l, 1) := by decide +kernel
theorem dL_measure_8 : decode cL_measure 8 = .ok (.lastore, 1) := by decide +kernel
theorem dL_measure_9 : decode cL_measure 9 = .ok (.goto 9, 3) := by decide +kernel
theorem dL_measure_12 : decode cL_measure 12 = .ok (.astore_n 3, 1) := by decide +kernel
theorem dL_measure_13 : decode cL_measure 13 = .ok (.iconst 1, 1) := by decide +kernel
theorem dL_measure_14 : decode cL_measure 14 = .ok (.ireturn, 1) := by decide +kernel
theorem dL_measure_15 : decode cL_measure 15 = .ok (.astore_n 3, 1) := by decide +kernel
theorem dL_measure_16 : decode cL_measure 16 = .ok (.iconst 2, 1) := by decide +kernel
theorem dL_measure_17 : decode cL_measure 17 = .ok (.ireturn, 1) := by decide +kernel
theorem dL_measure_18 : decode cL_measure 18 = .ok (.iconst 0, 1) := by decide +kernel
theorem dL_measure_19 : decode cL_measure 19 = .ok (.ireturn, 1) := by decide +kernel
theorem dL_setTolerance_0 : decode cL_setTolerance 0 = .ok (.aload_n 2, 1) := by decide +kernel
theorem dL_setTolerance_1 : decode cL_setTolerance 1 = .ok (.iconst 0, 1) := by decide +kernel
theorem dL_setTolerance_2 : decode cL_setTolerance 2 = .ok (.aload_n 0, 1) := by decide +kernel
theorem dL_setTolerance_3 : decode cL_setTolerance 3 = .ok (.iload_n 1, 1) := by decide +kernel
theorem dL_setTolerance_4 : decode cL_setTolerance 4 = .ok (.invokevirtual 39, 3) := by decide +kernel
theorem dL_setTolerance_7 : decode cL_setTolerance 7 = .ok (.i2l, 1) := by decide +kernel
theorem dL_setTolerance_8 : decode cL_setTolerance 8 = .ok (.lastore, 1) := by decide +kernel
theorem dL_setTolerance_9 : decode cL_setTolerance 9 = .ok (.goto 6, 3) := by decide +kernel
theorem dL_setTolerance_12 : decode cL_setTolerance 12 = .ok (.astore_n 3, 1) := by decide +kernel
theorem dL_setTolerance_13 : decode cL_setTolerance 13 = .ok (.iconst 1, 1) := by decide +kernel
theorem dL_setTolerance_14 : decode cL_setTolerance 14 = .ok (.ireturn, 1) := by decide +kernel
theorem dL_setTolerance_15 : decode cL_setTolerance 15 = .ok (.iconst 0, 1) := by decide +kernel
theorem dL_setTolerance_16 : decode cL_setTolerance 16 = .ok (.ireturn, 1) := by decide +kernel
theorem dL_digit_0 : decode cL_digit 0 = .ok (.aload_n 2, 1) := by decide +kernel
theorem dL_digit_1 : decode cL_digit 1 = .ok (.iconst 0, 1) := by decide +kernel
theorem dL_digit_2 : decode cL_digit 2 = .ok (.aload_n 0, 1) := by decide +kernel
theorem dL_digit_3 : decode cL_digit 3 = .ok (.iload_n 1, 1) := by decide +kernel
theorem dL_digit_4 : decode cL_digit 4 = .ok (.invokevirtual 42, 3) := by decide +kernel
theorem dL_digit_7 : decode cL_digit 7 = .ok (.i2l, 1) := by decide +kernel
theorem dL_digit_8 : decode cL_digit 8 = .ok (.lastore, 1) := by decide +kernel
theorem dL_digit_9 : decode cL_digit 9 = .ok (.goto 6, 3) := by decide +kernel
theorem dL_digit_12 : decode cL_digit 12 = .ok (.astore_n 3, 1) := by decide +kernel
theorem dL_digit_13 : decode cL_digit 13 = .ok (.iconst 1, 1) := by decide +kernel
theorem dL_digit_14 : decode cL_digit 14 = .ok (.ireturn, 1) := by decide +kernel
theorem dL_digit_15 : decode cL_digit 15 = .ok (.iconst 0, 1) := by decide +kernel
theorem dL_digit_16 : decode cL_digit 16 = .ok (.ireturn, 1) := by decide +kernel
theorem dL_append_0 : decode cL_append 0 = .ok (.aload_n 2, 1) := by decide +kernel
theorem dL_append_1 : decode cL_append 1 = .ok (.iconst 0, 1) := by decide +kernel
theorem dL_append_2 : decode cL_append 2 = .ok (.aload_n 0, 1) := by decide +kernel
theorem dL_append_3 : decode cL_append 3 = .ok (.iload_n 1, 1) := by decide +kernel
theorem dL_append_4 : decode cL_append 4 = .ok (.invokevirtual 63, 3) := by decide +kernel
theorem dL_append_7 : decode cL_append 7 = .ok (.i2l, 1) := by decide +kernel
theorem dL_append_8 : decode cL_append 8 = .ok (.lastore, 1) := by decide +kernel
theorem dL_append_9 : decode cL_append 9 = .ok (.goto 9, 3) := by decide +kernel
theorem dL_append_12 : decode cL_append 12 = .ok (.astore_n 3, 1) := by decide +kernel
theorem dL_append_13 : decode cL_append 13 = .ok (.iconst 1, 1) := by decide +kernel
theorem dL_append_14 : decode cL_append 14 = .ok (.ireturn, 1) := by decide +kernel
theorem dL_append_15 : decode cL_append 15 = .ok (.astore_n 3, 1) := by decide +kernel
theorem dL_append_16 : decode cL_append 16 = .ok (.iconst 2, 1) := by decide +kernel
theorem dL_append_17 : decode cL_append 17 = .ok (.ireturn, 1) := by decide +kernel
theorem dL_append_18 : decode cL_append 18 = .ok (.iconst 0, 1) := by decide +kernel
theorem dL_append_19 : decode cL_append 19 = .ok (.ireturn, 1) := by decide +kernel
theorem dL_run_0 : decode cL_run 0 = .ok (.aload_n 1, 1) := by decide +kernel
theorem dL_run_1 : decode cL_run 1 = .ok (.iconst 0, 1) := by decide +kernel
theorem dL_run_2 : decode cL_run 2 = .ok (.aload_n 0, 1) := by decide +kernel
theorem dL_run_3 : decode cL_run 3 = .ok (.invokevirtual 66, 3) := by decide +kernel
theorem dL_run_6 : decode cL_run 6 = .ok (.i2l, 1) := by decide +kernel
theorem dL_run_7 : decode cL_run 7 = .ok (.lastore, 1) := by decide +kernel
theorem dL_run_8 : decode cL_run 8 = .ok (.goto 6, 3) := by decide +kernel
theorem dL_run_11 : decode cL_run 11 = .ok (.astore_n 2, 1) := by decide +kernel
theorem dL_run_12 : decode cL_run 12 = .ok (.iconst 1, 1) := by decide +kernel
theorem dL_run_13 : decode cL_run 13 = .ok (.ireturn, 1) := by decide +kernel
theorem dL_run_14 : decode cL_run 14 = .ok (.iconst 0, 1) := by decide +kernel
theorem dL_run_15 : decode cL_run 15 = .ok (.ireturn, 1) := by decide +kernel
theorem dL_undo_0 : decode cL_undo 0 = .ok (.aload_n 1, 1) := by decide +kernel
theorem dL_undo_1 : decode cL_undo 1 = .ok (.iconst 0, 1) := by decide +kernel
theorem dL_undo_2 : decode cL_undo 2 = .ok (.aload_n 0, 1) := by decide +kernel
theorem dL_undo_3 : decode cL_undo 3 = .ok (.invokevirtual 70, 3) := by decide +kernel
theorem dL_undo_6 : decode cL_undo 6 = .ok (.i2l, 1) := by decide +kernel
theorem dL_undo_7 : decode cL_undo 7 = .ok (.lastore, 1) := by decide +kernel
theorem dL_undo_8 : decode cL_undo 8 = .ok (.goto 6, 3) := by decide +kernel
theorem dL_undo_11 : decode cL_undo 11 = .ok (.astore_n 2, 1) := by decide +kernel
theorem dL_undo_12 : decode cL_undo 12 = .ok (.iconst 1, 1) := by decide +kernel
theorem dL_undo_13 : decode cL_undo 13 = .ok (.ireturn, 1) := by decide +kernel
theorem dL_undo_14 : decode cL_undo 14 = .ok (.iconst 0, 1) := by decide +kernel
theorem dL_undo_15 : decode cL_undo 15 = .ok (.ireturn, 1) := by decide +kernel
set_option maxHeartbeats 4000000 in
set_option maxRecDepth 100000 in
theorem c_L_print (l : Launch) (hst : l.stackTraces = false) (D : va_G) (w : Nat) (st : Nat) (hi : Nat) (re : Nat) (fo : Nat) (bu : Nat) (pa : Nat) (ri : Nat) (KS : ClassId) (rf : Nat → Option Nat) (zst : Nat) (zla : Nat) (zme : Nat) (zli : Nat) (ztol : Int32) (zsu : Int32) (zfa : Int32) (zld : Nat) (zlz : Nat) (zldA : Nat) (zldN : Int32) (zlzA : Nat) (zlzN : Int32) (zmeA : Nat) (zmeN : Int32) (zln : Nat) (zll : Nat) (zlc : Nat) (zlnA : Nat) (zlnN : Int32) (zllA : Nat) (zllN : Int32) (zlcA : Nat) (zlcN : Int32) (la : Nat) (me : Nat) (li : Nat) (tol : Int32) (su : Int32) (fa : Int32) (ld : Nat) (lz : Nat) (ldA : Nat) (lzA : Nat) (meA : Nat) (ln : Nat) (ll : Nat) (lc : Nat) (lnA : Nat) (llA : Nat) (lcA : Nat) (K : ClassId) (ldf : Nat → Int32) (lzf : Nat → Int32) (d : Int32) (z : Int32) (out : Nat) (KL : ClassId) (ofn : Nat → Int64) (hrf : rf 0 = some zst) (sz : Nat) : k_Wi (S := Nat → Int64) l D yL_print cL_print 5 (some .int) [(0, 10, 13, 13)] 7 1 6 148 [.ref w, .int d, .int z, .ref out] [(w, .inr (7, [.ref st, .ref hi, .ref re, .ref fo, .ref bu, .ref pa])), (hi, .inr (5, [.ref ri, .int 0, .int 0])), (ri, .inl (KS, 6, .inr (.inr (.inr (.inr rf))))), (zst, .inr (6, [.ref zla, .ref zme, .ref zli, .int ztol, .int zsu, .int zfa])), (zla, .inr (2, [.ref zld, .ref zlz])), (zld, .inr (4, [.ref zldA, .int zldN])), (zlz, .inr (4, [.ref zlzA, .int zlzN])), (zme, .inr (4, [.ref zmeA, .int zmeN])), (zli, .inr (0, [.ref zln, .ref zll, .ref zlc])), (zln, .inr (4, [.ref zlnA, .int zlnN])), (zll, .inr (4, [.ref zllA, .int zllN])), (zlc, .inr (4, [.ref zlcA, .int zlcN])), (st, .inr (6, [.ref la, .ref me, .ref li, .int tol, .int su, .int fa])), (la, .inr (2, [.ref ld, .ref lz])), (ld, .inr (4, [.ref ldA, .int 0])), (lz, .inr (4, [.ref lzA, .int 0])), (me, .inr (4, [.ref meA, .int 0])), (li, .inr (0, [.ref ln, .ref ll, .ref lc])), (ln, .inr (4, [.ref lnA, .int 0])), (ll, .inr (4, [.ref llA, .int 0])), (lc, .inr (4, [.ref lcA, .int 0])), (ldA, .inl (K, 9, .inl ldf)), (lzA, .inl (K, 41, .inl lzf)), (out, .inl (KL, 1, .inr (.inl ofn)))] [(K, .int), (KS, .object "BarcodeWand$State"), (KL, .long)] (fun (r : Int32) (og : Nat → Int64) => (pOk d z ∧ r = 0 ∧ og 0 = (chkd (cS d z.toNatClampNeg)).toInt64) ∨ (¬ pOk d z ∧ r = 1)) (fun og => [(out, .inl (KL, 1, .inr (.inl og)))]) (fun og => []) sz := by
  refine va_MetW (cc := cL_print) (maxL := 5) (ret := (some .int)) (hh := [(0, 10, 13, 13)]) (by decide) rfl ?_
  intro p e s m args below meth c s₁ B hml hv
  obtain ⟨rfl, hsz, hP, hK, hD0, hG⟩ := hv
  have hx := B.exec
  have hb := B.bytes
  have hr := B.returns
  have ht : ∀ v9 ∈ wsA, v9.before ([.ref w, .int d, .int z, .ref out] : List Value).toArray s = true := fun v9 h9 => atoms_spec (ws := Cond.codeWith yL_print cL_print 5 (some .int) [(0, 10, 13, 13)] :: wsA) B.pre v9 (List.mem_cons_of_mem _ h9)
  have htab : c.exceptionTable.toList = tableOf [(0, 10, 13, 13)] := vx_table (x := yL_print) B (atoms_spec (ws := Cond.codeWith yL_print cL_print 5 (some .int) [(0, 10, 13, 13)] :: wsA) B.pre _ List.mem_cons_self)
  have hown : s.vm.findClass RL = some m.cls := findClass_of_methodNamed B.named
  have S0 : k_C p s m ([.ref w, .int d, .int z, .ref out] : List Value).toArray c cL_print 5 RL := ⟨hx, hb, hml, hown, ht⟩
  have hlocks := B.notSynchronized
  subst hsz
  have hD := hD0.self (sz := s.heap.size)
  generalize hAe : va_A [(w, .inr (7, [.ref st, .ref hi, .ref re, .ref fo, .ref bu, .ref pa])), (hi, .inr (5, [.ref ri, .int 0, .int 0])), (ri, .inl (KS, 6, .inr (.inr (.inr (.inr rf))))), (zst, .inr (6, [.ref zla, .ref zme, .ref zli, .int ztol, .int zsu, .int zfa])), (zla, .inr (2, [.ref zld, .ref zlz])), (zld, .inr (4, [.ref zldA, .int zldN])), (zlz, .inr (4, [.ref zlzA, .int zlzN])), (zme, .inr (4, [.ref zmeA, .int zmeN])), (zli, .inr (0, [.ref zln, .ref zll, .ref zlc])), (zln, .inr (4, [.ref zlnA, .int zlnN])), (zll, .inr (4, [.ref zllA, .int zllN])), (zlc, .inr (4, [.ref zlcA, .int zlcN])), (st, .inr (6, [.ref la, .ref me, .ref li, .int tol, .int su, .int fa])), (la, .inr (2, [.ref ld, .ref lz])), (ld, .inr (4, [.ref ldA, .int 0])), (lz, .inr (4, [.ref lzA, .int 0])), (me, .inr (4, [.ref meA, .int 0])), (li, .inr (0, [.ref ln, .ref ll, .ref lc])), (ln, .inr (4, [.ref lnA, .int 0])), (ll, .inr (4, [.ref llA, .int 0])), (lc, .inr (4, [.ref lcA, .int 0])), (ldA, .inl (K, 9, .inl ldf)), (lzA, .inl (K, 41, .inl lzf)), (out, .inl (KL, 1, .inr (.inl ofn)))] s.heap.size = A at hD hG ⊢
  have hA : ∀ q : Nat, s.heap.size ≤ q → A q := fun q h => by rw [← hAe]; exact Or.inr h
  have hS : va_S A s.heap s.heap [] := va_S.rf
  have hl := lv_entry ([.ref w, .int d, .int z, .ref out]) (n := 5) (Nat.le_of_ble_eq_true rfl)
  rw [lg_entry_eq]
  generalize (lg_sl ([.ref w, .int d, .int z, .ref out]) ++ List.replicate (5 - (lg_sl ([.ref w, .int d, .int z, .ref out])).length) Slot.unset).toArray = ls at hl ⊢
  have hl : lv_has ls 5 [(0, .ref w), (1, .int d), (2, .int z), (3, .ref out)] := hl
  have hP : va_P D vwCl [(w, .inr (7, [.ref st, .ref hi, .ref re, .ref fo, .ref bu, .ref pa])), (hi, .inr (5, [.ref ri, .int 0, .int 0])), (ri, .inl (KS, 6, .inr (.inr (.inr (.inr rf))))), (zst, .inr (6, [.ref zla, .ref zme, .ref zli, .int ztol, .int zsu, .int zfa])), (zla, .inr (2, [.ref zld, .ref zlz])), (zld, .inr (4, [.ref zldA, .int zldN])), (zlz, .inr (4, [.ref zlzA, .int zlzN])), (zme, .inr (4, [.ref zmeA, .int zmeN])), (zli, .inr (0, [.ref zln, .ref zll, .ref zlc])), (zln, .inr (4, [.ref zlnA, .int zlnN])), (zll, .inr (4, [.ref zllA, .int zllN])), (zlc, .inr (4, [.ref zlcA, .int zlcN])), (st, .inr (6, [.ref la, .ref me, .ref li, .int tol, .int su, .int fa])), (la, .inr (2, [.ref ld, .ref lz])), (ld, .inr (4, [.ref ldA, .int 0])), (lz, .inr (4, [.ref lzA, .int 0])), (me, .inr (4, [.ref meA, .int 0])), (li, .inr (0, [.ref ln, .ref ll, .ref lc])), (ln, .inr (4, [.ref lnA, .int 0])), (ll, .inr (4, [.ref llA, .int 0])), (lc, .inr (4, [.ref lcA, .int 0])), (ldA, .inl (K, 9, .inl ldf)), (lzA, .inl (K, 41, .inl lzf)), (out, .inl (KL, 1, .inr (.inl ofn)))] s.heap := hP
  refine lv_aload_n hx hb dL_print_0 rfl (lv_at hl 3 rfl) ?_
  refine lv_iconst (v := 0) hx hb dL_print_1 (by decide) ?_
  refine lv_aload_n hx hb dL_print_2 rfl (lv_at hl 0 rfl) ?_
  refine lv_iload_n hx hb dL_print_3 rfl (lv_at hl 1 rfl) ?_
  refine lv_iload_n hx hb dL_print_4 rfl (lv_at hl 2 rfl) ?_
  have ct := k_cut_of (wc := [(w, .inr (7, [.ref st, .ref hi, .ref re, .ref fo, .ref bu, .ref pa])), (hi, .inr (5, [.ref ri, .int 0, .int 0])), (ri, .inl (KS, 6, .inr (.inr (.inr (.inr rf))))), (zst, .inr (6, [.ref zla, .ref zme, .ref zli, .int ztol, .int zsu, .int zfa])), (zla, .inr (2, [.ref zld, .ref zlz])), (zld, .inr (4, [.ref zldA, .int zldN])), (zlz, .inr (4, [.ref zlzA, .int zlzN])), (zme, .inr (4, [.ref zmeA, .int zmeN])), (zli, .inr (0, [.ref zln, .ref zll, .ref zlc])), (zln, .inr (4, [.ref zlnA, .int zlnN])), (zll, .inr (4, [.ref zllA, .int zllN])), (zlc, .inr (4, [.ref zlcA, .int zlcN])), (st, .inr (6, [.ref la, .ref me, .ref li, .int tol, .int su, .int fa])), (la, .inr (2, [.ref ld, .ref lz])), (ld, .inr (4, [.ref ldA, .int 0])), (lz, .inr (4, [.ref lzA, .int 0])), (me, .inr (4, [.ref meA, .int 0])), (li, .inr (0, [.ref ln, .ref ll, .ref lc])), (ln, .inr (4, [.ref lnA, .int 0])), (ll, .inr (4, [.ref llA, .int 0])), (lc, .inr (4, [.ref lcA, .int 0])), (ldA, .inl (K, 9, .inl ldf)), (lzA, .inl (K, 41, .inl lzf))]) (wr := [(out, .inl (KL, 1, .inr (.inl ofn)))]) (tc := [(K, .int), (KS, .object "BarcodeWand$State")]) hG hS hA hK hP hD [0, 1, 2, 3, 4, 5, 6, 7, 8, 9, 10, 11, 12, 13, 14, 15, 16, 17, 18, 19, 20, 21, 22] [23] [0, 1] rfl rfl (by decide) (by decide) (by decide) rfl
  refine k_endXi (EX := fun E => E = "java/lang/IllegalArgumentException" ∧ ¬ pOk d z) (As := [.ref w, .int d, .int z]) ct (k_xrunV (As := [.int d, .int z]) (rest := [.int 0, .ref out]) S0 Lv_L_7 rfl (ci := 7) (q0 := 0) rfl rfl ct (c_W_print l hst D w st hi re fo bu pa ri KS rf zst zla zme zli ztol zsu zfa zld zlz zldA zldN zlzA zlzN zmeA zmeN zln zll zlc zlnA zlnN zllA zllN zlcA zlcN la me li tol su fa ld lz ldA lzA meA ln ll lc lnA llA lcA K ldf lzf d z (by assumption) s.heap.size) hl.1 rfl (Nat.le_of_ble_eq_true rfl) rfl dL_print_5 ⟨⟨Nat.le_of_ble_eq_true rfl, Nat.le_of_ble_eq_true rfl⟩, Nat.le_of_ble_eq_true rfl, Nat.le_of_ble_eq_true rfl⟩) rfl rfl ?_ (fun r_1 u H locs hw_6 hP hD hK hS => ?_)
  · intro E ce q9 H locs hE hP hD hS hq9 hv9 hcl9
    try dsimp only at hE
    have hP : va_P D vwCl [(out, .inl (KL, 1, .inr (.inl ofn))), (w, .inr (7, [.ref st, .ref hi, .ref re, .ref fo, .ref bu, .ref pa])), (hi, .inr (5, [.ref ri, .int 0, .int 0])), (ri, .inl (KS, 6, .inr (.inr (.inr (.inr rf))))), (zst, .inr (6, [.ref zla, .ref zme, .ref zli, .int ztol, .int zsu, .int zfa])), (zla, .inr (2, [.ref zld, .ref zlz])), (zld, .inr (4, [.ref zldA, .int zldN])), (zlz, .inr (4, [.ref zlzA, .int zlzN])), (zme, .inr (4, [.ref zmeA, .int zmeN])), (zli, .inr (0, [.ref zln, .ref zll, .ref zlc])), (zln, .inr (4, [.ref zlnA, .int zlnN])), (zll, .inr (4, [.ref zllA, .int zllN])), (zlc, .inr (4, [.ref zlcA, .int zlcN])), (st, .inr (6, [.ref la, .ref me, .ref li, .int tol, .int su, .int fa])), (la, .inr (2, [.ref ld, .ref lz])), (ld, .inr (4, [.ref ldA, .int 0])), (lz, .inr (4, [.ref lzA, .int 0])), (me, .inr (4, [.ref meA, .int 0])), (li, .inr (0, [.ref ln, .ref ll, .ref lc])), (ln, .inr (4, [.ref lnA, .int 0])), (ll, .inr (4, [.ref llA, .int 0])), (lc, .inr (4, [.ref lcA, .int 0])), (ldA, .inl (K, 9, .inl ldf)), (lzA, .inl (K, 41, .inl lzf))] H := hP
    have hD : va_D A [(out, .inl (KL, 1, .inr (.inl ofn))), (w, .inr (7, [.ref st, .ref hi, .ref re, .ref fo, .ref bu, .ref pa])), (hi, .inr (5, [.ref ri, .int 0, .int 0])), (ri, .inl (KS, 6, .inr (.inr (.inr (.inr rf))))), (zst, .inr (6, [.ref zla, .ref zme, .ref zli, .int ztol, .int zsu, .int zfa])), (zla, .inr (2, [.ref zld, .ref zlz])), (zld, .inr (4, [.ref zldA, .int zldN])), (zlz, .inr (4, [.ref zlzA, .int zlzN])), (zme, .inr (4, [.ref zmeA, .int zmeN])), (zli, .inr (0, [.ref zln, .ref zll, .ref zlc])), (zln, .inr (4, [.ref zlnA, .int zlnN])), (zll, .inr (4, [.ref zllA, .int zllN])), (zlc, .inr (4, [.ref zlcA, .int zlcN])), (st, .inr (6, [.ref la, .ref me, .ref li, .int tol, .int su, .int fa])), (la, .inr (2, [.ref ld, .ref lz])), (ld, .inr (4, [.ref ldA, .int 0])), (lz, .inr (4, [.ref lzA, .int 0])), (me, .inr (4, [.ref meA, .int 0])), (li, .inr (0, [.ref ln, .ref ll, .ref lc])), (ln, .inr (4, [.ref lnA, .int 0])), (ll, .inr (4, [.ref llA, .int 0])), (lc, .inr (4, [.ref lcA, .int 0])), (ldA, .inl (K, 9, .inl ldf)), (lzA, .inl (K, 41, .inl lzf))] := hD
    obtain ⟨hE, hcE⟩ := hE
    subst hE
    refine vx_catch hown [] ⟨0, 10, 13, 13⟩ [] (by rw [htab]; rfl) (fun z9 h9 => absurd h9 List.not_mem_nil) (by decide) (by decide) (ht _ lc_L_13) (va_Nw.use rfl (hG.1 _ (List.mem_of_getElem? (i := 580) rfl) rfl)) hq9 hv9 hcl9 ?_
    refine lv_astore (lv' := [(4, .ref q9), (0, .ref w), (1, .int d), (2, .int z), (3, .ref out)]) hx hb dL_print_13 hl (by decide) rfl (fun ls hl => ?_)
    refine lv_iconst (v := 1) hx hb dL_print_15 (by decide) ?_
    have hP9 : va_P D vwCl [(out, .inl (KL, 1, .inr (.inl ofn)))] H := hP.sub [0] rfl
    have hD9 : va_D A [(out, .inl (KL, 1, .inr (.inl ofn)))] := hD.sub [0] (by decide) rfl
    have hK9 : va_K D vwCl [] s := hK.sub [] rfl
    exact W.iret (v := 1) hx hb hr (fun t ht9 hW9 => ⟨⟨1, ofn, rfl, by exact Or.inr ⟨hcE, rfl⟩, ⟨by rw [ht9]; exact hP9, va_K.moved hW9.alike hK9, hD9⟩⟩, hS.F ht9⟩) hS.2.2 dL_print_16
  obtain ⟨n1v_2, n2v_3, g1v_4, g2v_5⟩ := u
  have hK : va_K D vwCl [(K, .int), (KS, .object "BarcodeWand$State"), (KL, .long)] s := hK
  have hP : va_P D vwCl [(out, .inl (KL, 1, .inr (.inl ofn))), (w, .inr (7, [.ref st, .ref hi, .ref re, .ref fo, .ref bu, .ref pa])), (hi, .inr (5, [.ref ri, .int 1, .int 1])), (ri, .inl (KS, 6, .inr (.inr (.inr (.inr rf))))), (zst, .inr (6, [.ref zla, .ref zme, .ref zli, .int tol, .int su, .int fa])), (zla, .inr (2, [.ref zld, .ref zlz])), (zld, .inr (4, [.ref zldA, .int 0])), (zlz, .inr (4, [.ref zlzA, .int 0])), (zme, .inr (4, [.ref zmeA, .int 0])), (zli, .inr (0, [.ref zln, .ref zll, .ref zlc])), (zln, .inr (4, [.ref zlnA, .int 0])), (zll, .inr (4, [.ref zllA, .int 0])), (zlc, .inr (4, [.ref zlcA, .int 0])), (st, .inr (6, [.ref la, .ref me, .ref li, .int tol, .int su, .int fa])), (la, .inr (2, [.ref ld, .ref lz])), (ld, .inr (4, [.ref ldA, .int n1v_2])), (lz, .inr (4, [.ref lzA, .int n2v_3])), (me, .inr (4, [.ref meA, .int 0])), (li, .inr (0, [.ref ln, .ref ll, .ref lc])), (ln, .inr (4, [.ref lnA, .int 0])), (ll, .inr (4, [.ref llA, .int 0])), (lc, .inr (4, [.ref lcA, .int 0])), (ldA, .inl (K, 9, .inl g1v_4)), (lzA, .inl (K, 41, .inl g2v_5))] H := hP
  have hD : va_D A [(out, .inl (KL, 1, .inr (.inl ofn))), (w, .inr (7, [.ref st, .ref hi, .ref re, .ref fo, .ref bu, .ref pa])), (hi, .inr (5, [.ref ri, .int 1, .int 1])), (ri, .inl (KS, 6, .inr (.inr (.inr (.inr rf))))), (zst, .inr (6, [.ref zla, .ref zme, .ref zli, .int tol, .int su, .int fa])), (zla, .inr (2, [.ref zld, .ref zlz])), (zld, .inr (4, [.ref zldA, .int 0])), (zlz, .inr (4, [.ref zlzA, .int 0])), (zme, .inr (4, [.ref zmeA, .int 0])), (zli, .inr (0, [.ref zln, .ref zll, .ref zlc])), (zln, .inr (4, [.ref zlnA, .int 0])), (zll, .inr (4, [.ref zllA, .int 0])), (zlc, .inr (4, [.ref zlcA, .int 0])), (st, .inr (6, [.ref la, .ref me, .ref li, .int tol, .int su, .int fa])), (la, .inr (2, [.ref ld, .ref lz])), (ld, .inr (4, [.ref ldA, .int n1v_2])), (lz, .inr (4, [.ref lzA, .int n2v_3])), (me, .inr (4, [.ref meA, .int 0])), (li, .inr (0, [.ref ln, .ref ll, .ref lc])), (ln, .inr (4, [.ref lnA, .int 0])), (ll, .inr (4, [.ref llA, .int 0])), (lc, .inr (4, [.ref lcA, .int 0])), (ldA, .inl (K, 9, .inl g1v_4)), (lzA, .inl (K, 41, .inl g2v_5))] := hD
  have hw_6 : pOk d z ∧ r_1 = chkd (cS d z.toNatClampNeg) := hw_6
  refine lv_i2l (v := r_1.toInt64) hx hb dL_print_8 rfl ?_
  refine va_last hx hb hK hP hD hS 0 2 rfl rfl (by unfold vp_in; decide) dL_print_9 (fun H locs hP hD hS => ?_)
  have hP : va_P D vwCl [(out, .inl (KL, 1, .inr (.inl (vp_updL ofn ((0 : Int32).toNatClampNeg) r_1.toInt64)))), (w, .inr (7, [.ref st, .ref hi, .ref re, .ref fo, .ref bu, .ref pa])), (hi, .inr (5, [.ref ri, .int 1, .int 1])), (ri, .inl (KS, 6, .inr (.inr (.inr (.inr rf))))), (zst, .inr (6, [.ref zla, .ref zme, .ref zli, .int tol, .int su, .int fa])), (zla, .inr (2, [.ref zld, .ref zlz])), (zld, .inr (4, [.ref zldA, .int 0])), (zlz, .inr (4, [.ref zlzA, .int 0])), (zme, .inr (4, [.ref zmeA, .int 0])), (zli, .inr (0, [.ref zln, .ref zll, .ref zlc])), (zln, .inr (4, [.ref zlnA, .int 0])), (zll, .inr (4, [.ref zllA, .int 0])), (zlc, .inr (4, [.ref zlcA, .int 0])), (st, .inr (6, [.ref la, .ref me, .ref li, .int tol, .int su, .int fa])), (la, .inr (2, [.ref ld, .ref lz])), (ld, .inr (4, [.ref ldA, .int n1v_2])), (lz, .inr (4, [.ref lzA, .int n2v_3])), (me, .inr (4, [.ref meA, .int 0])), (li, .inr (0, [.ref ln, .ref ll, .ref lc])), (ln, .inr (4, [.ref lnA, .int 0])), (ll, .inr (4, [.ref llA, .int 0])), (lc, .inr (4, [.ref lcA, .int 0])), (ldA, .inl (K, 9, .inl g1v_4)), (lzA, .inl (K, 41, .inl g2v_5))] H := hP
  have hD : va_D A [(out, .inl (KL, 1, .inr (.inl (vp_updL ofn ((0 : Int32).toNatClampNeg) r_1.toInt64)))), (w, .inr (7, [.ref st, .ref hi, .ref re, .ref fo, .ref bu, .ref pa])), (hi, .inr (5, [.ref ri, .int 1, .int 1])), (ri, .inl (KS, 6, .inr (.inr (.inr (.inr rf))))), (zst, .inr (6, [.ref zla, .ref zme, .ref zli, .int tol, .int su, .int fa])), (zla, .inr (2, [.ref zld, .ref zlz])), (zld, .inr (4, [.ref zldA, .int 0])), (zlz, .inr (4, [.ref zlzA, .int 0])), (zme, .inr (4, [.ref zmeA, .int 0])), (zli, .inr (0, [.ref zln, .ref zll, .ref zlc])), (zln, .inr (4, [.ref zlnA, .int 0])), (zll, .inr (4, [.ref zllA, .int 0])), (zlc, .inr (4, [.ref zlcA, .int 0])), (st, .inr (6, [.ref la, .ref me, .ref li, .int tol, .int su, .int fa])), (la, .inr (2, [.ref ld, .ref lz])), (ld, .inr (4, [.ref ldA, .int n1v_2])), (lz, .inr (4, [.ref lzA, .int n2v_3])), (me, .inr (4, [.ref meA, .int 0])), (li, .inr (0, [.ref ln, .ref ll, .ref lc])), (ln, .inr (4, [.ref lnA, .int 0])), (ll, .inr (4, [.ref llA, .int 0])), (lc, .inr (4, [.ref lcA, .int 0])), (ldA, .inl (K, 9, .inl g1v_4)), (lzA, .inl (K, 41, .inl g2v_5))] := hD
  refine lv_goto (tgt := 17) hx hb dL_print_10 (by decide) ?_
  refine lv_iconst (v := 0) hx hb dL_print_17 (by decide) ?_
  have hP9 : va_P D vwCl [(out, .inl (KL, 1, .inr (.inl (vp_updL ofn ((0 : Int32).toNatClampNeg) r_1.toInt64))))] H := hP.sub [0] rfl
  have hD9 : va_D A [(out, .inl (KL, 1, .inr (.inl (vp_updL ofn ((0 : Int32).toNatClampNeg) r_1.toInt64))))] := hD.sub [0] (by decide) rfl
  have hK9 : va_K D vwCl [] s := hK.sub [] rfl
  exact W.iret (v := 0) hx hb hr (fun t ht9 hW9 => ⟨⟨0, vp_updL ofn ((0 : Int32).toNatClampNeg) r_1.toInt64, rfl, by exact Or.inl ⟨hw_6.1, rfl, by rw [hw_6.2]; first | rfl | exact pk_uLs⟩, ⟨by rw [ht9]; exact hP9, va_K.moved hW9.alike hK9, hD9⟩⟩, hS.F ht9⟩) hS.2.2 dL_print_18
set_option maxHeartbeats 4000000 in
set_option maxRecDepth 100000 in
theorem c_L_smudge (l : Launch) (hst : l.stackTraces = false) (D : va_G) (w : Nat) (st : Nat) (hi : Nat) (re : Nat) (fo : Nat) (bu : Nat) (pa : Nat) (la : Nat) (me : Nat) (li : Nat) (tol : Int32) (su : Int32) (fa : Int32) (ld : Nat) (lz : Nat) (lzA : Nat) (i : Int32) (j : Int32) (out : Nat) (KL : ClassId) (ofn : Nat → Int64) (sz : Nat) : k_Wi (S := Nat → Int64) l D yL_smudge cL_smudge 5 (some .int) [(0, 10, 13, 18), (0, 10, 17, 13)] 8 1 6 126 [.ref w, .int i, .int j, .ref out] [(w, .inr (7, [.ref st, .ref hi, .ref re, .ref fo, .ref bu, .ref pa])), (st, .inr (6, [.ref la, .ref me, .ref li, .int tol, .int su, .int fa])), (la, .inr (2, [.ref ld, .ref lz])), (lz, .inr (4, [.ref lzA, .int 0])), (out, .inl (KL, 1, .inr (.inl ofn)))] [(KL, .long)] (fun (r : Int32) (og : Nat → Int64) => r = 1) (fun og => [(out, .inl (KL, 1, .inr (.inl og)))]) (fun og => []) sz := by
  refine va_MetW (cc := cL_smudge) (maxL := 5) (ret := (some .int)) (hh := [(0, 10, 13, 18), (0, 10, 17, 13)]) (by decide) rfl ?_
  intro p e s m args below meth c s₁ B hml hv
  obtain ⟨rfl, hsz, hP, hK, hD0, hG⟩ := hv
  have hx := B.exec
  have hb := B.bytes
  have hr := B.returns
  have ht : ∀ v9 ∈ wsA, v9.before ([.ref w, .int i, .int j, .ref out] : List Value).toArray s = true := fun v9 h9 => atoms_spec (ws := Cond.codeWith yL_smudge cL_smudge 5 (some .int) [(0, 10, 13, 18), (0, 10, 17, 13)] :: wsA) B.pre v9 (List.mem_cons_of_mem _ h9)
  have htab : c.exceptionTable.toList = tableOf [(0, 10, 13, 18), (0, 10, 17, 13)] := vx_table (x := yL_smudge) B (atoms_spec (ws := Cond.codeWith yL_smudge cL_smudge 5 (some .int) [(0, 10, 13, 18), (0, 10, 17, 13)] :: wsA) B.pre _ List.mem_cons_self)
  have hown : s.vm.findClass RL = some m.cls := findClass_of_methodNamed B.named
  have S0 : k_C p s m ([.ref w, .int i, .int j, .ref out] : List Value).toArray c cL_smudge 5 RL := ⟨hx, hb, hml, hown, ht⟩
  have hlocks := B.notSynchronized
  subst hsz
  have hD := hD0.self (sz := s.heap.size)
  generalize hAe : va_A [(w, .inr (7, [.ref st, .ref hi, .ref re, .ref fo, .ref bu, .ref pa])), (st, .inr (6, [.ref la, .ref me, .ref li, .int tol, .int su, .int fa])), (la, .inr (2, [.ref ld, .ref lz])), (lz, .inr (4, [.ref lzA, .int 0])), (out, .inl (KL, 1, .inr (.inl ofn)))] s.heap.size = A at hD hG ⊢
  have hA : ∀ q : Nat, s.heap.size ≤ q → A q := fun q h => by rw [← hAe]; exact Or.inr h
  have hS : va_S A s.heap s.heap [] := va_S.rf
  have hl := lv_entry ([.ref w, .int i, .int j, .ref out]) (n := 5) (Nat.le_of_ble_eq_true rfl)
  rw [lg_entry_eq]
  generalize (lg_sl ([.ref w, .int i, .int j, .ref out]) ++ List.replicate (5 - (lg_sl ([.ref w, .int i, .int j, .ref out])).length) Slot.unset).toArray = ls at hl ⊢
  have hl : lv_has ls 5 [(0, .ref w), (1, .int i), (2, .int j), (3, .ref out)] := hl
  have hP : va_P D vwCl [(w, .inr (7, [.ref st, .ref hi, .ref re, .ref fo, .ref bu, .ref pa])), (st, .inr (6, [.ref la, .ref me, .ref li, .int tol, .int su, .int fa])), (la, .inr (2, [.ref ld, .ref lz])), (lz, .inr (4, [.ref lzA, .int 0])), (out, .inl (KL, 1, .inr (.inl ofn)))] s.heap := hP
  refine lv_aload_n hx hb dL_smudge_0 rfl (lv_at hl 3 rfl) ?_
  refine lv_iconst (v := 0) hx hb dL_smudge_1 (by decide) ?_
  refine lv_aload_n hx hb dL_smudge_2 rfl (lv_at hl 0 rfl) ?_
  refine lv_iload_n hx hb dL_smudge_3 rfl (lv_at hl 1 rfl) ?_
  refine lv_iload_n hx hb dL_smudge_4 rfl (lv_at hl 2 rfl) ?_
  have ct := k_cut_of (wc := [(w, .inr (7, [.ref st, .ref hi, .ref re, .ref fo, .ref bu, .ref pa])), (st, .inr (6, [.ref la, .ref me, .ref li, .int tol, .int su, .int fa])), (la, .inr (2, [.ref ld, .ref lz])), (lz, .inr (4, [.ref lzA, .int 0]))]) (wr := [(out, .inl (KL, 1, .inr (.inl ofn)))]) (tc := []) hG hS hA hK hP hD [0, 1, 2, 3] [4] [] rfl rfl (by decide) (by decide) (by decide) rfl
  refine k_endXi (EX := fun E => E = "java/lang/IndexOutOfBoundsException") (As := [.ref w, .int i, .int j]) ct (k_xrunV (As := [.int i, .int j]) (rest := [.int 0, .ref out]) S0 Lv_L_15 rfl (ci := 7) (q0 := 0) rfl rfl ct (c_W_smudge l hst D w st hi re fo bu pa la me li tol su fa ld lz lzA i j s.heap.size) hl.1 rfl (Nat.le_of_ble_eq_true rfl) rfl dL_smudge_5 ⟨⟨Nat.le_of_ble_eq_true rfl, Nat.le_of_ble_eq_true rfl⟩, Nat.le_of_ble_eq_true rfl, Nat.le_of_ble_eq_true rfl⟩) rfl rfl ?_ (fun r_1 _ H locs hw_2 hP hD hK hS => ?_)
  · intro E ce q9 H locs hE hP hD hS hq9 hv9 hcl9
    try dsimp only at hE
    have hP : va_P D vwCl [(out, .inl (KL, 1, .inr (.inl ofn))), (w, .inr (7, [.ref st, .ref hi, .ref re, .ref fo, .ref bu, .ref pa])), (st, .inr (6, [.ref la, .ref me, .ref li, .int tol, .int su, .int fa])), (la, .inr (2, [.ref ld, .ref lz])), (lz, .inr (4, [.ref lzA, .int 0]))] H := hP
    have hD : va_D A [(out, .inl (KL, 1, .inr (.inl ofn))), (w, .inr (7, [.ref st, .ref hi, .ref re, .ref fo, .ref bu, .ref pa])), (st, .inr (6, [.ref la, .ref me, .ref li, .int tol, .int su, .int fa])), (la, .inr (2, [.ref ld, .ref lz])), (lz, .inr (4, [.ref lzA, .int 0]))] := hD
    subst hE
    refine vx_catch hown [] ⟨0, 10, 13, 18⟩ [⟨0, 10, 17, 13⟩] (by rw [htab]; rfl) (fun z9 h9 => absurd h9 List.not_mem_nil) (by decide) (by decide) (ht _ lc_L_18) (va_Nw.use rfl (hG.1 _ (List.mem_of_getElem? (i := 486) rfl) rfl)) hq9 hv9 hcl9 ?_
    refine lv_astore (lv' := [(4, .ref q9), (0, .ref w), (1, .int i), (2, .int j), (3, .ref out)]) hx hb dL_smudge_13 hl (by decide) rfl (fun ls hl => ?_)
    refine lv_iconst (v := 1) hx hb dL_smudge_15 (by decide) ?_
    have hP9 : va_P D vwCl [(out, .inl (KL, 1, .inr (.inl ofn)))] H := hP.sub [0] rfl
    have hD9 : va_D A [(out, .inl (KL, 1, .inr (.inl ofn)))] := hD.sub [0] (by decide) rfl
    have hK9 : va_K D vwCl [] s := hK.sub [] rfl
    exact W.iret (v := 1) hx hb hr (fun t ht9 hW9 => ⟨⟨1, ofn, rfl, by rfl, ⟨by rw [ht9]; exact hP9, va_K.moved hW9.alike hK9, hD9⟩⟩, hS.F ht9⟩) hS.2.2 dL_smudge_16
  have hK : va_K D vwCl [(KL, .long)] s := hK
  have hP : va_P D vwCl [(out, .inl (KL, 1, .inr (.inl ofn))), (w, .inr (7, [.ref st, .ref hi, .ref re, .ref fo, .ref bu, .ref pa])), (st, .inr (6, [.ref la, .ref me, .ref li, .int tol, .int su, .int fa])), (la, .inr (2, [.ref ld, .ref lz])), (lz, .inr (4, [.ref lzA, .int 0]))] H := hP
  have hD : va_D A [(out, .inl (KL, 1, .inr (.inl ofn))), (w, .inr (7, [.ref st, .ref hi, .ref re, .ref fo, .ref bu, .ref pa])), (st, .inr (6, [.ref la, .ref me, .ref li, .int tol, .int su, .int fa])), (la, .inr (2, [.ref ld, .ref lz])), (lz, .inr (4, [.ref lzA, .int 0]))] := hD
  exact hw_2.elim
set_option maxHeartbeats 4000000 in
set_option maxRecDepth 100000 in
theorem c_L_width (l : Launch) (hst : l.stackTraces = false) (D : va_G) (w : Nat) (st : Nat) (hi : Nat) (re : Nat) (fo : Nat) (bu : Nat) (pa : Nat) (la : Nat) (me : Nat) (li : Nat) (tol : Int32) (su : Int32) (fa : Int32) (ld : Nat) (lz : Nat) (lzA : Nat) (i : Int32) (out : Nat) (KL : ClassId) (ofn : Nat → Int64) (sz : Nat) : k_Wi (S := Nat → Int64) l D yL_width cL_width 4 (some .int) [(0, 9, 12, 18)] 8 1 6 124 [.ref w, .int i, .ref out] [(w, .inr (7, [.ref st, .ref hi, .ref re, .ref fo, .ref bu, .ref pa])), (st, .inr (6, [.ref la, .ref me, .ref li, .int tol, .int su, .int fa])), (la, .inr (2, [.ref ld, .ref lz])), (lz, .inr (4, [.ref lzA, .int 0])), (out, .inl (KL, 1, .inr (.inl ofn)))] [(KL, .long)] (fun (r : Int32) (og : Nat → Int64) => r = 1) (fun og => [(out, .inl (KL, 1, .inr (.inl og)))]) (fun og => []) sz := by
  refine va_MetW (cc := cL_width) (maxL := 4) (ret := (some .int)) (hh := [(0, 9, 12, 18)]) (by decide) rfl ?_
  intro p e s m args below meth c s₁ B hml hv
  obtain ⟨rfl, hsz, hP, hK, hD0, hG⟩ := hv
  have hx := B.exec
  have hb := B.bytes
  have hr := B.returns
  have ht : ∀ v9 ∈ wsA, v9.before ([.ref w, .int i, .ref out] : List Value).toArray s = true := fun v9 h9 => atoms_spec (ws := Cond.codeWith yL_width cL_width 4 (some .int) [(0, 9, 12, 18)] :: wsA) B.pre v9 (List.mem_cons_of_mem _ h9)
  have htab : c.exceptionTable.toList = tableOf [(0, 9, 12, 18)] := vx_table (x := yL_width) B (atoms_spec (ws := Cond.codeWith yL_width cL_width 4 (some .int) [(0, 9, 12, 18)] :: wsA) B.pre _ List.mem_cons_self)
  have hown : s.vm.findClass RL = some m.cls := findClass_of_methodNamed B.named
  have S0 : k_C p s m ([.ref w, .int i, .ref out] : List Value).toArray c cL_width 4 RL := ⟨hx, hb, hml, hown, ht⟩
  have hlocks := B.notSynchronized
  subst hsz
  have hD := hD0.self (sz := s.heap.size)
  generalize hAe : va_A [(w, .inr (7, [.ref st, .ref hi, .ref re, .ref fo, .ref bu, .ref pa])), (st, .inr (6, [.ref la, .ref me, .ref li, .int tol, .int su, .int fa])), (la, .inr (2, [.ref ld, .ref lz])), (lz, .inr (4, [.ref lzA, .int 0])), (out, .inl (KL, 1, .inr (.inl ofn)))] s.heap.size = A at hD hG ⊢
  have hA : ∀ q : Nat, s.heap.size ≤ q → A q := fun q h => by rw [← hAe]; exact Or.inr h
  have hS : va_S A s.heap s.heap [] := va_S.rf
  have hl := lv_entry ([.ref w, .int i, .ref out]) (n := 4) (Nat.le_of_ble_eq_true rfl)
  rw [lg_entry_eq]
  generalize (lg_sl ([.ref w, .int i, .ref out]) ++ List.replicate (4 - (lg_sl ([.ref w, .int i, .ref out])).length) Slot.unset).toArray = ls at hl ⊢
  have hl : lv_has ls 4 [(0, .ref w), (1, .int i), (2, .ref out)] := hl
  have hP : va_P D vwCl [(w, .inr (7, [.ref st, .ref hi, .ref re, .ref fo, .ref bu, .ref pa])), (st, .inr (6, [.ref la, .ref me, .ref li, .int tol, .int su, .int fa])), (la, .inr (2, [.ref ld, .ref lz])), (lz, .inr (4, [.ref lzA, .int 0])), (out, .inl (KL, 1, .inr (.inl ofn)))] s.heap := hP
  refine lv_aload_n hx hb dL_width_0 rfl (lv_at hl 2 rfl) ?_
  refine lv_iconst (v := 0) hx hb dL_width_1 (by decide) ?_
  refine lv_aload_n hx hb dL_width_2 rfl (lv_at hl 0 rfl) ?_
  refine lv_iload_n hx hb dL_width_3 rfl (lv_at hl 1 rfl) ?_
  have ct := k_cut_of (wc := [(w, .inr (7, [.ref st, .ref hi, .ref re, .ref fo, .ref bu, .ref pa])), (st, .inr (6, [.ref la, .ref me, .ref li, .int tol, .int su, .int fa])), (la, .inr (2, [.ref ld, .ref lz])), (lz, .inr (4, [.ref lzA, .int 0]))]) (wr := [(out, .inl (KL, 1, .inr (.inl ofn)))]) (tc := []) hG hS hA hK hP hD [0, 1, 2, 3] [4] [] rfl rfl (by decide) (by decide) (by decide) rfl
  refine k_endXi (EX := fun E => E = "java/lang/IndexOutOfBoundsException") (As := [.ref w, .int i]) ct (k_xrunV (As := [.int i]) (rest := [.int 0, .ref out]) S0 Lv_L_20 rfl (ci := 7) (q0 := 0) rfl rfl ct (c_W_width l hst D w st hi re fo bu pa la me li tol su fa ld lz lzA i s.heap.size) hl.1 rfl (Nat.le_of_ble_eq_true rfl) rfl dL_width_4 ⟨⟨Nat.le_of_ble_eq_true rfl, Nat.le_of_ble_eq_true rfl⟩, Nat.le_of_ble_eq_true rfl, Nat.le_of_ble_eq_true rfl⟩) rfl rfl ?_ (fun r_1 _ H locs hw_2 hP hD hK hS => ?_)
  · intro E ce q9 H locs hE hP hD hS hq9 hv9 hcl9
    try dsimp only at hE
    have hP : va_P D vwCl [(out, .inl (KL, 1, .inr (.inl ofn))), (w, .inr (7, [.ref st, .ref hi, .ref re, .ref fo, .ref bu, .ref pa])), (st, .inr (6, [.ref la, .ref me, .ref li, .int tol, .int su, .int fa])), (la, .inr (2, [.ref ld, .ref lz])), (lz, .inr (4, [.ref lzA, .int 0]))] H := hP
    have hD : va_D A [(out, .inl (KL, 1, .inr (.inl ofn))), (w, .inr (7, [.ref st, .ref hi, .ref re, .ref fo, .ref bu, .ref pa])), (st, .inr (6, [.ref la, .ref me, .ref li, .int tol, .int su, .int fa])), (la, .inr (2, [.ref ld, .ref lz])), (lz, .inr (4, [.ref lzA, .int 0]))] := hD
    subst hE
    refine vx_catch hown [] ⟨0, 9, 12, 18⟩ [] (by rw [htab]; rfl) (fun z9 h9 => absurd h9 List.not_mem_nil) (by decide) (by decide) (ht _ lc_L_18) (va_Nw.use rfl (hG.1 _ (List.mem_of_getElem? (i := 486) rfl) rfl)) hq9 hv9 hcl9 ?_
    refine lv_astore_n (lv' := [(3, .ref q9), (0, .ref w), (1, .int i), (2, .ref out)]) hx hb dL_width_12 rfl hl (by decide) rfl (fun ls hl => ?_)
    refine lv_iconst (v := 1) hx hb dL_width_13 (by decide) ?_
    have hP9 : va_P D vwCl [(out, .inl (KL, 1, .inr (.inl ofn)))] H := hP.sub [0] rfl
    have hD9 : va_D A [(out, .inl (KL, 1, .inr (.inl ofn)))] := hD.sub [0] (by decide) rfl
    have hK9 : va_K D vwCl [] s := hK.sub [] rfl
    exact W.iret (v := 1) hx hb hr (fun t ht9 hW9 => ⟨⟨1, ofn, rfl, by rfl, ⟨by rw [ht9]; exact hP9, va_K.moved hW9.alike hK9, hD9⟩⟩, hS.F ht9⟩) hS.2.2 dL_width_14
  have hK : va_K D vwCl [(KL, .long)] s := hK
  have hP : va_P D vwCl [(out, .inl (KL, 1, .inr (.inl ofn))), (w, .inr (7, [.ref st, .ref hi, .ref re, .ref fo, .ref bu, .ref pa])), (st, .inr (6, [.ref la, .ref me, .ref li, .int tol, .int su, .int fa])), (la, .inr (2, [.ref ld, .ref lz])), (lz, .inr (4, [.ref lzA, .int 0]))] H := hP
  have hD : va_D A [(out, .inl (KL, 1, .inr (.inl ofn))), (w, .inr (7, [.ref st, .ref hi, .ref re, .ref fo, .ref bu, .ref pa])), (st, .inr (6, [.ref la, .ref me, .ref li, .int tol, .int su, .int fa])), (la, .inr (2, [.ref ld, .ref lz])), (lz, .inr (4, [.ref lzA, .int 0]))] := hD
  exact hw_2.elim
set_option maxHeartbeats 4000000 in
set_option maxRecDepth 100000 in
theorem c_L_labelDigit (l : Launch) (hst : l.stackTraces = false) (D : va_G) (w : Nat) (st : Nat) (hi : Nat) (re : Nat) (fo : Nat) (bu : Nat) (pa : Nat) (la : Nat) (me : Nat) (li : Nat) (tol : Int32) (su : Int32) (fa : Int32) (ld : Nat) (lz : Nat) (ldA : Nat) (i : Int32) (out : Nat) (KL : ClassId) (ofn : Nat → Int64) (sz : Nat) : k_Wi (S := Nat → Int64) l D yL_labelDigit cL_labelDigit 4 (some .int) [(0, 9, 12, 18)] 7 1 6 103 [.ref w, .int i, .ref out] [(w, .inr (7, [.ref st, .ref hi, .ref re, .ref fo, .ref bu, .ref pa])), (st, .inr (6, [.ref la, .ref me, .ref li, .int tol, .int su, .int fa])), (la, .inr (2, [.ref ld, .ref lz])), (ld, .inr (4, [.ref ldA, .int 0])), (out, .inl (KL, 1, .inr (.inl ofn)))] [(KL, .long)] (fun (r : Int32) (og : Nat → Int64) => r = 1) (fun og => [(out, .inl (KL, 1, .inr (.inl og)))]) (fun og => []) sz := by
  refine va_MetW (cc := cL_labelDigit) (maxL := 4) (ret := (some .int)) (hh := [(0, 9, 12, 18)]) (by decide) rfl ?_
  intro p e s m args below meth c s₁ B hml hv
  obtain ⟨rfl, hsz, hP, hK, hD0, hG⟩ := hv
  have hx := B.exec
  have hb := B.bytes
  have hr := B.returns
  have ht : ∀ v9 ∈ wsA, v9.before ([.ref w, .int i, .ref out] : List Value).toArray s = true := fun v9 h9 => atoms_spec (ws := Cond.codeWith yL_labelDigit cL_labelDigit 4 (some .int) [(0, 9, 12, 18)] :: wsA) B.pre v9 (List.mem_cons_of_mem _ h9)
  have htab : c.exceptionTable.toList = tableOf [(0, 9, 12, 18)] := vx_table (x := yL_labelDigit) B (atoms_spec (ws := Cond.codeWith yL_labelDigit cL_labelDigit 4 (some .int) [(0, 9, 12, 18)] :: wsA) B.pre _ List.mem_cons_self)
  have hown : s.vm.findClass RL = some m.cls := findClass_of_methodNamed B.named
  have S0 : k_C p s m ([.ref w, .int i, .ref out] : List Value).toArray c cL_labelDigit 4 RL := ⟨hx, hb, hml, hown, ht⟩
  have hlocks := B.notSynchronized
  subst hsz
  have hD := hD0.self (sz := s.heap.size)
  generalize hAe : va_A [(w, .inr (7, [.ref st, .ref hi, .ref re, .ref fo, .ref bu, .ref pa])), (st, .inr (6, [.ref la, .ref me, .ref li, .int tol, .int su, .int fa])), (la, .inr (2, [.ref ld, .ref lz])), (ld, .inr (4, [.ref ldA, .int 0])), (out, .inl (KL, 1, .inr (.inl ofn)))] s.heap.size = A at hD hG ⊢
  have hA : ∀ q : Nat, s.heap.size ≤ q → A q := fun q h => by rw [← hAe]; exact Or.inr h
  have hS : va_S A s.heap s.heap [] := va_S.rf
  have hl := lv_entry ([.ref w, .int i, .ref out]) (n := 4) (Nat.le_of_ble_eq_true rfl)
  rw [lg_entry_eq]
  generalize (lg_sl ([.ref w, .int i, .ref out]) ++ List.replicate (4 - (lg_sl ([.ref w, .int i, .ref out])).length) Slot.unset).toArray = ls at hl ⊢
  have hl : lv_has ls 4 [(0, .ref w), (1, .int i), (2, .ref out)] := hl
  have hP : va_P D vwCl [(w, .inr (7, [.ref st, .ref hi, .ref re, .ref fo, .ref bu, .ref pa])), (st, .inr (6, [.ref la, .ref me, .ref li, .int tol, .int su, .int fa])), (la, .inr (2, [.ref ld, .ref lz])), (ld, .inr (4, [.ref ldA, .int 0])), (out, .inl (KL, 1, .inr (.inl ofn)))] s.heap := hP
  refine lv_aload_n hx hb dL_labelDigit_0 rfl (lv_at hl 2 rfl) ?_
  refine lv_iconst (v := 0) hx hb dL_labelDigit_1 (by decide) ?_
  refine lv_aload_n hx hb dL_labelDigit_2 rfl (lv_at hl 0 rfl) ?_
  refine lv_iload_n hx hb dL_labelDigit_3 rfl (lv_at hl 1 rfl) ?_
  have ct := k_cut_of (wc := [(w, .inr (7, [.ref st, .ref hi, .ref re, .ref fo, .ref bu, .ref pa])), (st, .inr (6, [.ref la, .ref me, .ref li, .int tol, .int su, .int fa])), (la, .inr (2, [.ref ld, .ref lz])), (ld, .inr (4, [.ref ldA, .int 0]))]) (wr := [(out, .inl (KL, 1, .inr (.inl ofn)))]) (tc := []) hG hS hA hK hP hD [0, 1, 2, 3] [4] [] rfl rfl (by decide) (by decide) (by decide) rfl
  refine k_endXi (EX := fun E => E = "java/lang/IndexOutOfBoundsException") (As := [.ref w, .int i]) ct (k_xrunV (As := [.int i]) (rest := [.int 0, .ref out]) S0 Lv_L_24 rfl (ci := 7) (q0 := 0) rfl rfl ct (c_W_labelDigit l hst D w st hi re fo bu pa la me li tol su fa ld lz ldA i s.heap.size) hl.1 rfl (Nat.le_of_ble_eq_true rfl) rfl dL_labelDigit_4 ⟨⟨Nat.le_of_ble_eq_true rfl, Nat.le_of_ble_eq_true rfl⟩, Nat.le_of_ble_eq_true rfl, Nat.le_of_ble_eq_true rfl⟩) rfl rfl ?_ (fun r_1 _ H locs hw_2 hP hD hK hS => ?_)
  · intro E ce q9 H locs hE hP hD hS hq9 hv9 hcl9
    try dsimp only at hE
    have hP : va_P D vwCl [(out, .inl (KL, 1, .inr (.inl ofn))), (w, .inr (7, [.ref st, .ref hi, .ref re, .ref fo, .ref bu, .ref pa])), (st, .inr (6, [.ref la, .ref me, .ref li, .int tol, .int su, .int fa])), (la, .inr (2, [.ref ld, .ref lz])), (ld, .inr (4, [.ref ldA, .int 0]))] H := hP
    have hD : va_D A [(out, .inl (KL, 1, .inr (.inl ofn))), (w, .inr (7, [.ref st, .ref hi, .ref re, .ref fo, .ref bu, .ref pa])), (st, .inr (6, [.ref la, .ref me, .ref li, .int tol, .int su, .int fa])), (la, .inr (2, [.ref ld, .ref lz])), (ld, .inr (4, [.ref ldA, .int 0]))] := hD
    subst hE
    refine vx_catch hown [] ⟨0, 9, 12, 18⟩ [] (by rw [htab]; rfl) (fun z9 h9 => absurd h9 List.not_mem_nil) (by decide) (by decide) (ht _ lc_L_18) (va_Nw.use rfl (hG.1 _ (List.mem_of_getElem? (i := 486) rfl) rfl)) hq9 hv9 hcl9 ?_
    refine lv_astore_n (lv' := [(3, .ref q9), (0, .ref w), (1, .int i), (2, .ref out)]) hx hb dL_labelDigit_12 rfl hl (by decide) rfl (fun ls hl => ?_)
    refine lv_iconst (v := 1) hx hb dL_labelDigit_13 (by decide) ?_
    have hP9 : va_P D vwCl [(out, .inl (KL, 1, .inr (.inl ofn)))] H := hP.sub [0] rfl
    have hD9 : va_D A [(out, .inl (KL, 1, .inr (.inl ofn)))] := hD.sub [0] (by decide) rfl
    have hK9 : va_K D vwCl [] s := hK.sub [] rfl
    exact W.iret (v := 1) hx hb hr (fun t ht9 hW9 => ⟨⟨1, ofn, rfl, by rfl, ⟨by rw [ht9]; exact hP9, va_K.moved hW9.alike hK9, hD9⟩⟩, hS.F ht9⟩) hS.2.2 dL_labelDigit_14
  have hK : va_K D vwCl [(KL, .long)] s := hK
  have hP : va_P D vwCl [(out, .inl (KL, 1, .inr (.inl ofn))), (w, .inr (7, [.ref st, .ref hi, .ref re, .ref fo, .ref bu, .ref pa])), (st, .inr (6, [.ref la, .ref me, .ref li, .int tol, .int su, .int fa])), (la, .inr (2, [.ref ld, .ref lz])), (ld, .inr (4, [.ref ldA, .int 0]))] H := hP
  have hD : va_D A [(out, .inl (KL, 1, .inr (.inl ofn))), (w, .inr (7, [.ref st, .ref hi, .ref re, .ref fo, .ref bu, .ref pa])), (st, .inr (6, [.ref la, .ref me, .ref li, .int tol, .int su, .int fa])), (la, .inr (2, [.ref ld, .ref lz])), (ld, .inr (4, [.ref ldA, .int 0]))] := hD
  exact hw_2.elim
set_option maxHeartbeats 4000000 in
set_option maxRecDepth 100000 in
theorem c_L_time (l : Launch) (hst : l.stackTraces = false) (D : va_G) (w : Nat) (st : Nat) (hi : Nat) (re : Nat) (fo : Nat) (bu : Nat) (pa : Nat) (la : Nat) (me : Nat) (li : Nat) (tol : Int32) (su : Int32) (fa : Int32) (meA : Nat) (i : Int32) (out : Nat) (KL : ClassId) (ofn : Nat → Int64) (sz : Nat) : k_Wi (S := Nat → Int64) l D yL_time cL_time 4 (some .int) [(0, 9, 12, 18)] 7 1 6 103 [.ref w, .int i, .ref out] [(w, .inr (7, [.ref st, .ref hi, .ref re, .ref fo, .ref bu, .ref pa])), (st, .inr (6, [.ref la, .ref me, .ref li, .int tol, .int su, .int fa])), (me, .inr (4, [.ref meA, .int 0])), (out, .inl (KL, 1, .inr (.inl ofn)))] [(KL, .long)] (fun (r : Int32) (og : Nat → Int64) => r = 1) (fun og => [(out, .inl (KL, 1, .inr (.inl og)))]) (fun og => []) sz := by
  refine va_MetW (cc := cL_time) (maxL := 4) (ret := (some .int)) (hh := [(0, 9, 12, 18)]) (by decide) rfl ?_
  intro p e s m args below meth c s₁ B hml hv
  obtain ⟨rfl, hsz, hP, hK, hD0, hG⟩ := hv
  have hx := B.exec
  have hb := B.bytes
  have hr := B.returns
  have ht : ∀ v9 ∈ wsA, v9.before ([.ref w, .int i, .ref out] : List Value).toArray s = true := fun v9 h9 => atoms_spec (ws := Cond.codeWith yL_time cL_time 4 (some .int) [(0, 9, 12, 18)] :: wsA) B.pre v9 (List.mem_cons_of_mem _ h9)
  have htab : c.exceptionTable.toList = tableOf [(0, 9, 12, 18)] := vx_table (x := yL_time) B (atoms_spec (ws := Cond.codeWith yL_time cL_time 4 (some .int) [(0, 9, 12, 18)] :: wsA) B.pre _ List.mem_cons_self)
  have hown : s.vm.findClass RL = some m.cls := findClass_of_methodNamed B.named
  have S0 : k_C p s m ([.ref w, .int i, .ref out] : List Value).toArray c cL_time 4 RL := ⟨hx, hb, hml, hown, ht⟩
  have hlocks := B.notSynchronized
  subst hsz
  have hD := hD0.self (sz := s.heap.size)
  generalize hAe : va_A [(w, .inr (7, [.ref st, .ref hi, .ref re, .ref fo, .ref bu, .ref pa])), (st, .inr (6, [.ref la, .ref me, .ref li, .int tol, .int su, .int fa])), (me, .inr (4, [.ref meA, .int 0])), (out, .inl (KL, 1, .inr (.inl ofn)))] s.heap.size = A at hD hG ⊢
  have hA : ∀ q : Nat, s.heap.size ≤ q → A q := fun q h => by rw [← hAe]; exact Or.inr h
  have hS : va_S A s.heap s.heap [] := va_S.rf
  have hl := lv_entry ([.ref w, .int i, .ref out]) (n := 4) (Nat.le_of_ble_eq_true rfl)
  rw [lg_entry_eq]
  generalize (lg_sl ([.ref w, .int i, .ref out]) ++ List.replicate (4 - (lg_sl ([.ref w, .int i, .ref out])).length) Slot.unset).toArray = ls at hl ⊢
  have hl : lv_has ls 4 [(0, .ref w), (1, .int i), (2, .ref out)] := hl
  have hP : va_P D vwCl [(w, .inr (7, [.ref st, .ref hi, .ref re, .ref fo, .ref bu, .ref pa])), (st, .inr (6, [.ref la, .ref me, .ref li, .int tol, .int su, .int fa])), (me, .inr (4, [.ref meA, .int 0])), (out, .inl (KL, 1, .inr (.inl ofn)))] s.heap := hP
  refine lv_aload_n hx hb dL_time_0 rfl (lv_at hl 2 rfl) ?_
  refine lv_iconst (v := 0) hx hb dL_time_1 (by decide) ?_
  refine lv_aload_n hx hb dL_time_2 rfl (lv_at hl 0 rfl) ?_
  refine lv_iload_n hx hb dL_time_3 rfl (lv_at hl 1 rfl) ?_
  have ct := k_cut_of (wc := [(w, .inr (7, [.ref st, .ref hi, .ref re, .ref fo, .ref bu, .ref pa])), (st, .inr (6, [.ref la, .ref me, .ref li, .int tol, .int su, .int fa])), (me, .inr (4, [.ref meA, .int 0]))]) (wr := [(out, .inl (KL, 1, .inr (.inl ofn)))]) (tc := []) hG hS hA hK hP hD [0, 1, 2] [3] [] rfl rfl (by decide) (by decide) (by decide) rfl
  refine k_endXi (EX := fun E => E = "java/lang/IndexOutOfBoundsException") (As := [.ref w, .int i]) ct (k_xrunV (As := [.int i]) (rest := [.int 0, .ref out]) S0 Lv_L_36 rfl (ci := 7) (q0 := 0) rfl rfl ct (c_W_time l hst D w st hi re fo bu pa la me li tol su fa meA i s.heap.size) hl.1 rfl (Nat.le_of_ble_eq_true rfl) rfl dL_time_4 ⟨⟨Nat.le_of_ble_eq_true rfl, Nat.le_of_ble_eq_true rfl⟩, Nat.le_of_ble_eq_true rfl, Nat.le_of_ble_eq_true rfl⟩) rfl rfl ?_ (fun r_1 _ H locs hw_2 hP hD hK hS => ?_)
  · intro E ce q9 H locs hE hP hD hS hq9 hv9 hcl9
    try dsimp only at hE
    have hP : va_P D vwCl [(out, .inl (KL, 1, .inr (.inl ofn))), (w, .inr (7, [.ref st, .ref hi, .ref re, .ref fo, .ref bu, .ref pa])), (st, .inr (6, [.ref la, .ref me, .ref li, .int tol, .int su, .int fa])), (me, .inr (4, [.ref meA, .int 0]))] H := hP
    have hD : va_D A [(out, .inl (KL, 1, .inr (.inl ofn))), (w, .inr (7, [.ref st, .ref hi, .ref re, .ref fo, .ref bu, .ref pa])), (st, .inr (6, [.ref la, .ref me, .ref li, .int tol, .int su, .int fa])), (me, .inr (4, [.ref meA, .int 0]))] := hD
    subst hE
    refine vx_catch hown [] ⟨0, 9, 12, 18⟩ [] (by rw [htab]; rfl) (fun z9 h9 => absurd h9 List.not_mem_nil) (by decide) (by decide) (ht _ lc_L_18) (va_Nw.use rfl (hG.1 _ (List.mem_of_getElem? (i := 486) rfl) rfl)) hq9 hv9 hcl9 ?_
    refine lv_astore_n (lv' := [(3, .ref q9), (0, .ref w), (1, .int i), (2, .ref out)]) hx hb dL_time_12 rfl hl (by decide) rfl (fun ls hl => ?_)
    refine lv_iconst (v := 1) hx hb dL_time_13 (by decide) ?_
    have hP9 : va_P D vwCl [(out, .inl (KL, 1, .inr (.inl ofn)))] H := hP.sub [0] rfl
    have hD9 : va_D A [(out, .inl (KL, 1, .inr (.inl ofn)))] := hD.sub [0] (by decide) rfl
    have hK9 : va_K D vwCl [] s := hK.sub [] rfl
    exact W.iret (v := 1) hx hb hr (fun t ht9 hW9 => ⟨⟨1, ofn, rfl, by rfl, ⟨by rw [ht9]; exact hP9, va_K.moved hW9.alike hK9, hD9⟩⟩, hS.F ht9⟩) hS.2.2 dL_time_14
  have hK : va_K D vwCl [(KL, .long)] s := hK
  have hP : va_P D vwCl [(out, .inl (KL, 1, .inr (.inl ofn))), (w, .inr (7, [.ref st, .ref hi, .ref re, .ref fo, .ref bu, .ref pa])), (st, .inr (6, [.ref la, .ref me, .ref li, .int tol, .int su, .int fa])), (me, .inr (4, [.ref meA, .int 0]))] H := hP
  have hD : va_D A [(out, .inl (KL, 1, .inr (.inl ofn))), (w, .inr (7, [.ref st, .ref hi, .ref re, .ref fo, .ref bu, .ref pa])), (st, .inr (6, [.ref la, .ref me, .ref li, .int tol, .int su, .int fa])), (me, .inr (4, [.ref meA, .int 0]))] := hD
  exact hw_2.elim
set_option maxHeartbeats 4000000 in
set_option maxRecDepth 100000 in
theorem c_L_nearest (l : Launch) (hst : l.stackTraces = false) (D : va_G) (w : Nat) (st : Nat) (hi : Nat) (re : Nat) (fo : Nat) (bu : Nat) (pa : Nat) (la : Nat) (me : Nat) (li : Nat) (tol : Int32) (su : Int32) (fa : Int32) (meA : Nat) (i : Int32) (out : Nat) (KL : ClassId) (ofn : Nat → Int64) (sz : Nat) : k_Wi (S := Nat → Int64) l D yL_nearest cL_nearest 4 (some .int) [(0, 9, 12, 18)] 7 1 6 103 [.ref w, .int i, .ref out] [(w, .inr (7, [.ref st, .ref hi, .ref re, .ref fo, .ref bu, .ref pa])), (st, .inr (6, [.ref la, .ref me, .ref li, .int tol, .int su, .int fa])), (me, .inr (4, [.ref meA, .int 0])), (out, .inl (KL, 1, .inr (.inl ofn)))] [(KL, .long)] (fun (r : Int32) (og : Nat → Int64) => r = 1) (fun og => [(out, .inl (KL, 1, .inr (.inl og)))]) (fun og => []) sz := by
  refine va_MetW (cc := cL_nearest) (maxL := 4) (ret := (some .int)) (hh := [(0, 9, 12, 18)]) (by decide) rfl ?_
  intro p e s m args below meth c s₁ B hml hv
  obtain ⟨rfl, hsz, hP, hK, hD0, hG⟩ := hv
  have hx := B.exec
  have hb := B.bytes
  have hr := B.returns
  have ht : ∀ v9 ∈ wsA, v9.before ([.ref w, .int i, .ref out] : List Value).toArray s = true := fun v9 h9 => atoms_spec (ws := Cond.codeWith yL_nearest cL_nearest 4 (some .int) [(0, 9, 12, 18)] :: wsA) B.pre v9 (List.mem_cons_of_mem _ h9)
  have htab : c.exceptionTable.toList = tableOf [(0, 9, 12, 18)] := vx_table (x := yL_nearest) B (atoms_spec (ws := Cond.codeWith yL_nearest cL_nearest 4 (some .int) [(0, 9, 12, 18)] :: wsA) B.pre _ List.mem_cons_self)
  have hown : s.vm.findClass RL = some m.cls := findClass_of_methodNamed B.named
  have S0 : k_C p s m ([.ref w, .int i, .ref out] : List Value).toArray c cL_nearest 4 RL := ⟨hx, hb, hml, hown, ht⟩
  have hlocks := B.notSynchronized
  subst hsz
  have hD := hD0.self (sz := s.heap.size)
  generalize hAe : va_A [(w, .inr (7, [.ref st, .ref hi, .ref re, .ref fo, .ref bu, .ref pa])), (st, .inr (6, [.ref la, .ref me, .ref li, .int tol, .int su, .int fa])), (me, .inr (4, [.ref meA, .int 0])), (out, .inl (KL, 1, .inr (.inl ofn)))] s.heap.size = A at hD hG ⊢
  have hA : ∀ q : Nat, s.heap.size ≤ q → A q := fun q h => by rw [← hAe]; exact Or.inr h
  have hS : va_S A s.heap s.heap [] := va_S.rf
  have hl := lv_entry ([.ref w, .int i, .ref out]) (n := 4) (Nat.le_of_ble_eq_true rfl)
  rw [lg_entry_eq]
  generalize (lg_sl ([.ref w, .int i, .ref out]) ++ List.replicate (4 - (lg_sl ([.ref w, .int i, .ref out])).length) Slot.unset).toArray = ls at hl ⊢
  have hl : lv_has ls 4 [(0, .ref w), (1, .int i), (2, .ref out)] := hl
  have hP : va_P D vwCl [(w, .inr (7, [.ref st, .ref hi, .ref re, .ref fo, .ref bu, .ref pa])), (st, .inr (6, [.ref la, .ref me, .ref li, .int tol, .int su, .int fa])), (me, .inr (4, [.ref meA, .int 0])), (out, .inl (KL, 1, .inr (.inl ofn)))] s.heap := hP
  refine lv_aload_n hx hb dL_nearest_0 rfl (lv_at hl 2 rfl) ?_
  refine lv_iconst (v := 0) hx hb dL_nearest_1 (by decide) ?_
  refine lv_aload_n hx hb dL_nearest_2 rfl (lv_at hl 0 rfl) ?_
  refine lv_iload_n hx hb dL_nearest_3 rfl (lv_at hl 1 rfl) ?_
  have ct := k_cut_of (wc := [(w, .inr (7, [.ref st, .ref hi, .ref re, .ref fo, .ref bu, .ref pa])), (st, .inr (6, [.ref la, .ref me, .ref li, .int tol, .int su, .int fa])), (me, .inr (4, [.ref meA, .int 0]))]) (wr := [(out, .inl (KL, 1, .inr (.inl ofn)))]) (tc := []) hG hS hA hK hP hD [0, 1, 2] [3] [] rfl rfl (by decide) (by decide) (by decide) rfl
  refine k_endXi (EX := fun E => E = "java/lang/IndexOutOfBoundsException") (As := [.ref w, .int i]) ct (k_xrunV (As := [.int i]) (rest := [.int 0, .ref out]) S0 Lv_L_45 rfl (ci := 7) (q0 := 0) rfl rfl ct (c_W_nearest l hst D w st hi re fo bu pa la me li tol su fa meA i s.heap.size) hl.1 rfl (Nat.le_of_ble_eq_true rfl) rfl dL_nearest_4 ⟨⟨Nat.le_of_ble_eq_true rfl, Nat.le_of_ble_eq_true rfl⟩, Nat.le_of_ble_eq_true rfl, Nat.le_of_ble_eq_true rfl⟩) rfl rfl ?_ (fun r_1 _ H locs hw_2 hP hD hK hS => ?_)
  · intro E ce q9 H locs hE hP hD hS hq9 hv9 hcl9
    try dsimp only at hE
    have hP : va_P D vwCl [(out, .inl (KL, 1, .inr (.inl ofn))), (w, .inr (7, [.ref st, .ref hi, .ref re, .ref fo, .ref bu, .ref pa])), (st, .inr (6, [.ref la, .ref me, .ref li, .int tol, .int su, .int fa])), (me, .inr (4, [.ref meA, .int 0]))] H := hP
    have hD : va_D A [(out, .inl (KL, 1, .inr (.inl ofn))), (w, .inr (7, [.ref st, .ref hi, .ref re, .ref fo, .ref bu, .ref pa])), (st, .inr (6, [.ref la, .ref me, .ref li, .int tol, .int su, .int fa])), (me, .inr (4, [.ref meA, .int 0]))] := hD
    subst hE
    refine vx_catch hown [] ⟨0, 9, 12, 18⟩ [] (by rw [htab]; rfl) (fun z9 h9 => absurd h9 List.not_mem_nil) (by decide) (by decide) (ht _ lc_L_18) (va_Nw.use rfl (hG.1 _ (List.mem_of_getElem? (i := 486) rfl) rfl)) hq9 hv9 hcl9 ?_
    refine lv_astore_n (lv' := [(3, .ref q9), (0, .ref w), (1, .int i), (2, .ref out)]) hx hb dL_nearest_12 rfl hl (by decide) rfl (fun ls hl => ?_)
    refine lv_iconst (v := 1) hx hb dL_nearest_13 (by decide) ?_
    have hP9 : va_P D vwCl [(out, .inl (KL, 1, .inr (.inl ofn)))] H := hP.sub [0] rfl
    have hD9 : va_D A [(out, .inl (KL, 1, .inr (.inl ofn)))] := hD.sub [0] (by decide) rfl
    have hK9 : va_K D vwCl [] s := hK.sub [] rfl
    exact W.iret (v := 1) hx hb hr (fun t ht9 hW9 => ⟨⟨1, ofn, rfl, by rfl, ⟨by rw [ht9]; exact hP9, va_K.moved hW9.alike hK9, hD9⟩⟩, hS.F ht9⟩) hS.2.2 dL_nearest_14
  have hK : va_K D vwCl [(KL, .long)] s := hK
  have hP : va_P D vwCl [(out, .inl (KL, 1, .inr (.inl ofn))), (w, .inr (7, [.ref st, .ref hi, .ref re, .ref fo, .ref bu, .ref pa])), (st, .inr (6, [.ref la, .ref me, .ref li, .int tol, .int su, .int fa])), (me, .inr (4, [.ref meA, .int 0]))] H := hP
  have hD : va_D A [(out, .inl (KL, 1, .inr (.inl ofn))), (w, .inr (7, [.ref st, .ref hi, .ref re, .ref fo, .ref bu, .ref pa])), (st, .inr (6, [.ref la, .ref me, .ref li, .int tol, .int su, .int fa])), (me, .inr (4, [.ref meA, .int 0]))] := hD
  exact hw_2.elim
set_option maxHeartbeats 4000000 in
set_option maxRecDepth 100000 in
theorem c_L_code (l : Launch) (hst : l.stackTraces = false) (D : va_G) (w : Nat) (st : Nat) (hi : Nat) (re : Nat) (fo : Nat) (bu : Nat) (pa : Nat) (la : Nat) (me : Nat) (li : Nat) (tol : Int32) (su : Int32) (fa : Int32) (ln : Nat) (ll : Nat) (lc : Nat) (lnA : Nat) (i : Int32) (out : Nat) (KL : ClassId) (ofn : Nat → Int64) (sz : Nat) : k_Wi (S := Nat → Int64) l D yL_code cL_code 4 (some .int) [(0, 9, 12, 18)] 8 1 6 124 [.ref w, .int i, .ref out] [(w, .inr (7, [.ref st, .ref hi, .ref re, .ref fo, .ref bu, .ref pa])), (st, .inr (6, [.ref la, .ref me, .ref li, .int tol, .int su, .int fa])), (li, .inr (0, [.ref ln, .ref ll, .ref lc])), (ln, .inr (4, [.ref lnA, .int 0])), (out, .inl (KL, 1, .inr (.inl ofn)))] [(KL, .long)] (fun (r : Int32) (og : Nat → Int64) => r = 1) (fun og => [(out, .inl (KL, 1, .inr (.inl og)))]) (fun og => []) sz := by
  refine va_MetW (cc := cL_code) (maxL := 4) (ret := (some .int)) (hh := [(0, 9, 12, 18)]) (by decide) rfl ?_
  intro p e s m args below meth c s₁ B hml hv
  obtain ⟨rfl, hsz, hP, hK, hD0, hG⟩ := hv
  have hx := B.exec
  have hb := B.bytes
  have hr := B.returns
  have ht : ∀ v9 ∈ wsA, v9.before ([.ref w, .int i, .ref out] : List Value).toArray s = true := fun v9 h9 => atoms_spec (ws := Cond.codeWith yL_code cL_code 4 (some .int) [(0, 9, 12, 18)] :: wsA) B.pre v9 (List.mem_cons_of_mem _ h9)
  have htab : c.exceptionTable.toList = tableOf [(0, 9, 12, 18)] := vx_table (x := yL_code) B (atoms_spec (ws := Cond.codeWith yL_code cL_code 4 (some .int) [(0, 9, 12, 18)] :: wsA) B.pre _ List.mem_cons_self)
  have hown : s.vm.findClass RL = some m.cls := findClass_of_methodNamed B.named
  have S0 : k_C p s m ([.ref w, .int i, .ref out] : List Value).toArray c cL_code 4 RL := ⟨hx, hb, hml, hown, ht⟩
  have hlocks := B.notSynchronized
  subst hsz
  have hD := hD0.self (sz := s.heap.size)
  generalize hAe : va_A [(w, .inr (7, [.ref st, .ref hi, .ref re, .ref fo, .ref bu, .ref pa])), (st, .inr (6, [.ref la, .ref me, .ref li, .int tol, .int su, .int fa])), (li, .inr (0, [.ref ln, .ref ll, .ref lc])), (ln, .inr (4, [.ref lnA, .int 0])), (out, .inl (KL, 1, .inr (.inl ofn)))] s.heap.size = A at hD hG ⊢
  have hA : ∀ q : Nat, s.heap.size ≤ q → A q := fun q h => by rw [← hAe]; exact Or.inr h
  have hS : va_S A s.heap s.heap [] := va_S.rf
  have hl := lv_entry ([.ref w, .int i, .ref out]) (n := 4) (Nat.le_of_ble_eq_true rfl)
  rw [lg_entry_eq]
  generalize (lg_sl ([.ref w, .int i, .ref out]) ++ List.replicate (4 - (lg_sl ([.ref w, .int i, .ref out])).length) Slot.unset).toArray = ls at hl ⊢
  have hl : lv_has ls 4 [(0, .ref w), (1, .int i), (2, .ref out)] := hl
  have hP : va_P D vwCl [(w, .inr (7, [.ref st, .ref hi, .ref re, .ref fo, .ref bu, .ref pa])), (st, .inr (6, [.ref la, .ref me, .ref li, .int tol, .int su, .int fa])), (li, .inr (0, [.ref ln, .ref ll, .ref lc])), (ln, .inr (4, [.ref lnA, .int 0])), (out, .inl (KL, 1, .inr (.inl ofn)))] s.heap := hP
  refine lv_aload_n hx hb dL_code_0 rfl (lv_at hl 2 rfl) ?_
  refine lv_iconst (v := 0) hx hb dL_code_1 (by decide) ?_
  refine lv_aload_n hx hb dL_code_2 rfl (lv_at hl 0 rfl) ?_
  refine lv_iload_n hx hb dL_code_3 rfl (lv_at hl 1 rfl) ?_
  have ct := k_cut_of (wc := [(w, .inr (7, [.ref st, .ref hi, .ref re, .ref fo, .ref bu, .ref pa])), (st, .inr (6, [.ref la, .ref me, .ref li, .int tol, .int su, .int fa])), (li, .inr (0, [.ref ln, .ref ll, .ref lc])), (ln, .inr (4, [.ref lnA, .int 0]))]) (wr := [(out, .inl (KL, 1, .inr (.inl ofn)))]) (tc := []) hG hS hA hK hP hD [0, 1, 2, 3] [4] [] rfl rfl (by decide) (by decide) (by decide) rfl
  refine k_endXi (EX := fun E => E = "java/lang/IndexOutOfBoundsException") (As := [.ref w, .int i]) ct (k_xrunV (As := [.int i]) (rest := [.int 0, .ref out]) S0 Lv_L_48 rfl (ci := 7) (q0 := 0) rfl rfl ct (c_W_code l hst D w st hi re fo bu pa la me li tol su fa ln ll lc lnA i s.heap.size) hl.1 rfl (Nat.le_of_ble_eq_true rfl) rfl dL_code_4 ⟨⟨Nat.le_of_ble_eq_true rfl, Nat.le_of_ble_eq_true rfl⟩, Nat.le_of_ble_eq_true rfl, Nat.le_of_ble_eq_true rfl⟩) rfl rfl ?_ (fun r_1 _ H locs hw_2 hP hD hK hS => ?_)
  · intro E ce q9 H locs hE hP hD hS hq9 hv9 hcl9
    try dsimp only at hE
    have hP : va_P D vwCl [(out, .inl (KL, 1, .inr (.inl ofn))), (w, .inr (7, [.ref st, .ref hi, .ref re, .ref fo, .ref bu, .ref pa])), (st, .inr (6, [.ref la, .ref me, .ref li, .int tol, .int su, .int fa])), (li, .inr (0, [.ref ln, .ref ll, .ref lc])), (ln, .inr (4, [.ref lnA, .int 0]))] H := hP
    have hD : va_D A [(out, .inl (KL, 1, .inr (.inl ofn))), (w, .inr (7, [.ref st, .ref hi, .ref re, .ref fo, .ref bu, .ref pa])), (st, .inr (6, [.ref la, .ref me, .ref li, .int tol, .int su, .int fa])), (li, .inr (0, [.ref ln, .ref ll, .ref lc])), (ln, .inr (4, [.ref lnA, .int 0]))] := hD
    subst hE
    refine vx_catch hown [] ⟨0, 9, 12, 18⟩ [] (by rw [htab]; rfl) (fun z9 h9 => absurd h9 List.not_mem_nil) (by decide) (by decide) (ht _ lc_L_18) (va_Nw.use rfl (hG.1 _ (List.mem_of_getElem? (i := 486) rfl) rfl)) hq9 hv9 hcl9 ?_
    refine lv_astore_n (lv' := [(3, .ref q9), (0, .ref w), (1, .int i), (2, .ref out)]) hx hb dL_code_12 rfl hl (by decide) rfl (fun ls hl => ?_)
    refine lv_iconst (v := 1) hx hb dL_code_13 (by decide) ?_
    have hP9 : va_P D vwCl [(out, .inl (KL, 1, .inr (.inl ofn)))] H := hP.sub [0] rfl
    have hD9 : va_D A [(out, .inl (KL, 1, .inr (.inl ofn)))] := hD.sub [0] (by decide) rfl
    have hK9 : va_K D vwCl [] s := hK.sub [] rfl
    exact W.iret (v := 1) hx hb hr (fun t ht9 hW9 => ⟨⟨1, ofn, rfl, by rfl, ⟨by rw [ht9]; exact hP9, va_K.moved hW9.alike hK9, hD9⟩⟩, hS.F ht9⟩) hS.2.2 dL_code_14
  have hK : va_K D vwCl [(KL, .long)] s := hK
  have hP : va_P D vwCl [(out, .inl (KL, 1, .inr (.inl ofn))), (w, .inr (7, [.ref st, .ref hi, .ref re, .ref fo, .ref bu, .ref pa])), (st, .inr (6, [.ref la, .ref me, .ref li, .int tol, .int su, .int fa])), (li, .inr (0, [.ref ln, .ref ll, .ref lc])), (ln, .inr (4, [.ref lnA, .int 0]))] H := hP
  have hD : va_D A [(out, .inl (KL, 1, .inr (.inl ofn))), (w, .inr (7, [.ref st, .ref hi, .ref re, .ref fo, .ref bu, .ref pa])), (st, .inr (6, [.ref la, .ref me, .ref li, .int tol, .int su, .int fa])), (li, .inr (0, [.ref ln, .ref ll, .ref lc])), (ln, .inr (4, [.ref lnA, .int 0]))] := hD
  exact hw_2.elim
set_option maxHeartbeats 4000000 in
set_option maxRecDepth 100000 in
theorem c_L_codeLength (l : Launch) (hst : l.stackTraces = false) (D : va_G) (w : Nat) (st : Nat) (hi : Nat) (re : Nat) (fo : Nat) (bu : Nat) (pa : Nat) (la : Nat) (me : Nat) (li : Nat) (tol : Int32) (su : Int32) (fa : Int32) (ln : Nat) (ll : Nat) (lc : Nat) (lnA : Nat) (i : Int32) (out : Nat) (KL : ClassId) (ofn : Nat → Int64) (sz : Nat) : k_Wi (S := Nat → Int64) l D yL_codeLength cL_codeLength 4 (some .int) [(0, 9, 12, 18)] 8 1 6 124 [.ref w, .int i, .ref out] [(w, .inr (7, [.ref st, .ref hi, .ref re, .ref fo, .ref bu, .ref pa])), (st, .inr (6, [.ref la, .ref me, .ref li, .int tol, .int su, .int fa])), (li, .inr (0, [.ref ln, .ref ll, .ref lc])), (ln, .inr (4, [.ref lnA, .int 0])), (out, .inl (KL, 1, .inr (.inl ofn)))] [(KL, .long)] (fun (r : Int32) (og : Nat → Int64) => r = 1) (fun og => [(out, .inl (KL, 1, .inr (.inl og)))]) (fun og => []) sz := by
  refine va_MetW (cc := cL_codeLength) (maxL := 4) (ret := (some .int)) (hh := [(0, 9, 12, 18)]) (by decide) rfl ?_
  intro p e s m args below meth c s₁ B hml hv
  obtain ⟨rfl, hsz, hP, hK, hD0, hG⟩ := hv
  have hx := B.exec
  have hb := B.bytes
  have hr := B.returns
  have ht : ∀ v9 ∈ wsA, v9.before ([.ref w, .int i, .ref out] : List Value).toArray s = true := fun v9 h9 => atoms_spec (ws := Cond.codeWith yL_codeLength cL_codeLength 4 (some .int) [(0, 9, 12, 18)] :: wsA) B.pre v9 (List.mem_cons_of_mem _ h9)
  have htab : c.exceptionTable.toList = tableOf [(0, 9, 12, 18)] := vx_table (x := yL_codeLength) B (atoms_spec (ws := Cond.codeWith yL_codeLength cL_codeLength 4 (some .int) [(0, 9, 12, 18)] :: wsA) B.pre _ List.mem_cons_self)
  have hown : s.vm.findClass RL = some m.cls := findClass_of_methodNamed B.named
  have S0 : k_C p s m ([.ref w, .int i, .ref out] : List Value).toArray c cL_codeLength 4 RL := ⟨hx, hb, hml, hown, ht⟩
  have hlocks := B.notSynchronized
  subst hsz
  have hD := hD0.self (sz := s.heap.size)
  generalize hAe : va_A [(w, .inr (7, [.ref st, .ref hi, .ref re, .ref fo, .ref bu, .ref pa])), (st, .inr (6, [.ref la, .ref me, .ref li, .int tol, .int su, .int fa])), (li, .inr (0, [.ref ln, .ref ll, .ref lc])), (ln, .inr (4, [.ref lnA, .int 0])), (out, .inl (KL, 1, .inr (.inl ofn)))] s.heap.size = A at hD hG ⊢
  have hA : ∀ q : Nat, s.heap.size ≤ q → A q := fun q h => by rw [← hAe]; exact Or.inr h
  have hS : va_S A s.heap s.heap [] := va_S.rf
  have hl := lv_entry ([.ref w, .int i, .ref out]) (n := 4) (Nat.le_of_ble_eq_true rfl)
  rw [lg_entry_eq]
  generalize (lg_sl ([.ref w, .int i, .ref out]) ++ List.replicate (4 - (lg_sl ([.ref w, .int i, .ref out])).length) Slot.unset).toArray = ls at hl ⊢
  have hl : lv_has ls 4 [(0, .ref w), (1, .int i), (2, .ref out)] := hl
  have hP : va_P D vwCl [(w, .inr (7, [.ref st, .ref hi, .ref re, .ref fo, .ref bu, .ref pa])), (st, .inr (6, [.ref la, .ref me, .ref li, .int tol, .int su, .int fa])), (li, .inr (0, [.ref ln, .ref ll, .ref lc])), (ln, .inr (4, [.ref lnA, .int 0])), (out, .inl (KL, 1, .inr (.inl ofn)))] s.heap := hP
  refine lv_aload_n hx hb dL_codeLength_0 rfl (lv_at hl 2 rfl) ?_
  refine lv_iconst (v := 0) hx hb dL_codeLength_1 (by decide) ?_
  refine lv_aload_n hx hb dL_codeLength_2 rfl (lv_at hl 0 rfl) ?_
  refine lv_iload_n hx hb dL_codeLength_3 rfl (lv_at hl 1 rfl) ?_
  have ct := k_cut_of (wc := [(w, .inr (7, [.ref st, .ref hi, .ref re, .ref fo, .ref bu, .ref pa])), (st, .inr (6, [.ref la, .ref me, .ref li, .int tol, .int su, .int fa])), (li, .inr (0, [.ref ln, .ref ll, .ref lc])), (ln, .inr (4, [.ref lnA, .int 0]))]) (wr := [(out, .inl (KL, 1, .inr (.inl ofn)))]) (tc := []) hG hS hA hK hP hD [0, 1, 2, 3] [4] [] rfl rfl (by decide) (by decide) (by decide) rfl
  refine k_endXi (EX := fun E => E = "java/lang/IndexOutOfBoundsException") (As := [.ref w, .int i]) ct (k_xrunV (As := [.int i]) (rest := [.int 0, .ref out]) S0 Lv_L_51 rfl (ci := 7) (q0 := 0) rfl rfl ct (c_W_codeLength l hst D w st hi re fo bu pa la me li tol su fa ln ll lc lnA i s.heap.size) hl.1 rfl (Nat.le_of_ble_eq_true rfl) rfl dL_codeLength_4 ⟨⟨Nat.le_of_ble_eq_true rfl, Nat.le_of_ble_eq_true rfl⟩, Nat.le_of_ble_eq_true rfl, Nat.le_of_ble_eq_true rfl⟩) rfl rfl ?_ (fun r_1 _ H locs hw_2 hP hD hK hS => ?_)
  · intro E ce q9 H locs hE hP hD hS hq9 hv9 hcl9
    try dsimp only at hE
    have hP : va_P D vwCl [(out, .inl (KL, 1, .inr (.inl ofn))), (w, .inr (7, [.ref st, .ref hi, .ref re, .ref fo, .ref bu, .ref pa])), (st, .inr (6, [.ref la, .ref me, .ref li, .int tol, .int su, .int fa])), (li, .inr (0, [.ref ln, .ref ll, .ref lc])), (ln, .inr (4, [.ref lnA, .int 0]))] H := hP
    have hD : va_D A [(out, .inl (KL, 1, .inr (.inl ofn))), (w, .inr (7, [.ref st, .ref hi, .ref re, .ref fo, .ref bu, .ref pa])), (st, .inr (6, [.ref la, .ref me, .ref li, .int tol, .int su, .int fa])), (li, .inr (0, [.ref ln, .ref ll, .ref lc])), (ln, .inr (4, [.ref lnA, .int 0]))] := hD
    subst hE
    refine vx_catch hown [] ⟨0, 9, 12, 18⟩ [] (by rw [htab]; rfl) (fun z9 h9 => absurd h9 List.not_mem_nil) (by decide) (by decide) (ht _ lc_L_18) (va_Nw.use rfl (hG.1 _ (List.mem_of_getElem? (i := 486) rfl) rfl)) hq9 hv9 hcl9 ?_
    refine lv_astore_n (lv' := [(3, .ref q9), (0, .ref w), (1, .int i), (2, .ref out)]) hx hb dL_codeLength_12 rfl hl (by decide) rfl (fun ls hl => ?_)
    refine lv_iconst (v := 1) hx hb dL_codeLength_13 (by decide) ?_
    have hP9 : va_P D vwCl [(out, .inl (KL, 1, .inr (.inl ofn)))] H := hP.sub [0] rfl
    have hD9 : va_D A [(out, .inl (KL, 1, .inr (.inl ofn)))] := hD.sub [0] (by decide) rfl
    have hK9 : va_K D vwCl [] s := hK.sub [] rfl
    exact W.iret (v := 1) hx hb hr (fun t ht9 hW9 => ⟨⟨1, ofn, rfl, by rfl, ⟨by rw [ht9]; exact hP9, va_K.moved hW9.alike hK9, hD9⟩⟩, hS.F ht9⟩) hS.2.2 dL_codeLength_14
  have hK : va_K D vwCl [(KL, .long)] s := hK
  have hP : va_P D vwCl [(out, .inl (KL, 1, .inr (.inl ofn))), (w, .inr (7, [.ref st, .ref hi, .ref re, .ref fo, .ref bu, .ref pa])), (st, .inr (6, [.ref la, .ref me, .ref li, .int tol, .int su, .int fa])), (li, .inr (0, [.ref ln, .ref ll, .ref lc])), (ln, .inr (4, [.ref lnA, .int 0]))] H := hP
  have hD : va_D A [(out, .inl (KL, 1, .inr (.inl ofn))), (w, .inr (7, [.ref st, .ref hi, .ref re, .ref fo, .ref bu, .ref pa])), (st, .inr (6, [.ref la, .ref me, .ref li, .int tol, .int su, .int fa])), (li, .inr (0, [.ref ln, .ref ll, .ref lc])), (ln, .inr (4, [.ref lnA, .int 0]))] := hD
  exact hw_2.elim
set_option maxHeartbeats 4000000 in
set_option maxRecDepth 100000 in
theorem c_L_count (l : Launch) (hst : l.stackTraces = false) (D : va_G) (w : Nat) (st : Nat) (hi : Nat) (re : Nat) (fo : Nat) (bu : Nat) (pa : Nat) (la : Nat) (me : Nat) (li : Nat) (tol : Int32) (su : Int32) (fa : Int32) (ln : Nat) (ll : Nat) (lc : Nat) (lnA : Nat) (i : Int32) (out : Nat) (KL : ClassId) (ofn : Nat → Int64) (sz : Nat) : k_Wi (S := Nat → Int64) l D yL_count cL_count 4 (some .int) [(0, 9, 12, 18)] 8 1 6 124 [.ref w, .int i, .ref out] [(w, .inr (7, [.ref st, .ref hi, .ref re, .ref fo, .ref bu, .ref pa])), (st, .inr (6, [.ref la, .ref me, .ref li, .int tol, .int su, .int fa])), (li, .inr (0, [.ref ln, .ref ll, .ref lc])), (ln, .inr (4, [.ref lnA, .int 0])), (out, .inl (KL, 1, .inr (.inl ofn)))] [(KL, .long)] (fun (r : Int32) (og : Nat → Int64) => r = 1) (fun og => [(out, .inl (KL, 1, .inr (.inl og)))]) (fun og => []) sz := by
  refine va_MetW (cc := cL_count) (maxL := 4) (ret := (some .int)) (hh := [(0, 9, 12, 18)]) (by decide) rfl ?_
  intro p e s m args below meth c s₁ B hml hv
  obtain ⟨rfl, hsz, hP, hK, hD0, hG⟩ := hv
  have hx := B.exec
  have hb := B.bytes
  have hr := B.returns
  have ht : ∀ v9 ∈ wsA, v9.before ([.ref w, .int i, .ref out] : List Value).toArray s = true := fun v9 h9 => atoms_spec (ws := Cond.codeWith yL_count cL_count 4 (some .int) [(0, 9, 12, 18)] :: wsA) B.pre v9 (List.mem_cons_of_mem _ h9)
  have htab : c.exceptionTable.toList = tableOf [(0, 9, 12, 18)] := vx_table (x := yL_count) B (atoms_spec (ws := Cond.codeWith yL_count cL_count 4 (some .int) [(0, 9, 12, 18)] :: wsA) B.pre _ List.mem_cons_self)
  have hown : s.vm.findClass RL = some m.cls := findClass_of_methodNamed B.named
  have S0 : k_C p s m ([.ref w, .int i, .ref out] : List Value).toArray c cL_count 4 RL := ⟨hx, hb, hml, hown, ht⟩
  have hlocks := B.notSynchronized
  subst hsz
  have hD := hD0.self (sz := s.heap.size)
  generalize hAe : va_A [(w, .inr (7, [.ref st, .ref hi, .ref re, .ref fo, .ref bu, .ref pa])), (st, .inr (6, [.ref la, .ref me, .ref li, .int tol, .int su, .int fa])), (li, .inr (0, [.ref ln, .ref ll, .ref lc])), (ln, .inr (4, [.ref lnA, .int 0])), (out, .inl (KL, 1, .inr (.inl ofn)))] s.heap.size = A at hD hG ⊢
  have hA : ∀ q : Nat, s.heap.size ≤ q → A q := fun q h => by rw [← hAe]; exact Or.inr h
  have hS : va_S A s.heap s.heap [] := va_S.rf
  have hl := lv_entry ([.ref w, .int i, .ref out]) (n := 4) (Nat.le_of_ble_eq_true rfl)
  rw [lg_entry_eq]
  generalize (lg_sl ([.ref w, .int i, .ref out]) ++ List.replicate (4 - (lg_sl ([.ref w, .int i, .ref out])).length) Slot.unset).toArray = ls at hl ⊢
  have hl : lv_has ls 4 [(0, .ref w), (1, .int i), (2, .ref out)] := hl
  have hP : va_P D vwCl [(w, .inr (7, [.ref st, .ref hi, .ref re, .ref fo, .ref bu, .ref pa])), (st, .inr (6, [.ref la, .ref me, .ref li, .int tol, .int su, .int fa])), (li, .inr (0, [.ref ln, .ref ll, .ref lc])), (ln, .inr (4, [.ref lnA, .int 0])), (out, .inl (KL, 1, .inr (.inl ofn)))] s.heap := hP
  refine lv_aload_n hx hb dL_count_0 rfl (lv_at hl 2 rfl) ?_
  refine lv_iconst (v := 0) hx hb dL_count_1 (by decide) ?_
  refine lv_aload_n hx hb dL_count_2 rfl (lv_at hl 0 rfl) ?_
  refine lv_iload_n hx hb dL_count_3 rfl (lv_at hl 1 rfl) ?_
  have ct := k_cut_of (wc := [(w, .inr (7, [.ref st, .ref hi, .ref re, .ref fo, .ref bu, .ref pa])), (st, .inr (6, [.ref la, .ref me, .ref li, .int tol, .int su, .int fa])), (li, .inr (0, [.ref ln, .ref ll, .ref lc])), (ln, .inr (4, [.ref lnA, .int 0]))]) (wr := [(out, .inl (KL, 1, .inr (.inl ofn)))]) (tc := []) hG hS hA hK hP hD [0, 1, 2, 3] [4] [] rfl rfl (by decide) (by decide) (by decide) rfl
  refine k_endXi (EX := fun E => E = "java/lang/IndexOutOfBoundsException") (As := [.ref w, .int i]) ct (k_xrunV (As := [.int i]) (rest := [.int 0, .ref out]) S0 Lv_L_54 rfl (ci := 7) (q0 := 0) rfl rfl ct (c_W_count l hst D w st hi re fo bu pa la me li tol su fa ln ll lc lnA i s.heap.size) hl.1 rfl (Nat.le_of_ble_eq_true rfl) rfl dL_count_4 ⟨⟨Nat.le_of_ble_eq_true rfl, Nat.le_of_ble_eq_true rfl⟩, Nat.le_of_ble_eq_true rfl, Nat.le_of_ble_eq_true rfl⟩) rfl rfl ?_ (fun r_1 _ H locs hw_2 hP hD hK hS => ?_)
  · intro E ce q9 H locs hE hP hD hS hq9 hv9 hcl9
    try dsimp only at hE
    have hP : va_P D vwCl [(out, .inl (KL, 1, .inr (.inl ofn))), (w, .inr (7, [.ref st, .ref hi, .ref re, .ref fo, .ref bu, .ref pa])), (st, .inr (6, [.ref la, .ref me, .ref li, .int tol, .int su, .int fa])), (li, .inr (0, [.ref ln, .ref ll, .ref lc])), (ln, .inr (4, [.ref lnA, .int 0]))] H := hP
    have hD : va_D A [(out, .inl (KL, 1, .inr (.inl ofn))), (w, .inr (7, [.ref st, .ref hi, .ref re, .ref fo, .ref bu, .ref pa])), (st, .inr (6, [.ref la, .ref me, .ref li, .int tol, .int su, .int fa])), (li, .inr (0, [.ref ln, .ref ll, .ref lc])), (ln, .inr (4, [.ref lnA, .int 0]))] := hD
    subst hE
    refine vx_catch hown [] ⟨0, 9, 12, 18⟩ [] (by rw [htab]; rfl) (fun z9 h9 => absurd h9 List.not_mem_nil) (by decide) (by decide) (ht _ lc_L_18) (va_Nw.use rfl (hG.1 _ (List.mem_of_getElem? (i := 486) rfl) rfl)) hq9 hv9 hcl9 ?_
    refine lv_astore_n (lv' := [(3, .ref q9), (0, .ref w), (1, .int i), (2, .ref out)]) hx hb dL_count_12 rfl hl (by decide) rfl (fun ls hl => ?_)
    refine lv_iconst (v := 1) hx hb dL_count_13 (by decide) ?_
    have hP9 : va_P D vwCl [(out, .inl (KL, 1, .inr (.inl ofn)))] H := hP.sub [0] rfl
    have hD9 : va_D A [(out, .inl (KL, 1, .inr (.inl ofn)))] := hD.sub [0] (by decide) rfl
    have hK9 : va_K D vwCl [] s := hK.sub [] rfl
    exact W.iret (v := 1) hx hb hr (fun t ht9 hW9 => ⟨⟨1, ofn, rfl, by rfl, ⟨by rw [ht9]; exact hP9, va_K.moved hW9.alike hK9, hD9⟩⟩, hS.F ht9⟩) hS.2.2 dL_count_14
  have hK : va_K D vwCl [(KL, .long)] s := hK
  have hP : va_P D vwCl [(out, .inl (KL, 1, .inr (.inl ofn))), (w, .inr (7, [.ref st, .ref hi, .ref re, .ref fo, .ref bu, .ref pa])), (st, .inr (6, [.ref la, .ref me, .ref li, .int tol, .int su, .int fa])), (li, .inr (0, [.ref ln, .ref ll, .ref lc])), (ln, .inr (4, [.ref lnA, .int 0]))] H := hP
  have hD : va_D A [(out, .inl (KL, 1, .inr (.inl ofn))), (w, .inr (7, [.ref st, .ref hi, .ref re, .ref fo, .ref bu, .ref pa])), (st, .inr (6, [.ref la, .ref me, .ref li, .int tol, .int su, .int fa])), (li, .inr (0, [.ref ln, .ref ll, .ref lc])), (ln, .inr (4, [.ref lnA, .int 0]))] := hD
  exact hw_2.elim
set_option maxHeartbeats 4000000 in
set_option maxRecDepth 100000 in
theorem c_L_greatestSmudge (l : Launch) (hst : l.stackTraces = false) (D : va_G) (w : Nat) (st : Nat) (hi : Nat) (re : Nat) (fo : Nat) (bu : Nat) (pa : Nat) (la : Nat) (me : Nat) (li : Nat) (tol : Int32) (su : Int32) (fa : Int32) (ld : Nat) (lz : Nat) (lzA : Nat) (i : Int32) (out : Nat) (KL : ClassId) (ofn : Nat → Int64) (sz : Nat) : k_Wi (S := Nat → Int64) l D yL_greatestSmudge cL_greatestSmudge 4 (some .int) [(0, 9, 12, 18)] 8 1 6 127 [.ref w, .int i, .ref out] [(w, .inr (7, [.ref st, .ref hi, .ref re, .ref fo, .ref bu, .ref pa])), (st, .inr (6, [.ref la, .ref me, .ref li, .int tol, .int su, .int fa])), (la, .inr (2, [.ref ld, .ref lz])), (lz, .inr (4, [.ref lzA, .int 0])), (out, .inl (KL, 1, .inr (.inl ofn)))] [(KL, .long)] (fun (r : Int32) (og : Nat → Int64) => r = 1) (fun og => [(out, .inl (KL, 1, .inr (.inl og)))]) (fun og => []) sz := by
  refine va_MetW (cc := cL_greatestSmudge) (maxL := 4) (ret := (some .int)) (hh := [(0, 9, 12, 18)]) (by decide) rfl ?_
  intro p e s m args below meth c s₁ B hml hv
  obtain ⟨rfl, hsz, hP, hK, hD0, hG⟩ := hv
  have hx := B.exec
  have hb := B.bytes
  have hr := B.returns
  have ht : ∀ v9 ∈ wsA, v9.before ([.ref w, .int i, .ref out] : List Value).toArray s = true := fun v9 h9 => atoms_spec (ws := Cond.codeWith yL_greatestSmudge cL_greatestSmudge 4 (some .int) [(0, 9, 12, 18)] :: wsA) B.pre v9 (List.mem_cons_of_mem _ h9)
  have htab : c.exceptionTable.toList = tableOf [(0, 9, 12, 18)] := vx_table (x := yL_greatestSmudge) B (atoms_spec (ws := Cond.codeWith yL_greatestSmudge cL_greatestSmudge 4 (some .int) [(0, 9, 12, 18)] :: wsA) B.pre _ List.mem_cons_self)
  have hown : s.vm.findClass RL = some m.cls := findClass_of_methodNamed B.named
  have S0 : k_C p s m ([.ref w, .int i, .ref out] : List Value).toArray c cL_greatestSmudge 4 RL := ⟨hx, hb, hml, hown, ht⟩
  have hlocks := B.notSynchronized
  subst hsz
  have hD := hD0.self (sz := s.heap.size)
  generalize hAe : va_A [(w, .inr (7, [.ref st, .ref hi, .ref re, .ref fo, .ref bu, .ref pa])), (st, .inr (6, [.ref la, .ref me, .ref li, .int tol, .int su, .int fa])), (la, .inr (2, [.ref ld, .ref lz])), (lz, .inr (4, [.ref lzA, .int 0])), (out, .inl (KL, 1, .inr (.inl ofn)))] s.heap.size = A at hD hG ⊢
  have hA : ∀ q : Nat, s.heap.size ≤ q → A q := fun q h => by rw [← hAe]; exact Or.inr h
  have hS : va_S A s.heap s.heap [] := va_S.rf
  have hl := lv_entry ([.ref w, .int i, .ref out]) (n := 4) (Nat.le_of_ble_eq_true rfl)
  rw [lg_entry_eq]
  generalize (lg_sl ([.ref w, .int i, .ref out]) ++ List.replicate (4 - (lg_sl ([.ref w, .int i, .ref out])).length) Slot.unset).toArray = ls at hl ⊢
  have hl : lv_has ls 4 [(0, .ref w), (1, .int i), (2, .ref out)] := hl
  have hP : va_P D vwCl [(w, .inr (7, [.ref st, .ref hi, .ref re, .ref fo, .ref bu, .ref pa])), (st, .inr (6, [.ref la, .ref me, .ref li, .int tol, .int su, .int fa])), (la, .inr (2, [.ref ld, .ref lz])), (lz, .inr (4, [.ref lzA, .int 0])), (out, .inl (KL, 1, .inr (.inl ofn)))] s.heap := hP
  refine lv_aload_n hx hb dL_greatestSmudge_0 rfl (lv_at hl 2 rfl) ?_
  refine lv_iconst (v := 0) hx hb dL_greatestSmudge_1 (by decide) ?_
  refine lv_aload_n hx hb dL_greatestSmudge_2 rfl (lv_at hl 0 rfl) ?_
  refine lv_iload_n hx hb dL_greatestSmudge_3 rfl (lv_at hl 1 rfl) ?_
  have ct := k_cut_of (wc := [(w, .inr (7, [.ref st, .ref hi, .ref re, .ref fo, .ref bu, .ref pa])), (st, .inr (6, [.ref la, .ref me, .ref li, .int tol, .int su, .int fa])), (la, .inr (2, [.ref ld, .ref lz])), (lz, .inr (4, [.ref lzA, .int 0]))]) (wr := [(out, .inl (KL, 1, .inr (.inl ofn)))]) (tc := []) hG hS hA hK hP hD [0, 1, 2, 3] [4] [] rfl rfl (by decide) (by decide) (by decide) rfl
  refine k_endXi (EX := fun E => E = "java/lang/IndexOutOfBoundsException") (As := [.ref w, .int i]) ct (k_xrunV (As := [.int i]) (rest := [.int 0, .ref out]) S0 Lv_L_60 rfl (ci := 7) (q0 := 0) rfl rfl ct (c_W_greatest l hst D w st hi re fo bu pa la me li tol su fa ld lz lzA i s.heap.size) hl.1 rfl (Nat.le_of_ble_eq_true rfl) rfl dL_greatestSmudge_4 ⟨⟨Nat.le_of_ble_eq_true rfl, Nat.le_of_ble_eq_true rfl⟩, Nat.le_of_ble_eq_true rfl, Nat.le_of_ble_eq_true rfl⟩) rfl rfl ?_ (fun r_1 _ H locs hw_2 hP hD hK hS => ?_)
  · intro E ce q9 H locs hE hP hD hS hq9 hv9 hcl9
    try dsimp only at hE
    have hP : va_P D vwCl [(out, .inl (KL, 1, .inr (.inl ofn))), (w, .inr (7, [.ref st, .ref hi, .ref re, .ref fo, .ref bu, .ref pa])), (st, .inr (6, [.ref la, .ref me, .ref li, .int tol, .int su, .int fa])), (la, .inr (2, [.ref ld, .ref lz])), (lz, .inr (4, [.ref lzA, .int 0]))] H := hP
    have hD : va_D A [(out, .inl (KL, 1, .inr (.inl ofn))), (w, .inr (7, [.ref st, .ref hi, .ref re, .ref fo, .ref bu, .ref pa])), (st, .inr (6, [.ref la, .ref me, .ref li, .int tol, .int su, .int fa])), (la, .inr (2, [.ref ld, .ref lz])), (lz, .inr (4, [.ref lzA, .int 0]))] := hD
    subst hE
    refine vx_catch hown [] ⟨0, 9, 12, 18⟩ [] (by rw [htab]; rfl) (fun z9 h9 => absurd h9 List.not_mem_nil) (by decide) (by decide) (ht _ lc_L_18) (va_Nw.use rfl (hG.1 _ (List.mem_of_getElem? (i := 486) rfl) rfl)) hq9 hv9 hcl9 ?_
    refine lv_astore_n (lv' := [(3, .ref q9), (0, .ref w), (1, .int i), (2, .ref out)]) hx hb dL_greatestSmudge_12 rfl hl (by decide) rfl (fun ls hl => ?_)
    refine lv_iconst (v := 1) hx hb dL_greatestSmudge_13 (by decide) ?_
    have hP9 : va_P D vwCl [(out, .inl (KL, 1, .inr (.inl ofn)))] H := hP.sub [0] rfl
    have hD9 : va_D A [(out, .inl (KL, 1, .inr (.inl ofn)))] := hD.sub [0] (by decide) rfl
    have hK9 : va_K D vwCl [] s := hK.sub [] rfl
    exact W.iret (v := 1) hx hb hr (fun t ht9 hW9 => ⟨⟨1, ofn, rfl, by rfl, ⟨by rw [ht9]; exact hP9, va_K.moved hW9.alike hK9, hD9⟩⟩, hS.F ht9⟩) hS.2.2 dL_greatestSmudge_14
  have hK : va_K D vwCl [(KL, .long)] s := hK
  have hP : va_P D vwCl [(out, .inl (KL, 1, .inr (.inl ofn))), (w, .inr (7, [.ref st, .ref hi, .ref re, .ref fo, .ref bu, .ref pa])), (st, .inr (6, [.ref la, .ref me, .ref li, .int tol, .int su, .int fa])), (la, .inr (2, [.ref ld, .ref lz])), (lz, .inr (4, [.ref lzA, .int 0]))] H := hP
  have hD : va_D A [(out, .inl (KL, 1, .inr (.inl ofn))), (w, .inr (7, [.ref st, .ref hi, .ref re, .ref fo, .ref bu, .ref pa])), (st, .inr (6, [.ref la, .ref me, .ref li, .int tol, .int su, .int fa])), (la, .inr (2, [.ref ld, .ref lz])), (lz, .inr (4, [.ref lzA, .int 0]))] := hD
  exact hw_2.elim
set_option maxHeartbeats 4000000 in
set_option maxRecDepth 100000 in
theorem c_L_draw (l : Launch) (hst : l.stackTraces = false) (D : va_G) (w : Nat) (st : Nat) (hi : Nat) (re : Nat) (fo : Nat) (bu : Nat) (pa : Nat) (la : Nat) (me : Nat) (li : Nat) (tol : Int32) (su : Int32) (fa : Int32) (ld : Nat) (lz : Nat) (lzA : Nat) (i : Int32) (j : Int32) (b : Int32) (out : Nat) (KL : ClassId) (ofn : Nat → Int64) (sz : Nat) : k_Wi (S := Nat → Int64) l D yL_draw cL_draw 6 (some .int) [(0, 12, 15, 13), (0, 12, 19, 31)] 8 1 6 127 [.ref w, .int i, .int j, .int b, .ref out] [(w, .inr (7, [.ref st, .ref hi, .ref re, .ref fo, .ref bu, .ref pa])), (st, .inr (6, [.ref la, .ref me, .ref li, .int tol, .int su, .int fa])), (la, .inr (2, [.ref ld, .ref lz])), (lz, .inr (4, [.ref lzA, .int 0])), (out, .inl (KL, 1, .inr (.inl ofn)))] [(KL, .long)] (fun (r : Int32) (og : Nat → Int64) => (k_per i j ∧ r = 2) ∨ (¬ k_per i j ∧ r = 1)) (fun og => [(out, .inl (KL, 1, .inr (.inl og)))]) (fun og => []) sz := by
  refine va_MetW (cc := cL_draw) (maxL := 6) (ret := (some .int)) (hh := [(0, 12, 15, 13), (0, 12, 19, 31)]) (by decide) rfl ?_
  intro p e s m args below meth c s₁ B hml hv
  obtain ⟨rfl, hsz, hP, hK, hD0, hG⟩ := hv
  have hx := B.exec
  have hb := B.bytes
  have hr := B.returns
  have ht : ∀ v9 ∈ wsA, v9.before ([.ref w, .int i, .int j, .int b, .ref out] : List Value).toArray s = true := fun v9 h9 => atoms_spec (ws := Cond.codeWith yL_draw cL_draw 6 (some .int) [(0, 12, 15, 13), (0, 12, 19, 31)] :: wsA) B.pre v9 (List.mem_cons_of_mem _ h9)
  have htab : c.exceptionTable.toList = tableOf [(0, 12, 15, 13), (0, 12, 19, 31)] := vx_table (x := yL_draw) B (atoms_spec (ws := Cond.codeWith yL_draw cL_draw 6 (some .int) [(0, 12, 15, 13), (0, 12, 19, 31)] :: wsA) B.pre _ List.mem_cons_self)
  have hown : s.vm.findClass RL = some m.cls := findClass_of_methodNamed B.named
  have S0 : k_C p s m ([.ref w, .int i, .int j, .int b, .ref out] : List Value).toArray c cL_draw 6 RL := ⟨hx, hb, hml, hown, ht⟩
  have hlocks := B.notSynchronized
  subst hsz
  have hD := hD0.self (sz := s.heap.size)
  generalize hAe : va_A [(w, .inr (7, [.ref st, .ref hi, .ref re, .ref fo, .ref bu, .ref pa])), (st, .inr (6, [.ref la, .ref me, .ref li, .int tol, .int su, .int fa])), (la, .inr (2, [.ref ld, .ref lz])), (lz, .inr (4, [.ref lzA, .int 0])), (out, .inl (KL, 1, .inr (.inl ofn)))] s.heap.size = A at hD hG ⊢
  have hA : ∀ q : Nat, s.heap.size ≤ q → A q := fun q h => by rw [← hAe]; exact Or.inr h
  have hS : va_S A s.heap s.heap [] := va_S.rf
  have hl := lv_entry ([.ref w, .int i, .int j, .int b, .ref out]) (n := 6) (Nat.le_of_ble_eq_true rfl)
  rw [lg_entry_eq]
  generalize (lg_sl ([.ref w, .int i, .int j, .int b, .ref out]) ++ List.replicate (6 - (lg_sl ([.ref w, .int i, .int j, .int b, .ref out])).length) Slot.unset).toArray = ls at hl ⊢
  have hl : lv_has ls 6 [(0, .ref w), (1, .int i), (2, .int j), (3, .int b), (4, .ref out)] := hl
  have hP : va_P D vwCl [(w, .inr (7, [.ref st, .ref hi, .ref re, .ref fo, .ref bu, .ref pa])), (st, .inr (6, [.ref la, .ref me, .ref li, .int tol, .int su, .int fa])), (la, .inr (2, [.ref ld, .ref lz])), (lz, .inr (4, [.ref lzA, .int 0])), (out, .inl (KL, 1, .inr (.inl ofn)))] s.heap := hP
  refine lv_aload hx hb dL_draw_0 (lv_at hl 4 rfl) ?_
  refine lv_iconst (v := 0) hx hb dL_draw_2 (by decide) ?_
  refine lv_aload_n hx hb dL_draw_3 rfl (lv_at hl 0 rfl) ?_
  refine lv_iload_n hx hb dL_draw_4 rfl (lv_at hl 1 rfl) ?_
  refine lv_iload_n hx hb dL_draw_5 rfl (lv_at hl 2 rfl) ?_
  refine lv_iload_n hx hb dL_draw_6 rfl (lv_at hl 3 rfl) ?_
  have ct := k_cut_of (wc := [(w, .inr (7, [.ref st, .ref hi, .ref re, .ref fo, .ref bu, .ref pa])), (st, .inr (6, [.ref la, .ref me, .ref li, .int tol, .int su, .int fa])), (la, .inr (2, [.ref ld, .ref lz])), (lz, .inr (4, [.ref lzA, .int 0]))]) (wr := [(out, .inl (KL, 1, .inr (.inl ofn)))]) (tc := []) hG hS hA hK hP hD [0, 1, 2, 3] [4] [] rfl rfl (by decide) (by decide) (by decide) rfl
  refine k_endXi (EX := fun E => (E = "java/lang/IllegalArgumentException" ∧ ¬ k_per i j) ∨ (E = "java/lang/IllegalStateException" ∧ k_per i j)) (As := [.ref w, .int i, .int j, .int b]) ct (k_xrunV (As := [.int i, .int j, .int b]) (rest := [.int 0, .ref out]) S0 Lv_L_27 rfl (ci := 7) (q0 := 0) rfl rfl ct (c_W_draw l hst D w st hi re fo bu pa la me li tol su fa ld lz lzA i j b s.heap.size) hl.1 rfl (Nat.le_of_ble_eq_true rfl) rfl dL_draw_7 ⟨⟨Nat.le_of_ble_eq_true rfl, Nat.le_of_ble_eq_true rfl⟩, Nat.le_of_ble_eq_true rfl, Nat.le_of_ble_eq_true rfl⟩) rfl rfl ?_ (fun r_1 _ H locs hw_2 hP hD hK hS => ?_)
  · intro E ce q9 H locs hE hP hD hS hq9 hv9 hcl9
    try dsimp only at hE
    have hP : va_P D vwCl [(out, .inl (KL, 1, .inr (.inl ofn))), (w, .inr (7, [.ref st, .ref hi, .ref re, .ref fo, .ref bu, .ref pa])), (st, .inr (6, [.ref la, .ref me, .ref li, .int tol, .int su, .int fa])), (la, .inr (2, [.ref ld, .ref lz])), (lz, .inr (4, [.ref lzA, .int 0]))] H := hP
    have hD : va_D A [(out, .inl (KL, 1, .inr (.inl ofn))), (w, .inr (7, [.ref st, .ref hi, .ref re, .ref fo, .ref bu, .ref pa])), (st, .inr (6, [.ref la, .ref me, .ref li, .int tol, .int su, .int fa])), (la, .inr (2, [.ref ld, .ref lz])), (lz, .inr (4, [.ref lzA, .int 0]))] := hD
    rcases hE with ⟨hE, hcE⟩ | ⟨hE, hcE⟩
    · skip
      subst hE
      refine vx_catch hown [] ⟨0, 12, 15, 13⟩ [⟨0, 12, 19, 31⟩] (by rw [htab]; rfl) (fun z9 h9 => absurd h9 List.not_mem_nil) (by decide) (by decide) (ht _ lc_L_13) (va_Nw.use rfl (hG.1 _ (List.mem_of_getElem? (i := 580) rfl) rfl)) hq9 hv9 hcl9 ?_
      refine lv_astore (lv' := [(5, .ref q9), (0, .ref w), (1, .int i), (2, .int j), (3, .int b), (4, .ref out)]) hx hb dL_draw_15 hl (by decide) rfl (fun ls hl => ?_)
      refine lv_iconst (v := 1) hx hb dL_draw_17 (by decide) ?_
      have hP9 : va_P D vwCl [(out, .inl (KL, 1, .inr (.inl ofn)))] H := hP.sub [0] rfl
      have hD9 : va_D A [(out, .inl (KL, 1, .inr (.inl ofn)))] := hD.sub [0] (by decide) rfl
      have hK9 : va_K D vwCl [] s := hK.sub [] rfl
      exact W.iret (v := 1) hx hb hr (fun t ht9 hW9 => ⟨⟨1, ofn, rfl, by exact Or.inr ⟨hcE, rfl⟩, ⟨by rw [ht9]; exact hP9, va_K.moved hW9.alike hK9, hD9⟩⟩, hS.F ht9⟩) hS.2.2 dL_draw_18
    · skip
      subst hE
      refine vx_catch hown [⟨0, 12, 15, 13⟩] ⟨0, 12, 19, 31⟩ [] (by rw [htab]; rfl) (fun z9 h9 => by rcases List.mem_singleton.mp h9 with rfl; exact Or.inr ⟨by decide, "java/lang/IllegalArgumentException", ht _ lc_L_13, hG.2.2.2.2.1⟩) (by decide) (by decide) (ht _ lc_L_31) (va_Nw.use rfl (hG.1 _ (List.mem_of_getElem? (i := 647) rfl) rfl)) hq9 hv9 hcl9 ?_
      refine lv_astore (lv' := [(5, .ref q9), (0, .ref w), (1, .int i), (2, .int j), (3, .int b), (4, .ref out)]) hx hb dL_draw_19 hl (by decide) rfl (fun ls hl => ?_)
      refine lv_iconst (v := 2) hx hb dL_draw_21 (by decide) ?_
      have hP9 : va_P D vwCl [(out, .inl (KL, 1, .inr (.inl ofn)))] H := hP.sub [0] rfl
      have hD9 : va_D A [(out, .inl (KL, 1, .inr (.inl ofn)))] := hD.sub [0] (by decide) rfl
      have hK9 : va_K D vwCl [] s := hK.sub [] rfl
      exact W.iret (v := 2) hx hb hr (fun t ht9 hW9 => ⟨⟨2, ofn, rfl, by exact Or.inl ⟨hcE, rfl⟩, ⟨by rw [ht9]; exact hP9, va_K.moved hW9.alike hK9, hD9⟩⟩, hS.F ht9⟩) hS.2.2 dL_draw_22
  have hK : va_K D vwCl [(KL, .long)] s := hK
  have hP : va_P D vwCl [(out, .inl (KL, 1, .inr (.inl ofn))), (w, .inr (7, [.ref st, .ref hi, .ref re, .ref fo, .ref bu, .ref pa])), (st, .inr (6, [.ref la, .ref me, .ref li, .int tol, .int su, .int fa])), (la, .inr (2, [.ref ld, .ref lz])), (lz, .inr (4, [.ref lzA, .int 0]))] H := hP
  have hD : va_D A [(out, .inl (KL, 1, .inr (.inl ofn))), (w, .inr (7, [.ref st, .ref hi, .ref re, .ref fo, .ref bu, .ref pa])), (st, .inr (6, [.ref la, .ref me, .ref li, .int tol, .int su, .int fa])), (la, .inr (2, [.ref ld, .ref lz])), (lz, .inr (4, [.ref lzA, .int 0]))] := hD
  exact hw_2.elim
set_option maxHeartbeats 4000000 in
set_option maxRecDepth 100000 in
theorem c_L_ifDrawn (l : Launch) (hst : l.stackTraces = false) (D : va_G) (w : Nat) (st : Nat) (hi : Nat) (re : Nat) (fo : Nat) (bu : Nat) (pa : Nat) (la : Nat) (me : Nat) (li : Nat) (tol : Int32) (su : Int32) (fa : Int32) (ld : Nat) (lz : Nat) (lzA : Nat) (i : Int32) (j : Int32) (b : Int32) (out : Nat) (KL : ClassId) (ofn : Nat → Int64) (sz : Nat) : k_Wi (S := Nat → Int64) l D yL_ifDrawn cL_ifDrawn 6 (some .int) [(0, 12, 15, 13), (0, 12, 19, 31)] 8 1 6 127 [.ref w, .int i, .int j, .int b, .ref out] [(w, .inr (7, [.ref st, .ref hi, .ref re, .ref fo, .ref bu, .ref pa])), (st, .inr (6, [.ref la, .ref me, .ref li, .int tol, .int su, .int fa])), (la, .inr (2, [.ref ld, .ref lz])), (lz, .inr (4, [.ref lzA, .int 0])), (out, .inl (KL, 1, .inr (.inl ofn)))] [(KL, .long)] (fun (r : Int32) (og : Nat → Int64) => (k_per i j ∧ r = 2) ∨ (¬ k_per i j ∧ r = 1)) (fun og => [(out, .inl (KL, 1, .inr (.inl og)))]) (fun og => []) sz := by
  refine va_MetW (cc := cL_ifDrawn) (maxL := 6) (ret := (some .int)) (hh := [(0, 12, 15, 13), (0, 12, 19, 31)]) (by decide) rfl ?_
  intro p e s m args below meth c s₁ B hml hv
  obtain ⟨rfl, hsz, hP, hK, hD0, hG⟩ := hv
  have hx := B.exec
  have hb := B.bytes
  have hr := B.returns
  have ht : ∀ v9 ∈ wsA, v9.before ([.ref w, .int i, .int j, .int b, .ref out] : List Value).toArray s = true := fun v9 h9 => atoms_spec (ws := Cond.codeWith yL_ifDrawn cL_ifDrawn 6 (some .int) [(0, 12, 15, 13), (0, 12, 19, 31)] :: wsA) B.pre v9 (List.mem_cons_of_mem _ h9)
  have htab : c.exceptionTable.toList = tableOf [(0, 12, 15, 13), (0, 12, 19, 31)] := vx_table (x := yL_ifDrawn) B (atoms_spec (ws := Cond.codeWith yL_ifDrawn cL_ifDrawn 6 (some .int) [(0, 12, 15, 13), (0, 12, 19, 31)] :: wsA) B.pre _ List.mem_cons_self)
  have hown : s.vm.findClass RL = some m.cls := findClass_of_methodNamed B.named
  have S0 : k_C p s m ([.ref w, .int i, .int j, .int b, .ref out] : List Value).toArray c cL_ifDrawn 6 RL := ⟨hx, hb, hml, hown, ht⟩
  have hlocks := B.notSynchronized
  subst hsz
  have hD := hD0.self (sz := s.heap.size)
  generalize hAe : va_A [(w, .inr (7, [.ref st, .ref hi, .ref re, .ref fo, .ref bu, .ref pa])), (st, .inr (6, [.ref la, .ref me, .ref li, .int tol, .int su, .int fa])), (la, .inr (2, [.ref ld, .ref lz])), (lz, .inr (4, [.ref lzA, .int 0])), (out, .inl (KL, 1, .inr (.inl ofn)))] s.heap.size = A at hD hG ⊢
  have hA : ∀ q : Nat, s.heap.size ≤ q → A q := fun q h => by rw [← hAe]; exact Or.inr h
  have hS : va_S A s.heap s.heap [] := va_S.rf
  have hl := lv_entry ([.ref w, .int i, .int j, .int b, .ref out]) (n := 6) (Nat.le_of_ble_eq_true rfl)
  rw [lg_entry_eq]
  generalize (lg_sl ([.ref w, .int i, .int j, .int b, .ref out]) ++ List.replicate (6 - (lg_sl ([.ref w, .int i, .int j, .int b, .ref out])).length) Slot.unset).toArray = ls at hl ⊢
  have hl : lv_has ls 6 [(0, .ref w), (1, .int i), (2, .int j), (3, .int b), (4, .ref out)] := hl
  have hP : va_P D vwCl [(w, .inr (7, [.ref st, .ref hi, .ref re, .ref fo, .ref bu, .ref pa])), (st, .inr (6, [.ref la, .ref me, .ref li, .int tol, .int su, .int fa])), (la, .inr (2, [.ref ld, .ref lz])), (lz, .inr (4, [.ref lzA, .int 0])), (out, .inl (KL, 1, .inr (.inl ofn)))] s.heap := hP
  refine lv_aload hx hb dL_ifDrawn_0 (lv_at hl 4 rfl) ?_
  refine lv_iconst (v := 0) hx hb dL_ifDrawn_2 (by decide) ?_
  refine lv_aload_n hx hb dL_ifDrawn_3 rfl (lv_at hl 0 rfl) ?_
  refine lv_iload_n hx hb dL_ifDrawn_4 rfl (lv_at hl 1 rfl) ?_
  refine lv_iload_n hx hb dL_ifDrawn_5 rfl (lv_at hl 2 rfl) ?_
  refine lv_iload_n hx hb dL_ifDrawn_6 rfl (lv_at hl 3 rfl) ?_
  have ct := k_cut_of (wc := [(w, .inr (7, [.ref st, .ref hi, .ref re, .ref fo, .ref bu, .ref pa])), (st, .inr (6, [.ref la, .ref me, .ref li, .int tol, .int su, .int fa])), (la, .inr (2, [.ref ld, .ref lz])), (lz, .inr (4, [.ref lzA, .int 0]))]) (wr := [(out, .inl (KL, 1, .inr (.inl ofn)))]) (tc := []) hG hS hA hK hP hD [0, 1, 2, 3] [4] [] rfl rfl (by decide) (by decide) (by decide) rfl
  refine k_endXi (EX := fun E => (E = "java/lang/IllegalArgumentException" ∧ ¬ k_per i j) ∨ (E = "java/lang/IllegalStateException" ∧ k_per i j)) (As := [.ref w, .int i, .int j, .int b]) ct (k_xrunV (As := [.int i, .int j, .int b]) (rest := [.int 0, .ref out]) S0 Lv_L_57 rfl (ci := 7) (q0 := 0) rfl rfl ct (c_W_ifDrawn l hst D w st hi re fo bu pa la me li tol su fa ld lz lzA i j b s.heap.size) hl.1 rfl (Nat.le_of_ble_eq_true rfl) rfl dL_ifDrawn_7 ⟨⟨Nat.le_of_ble_eq_true rfl, Nat.le_of_ble_eq_true rfl⟩, Nat.le_of_ble_eq_true rfl, Nat.le_of_ble_eq_true rfl⟩) rfl rfl ?_ (fun r_1 _ H locs hw_2 hP hD hK hS => ?_)
  · intro E ce q9 H locs hE hP hD hS hq9 hv9 hcl9
    try dsimp only at hE
    have hP : va_P D vwCl [(out, .inl (KL, 1, .inr (.inl ofn))), (w, .inr (7, [.ref st, .ref hi, .ref re, .ref fo, .ref bu, .ref pa])), (st, .inr (6, [.ref la, .ref me, .ref li, .int tol, .int su, .int fa])), (la, .inr (2, [.ref ld, .ref lz])), (lz, .inr (4, [.ref lzA, .int 0]))] H := hP
    have hD : va_D A [(out, .inl (KL, 1, .inr (.inl ofn))), (w, .inr (7, [.ref st, .ref hi, .ref re, .ref fo, .ref bu, .ref pa])), (st, .inr (6, [.ref la, .ref me, .ref li, .int tol, .int su, .int fa])), (la, .inr (2, [.ref ld, .ref lz])), (lz, .inr (4, [.ref lzA, .int 0]))] := hD
    rcases hE with ⟨hE, hcE⟩ | ⟨hE, hcE⟩
    · skip
      subst hE
      refine vx_catch hown [] ⟨0, 12, 15, 13⟩ [⟨0, 12, 19, 31⟩] (by rw [htab]; rfl) (fun z9 h9 => absurd h9 List.not_mem_nil) (by decide) (by decide) (ht _ lc_L_13) (va_Nw.use rfl (hG.1 _ (List.mem_of_getElem? (i := 580) rfl) rfl)) hq9 hv9 hcl9 ?_
      refine lv_astore (lv' := [(5, .ref q9), (0, .ref w), (1, .int i), (2, .int j), (3, .int b), (4, .ref out)]) hx hb dL_ifDrawn_15 hl (by decide) rfl (fun ls hl => ?_)
      refine lv_iconst (v := 1) hx hb dL_ifDrawn_17 (by decide) ?_
      have hP9 : va_P D vwCl [(out, .inl (KL, 1, .inr (.inl ofn)))] H := hP.sub [0] rfl
      have hD9 : va_D A [(out, .inl (KL, 1, .inr (.inl ofn)))] := hD.sub [0] (by decide) rfl
      have hK9 : va_K D vwCl [] s := hK.sub [] rfl
      exact W.iret (v := 1) hx hb hr (fun t ht9 hW9 => ⟨⟨1, ofn, rfl, by exact Or.inr ⟨hcE, rfl⟩, ⟨by rw [ht9]; exact hP9, va_K.moved hW9.alike hK9, hD9⟩⟩, hS.F ht9⟩) hS.2.2 dL_ifDrawn_18
    · skip
      subst hE
      refine vx_catch hown [⟨0, 12, 15, 13⟩] ⟨0, 12, 19, 31⟩ [] (by rw [htab]; rfl) (fun z9 h9 => by rcases List.mem_singleton.mp h9 with rfl; exact Or.inr ⟨by decide, "java/lang/IllegalArgumentException", ht _ lc_L_13, hG.2.2.2.2.1⟩) (by decide) (by decide) (ht _ lc_L_31) (va_Nw.use rfl (hG.1 _ (List.mem_of_getElem? (i := 647) rfl) rfl)) hq9 hv9 hcl9 ?_
      refine lv_astore (lv' := [(5, .ref q9), (0, .ref w), (1, .int i), (2, .int j), (3, .int b), (4, .ref out)]) hx hb dL_ifDrawn_19 hl (by decide) rfl (fun ls hl => ?_)
      refine lv_iconst (v := 2) hx hb dL_ifDrawn_21 (by decide) ?_
      have hP9 : va_P D vwCl [(out, .inl (KL, 1, .inr (.inl ofn)))] H := hP.sub [0] rfl
      have hD9 : va_D A [(out, .inl (KL, 1, .inr (.inl ofn)))] := hD.sub [0] (by decide) rfl
      have hK9 : va_K D vwCl [] s := hK.sub [] rfl
      exact W.iret (v := 2) hx hb hr (fun t ht9 hW9 => ⟨⟨2, ofn, rfl, by exact Or.inl ⟨hcE, rfl⟩, ⟨by rw [ht9]; exact hP9, va_K.moved hW9.alike hK9, hD9⟩⟩, hS.F ht9⟩) hS.2.2 dL_ifDrawn_22
  have hK : va_K D vwCl [(KL, .long)] s := hK
  have hP : va_P D vwCl [(out, .inl (KL, 1, .inr (.inl ofn))), (w, .inr (7, [.ref st, .ref hi, .ref re, .ref fo, .ref bu, .ref pa])), (st, .inr (6, [.ref la, .ref me, .ref li, .int tol, .int su, .int fa])), (la, .inr (2, [.ref ld, .ref lz])), (lz, .inr (4, [.ref lzA, .int 0]))] H := hP
  have hD : va_D A [(out, .inl (KL, 1, .inr (.inl ofn))), (w, .inr (7, [.ref st, .ref hi, .ref re, .ref fo, .ref bu, .ref pa])), (st, .inr (6, [.ref la, .ref me, .ref li, .int tol, .int su, .int fa])), (la, .inr (2, [.ref ld, .ref lz])), (lz, .inr (4, [.ref lzA, .int 0]))] := hD
  exact hw_2.elim
set_option maxHeartbeats 4000000 in
set_option maxRecDepth 100000 in
theorem c_L_measure (l : Launch) (hst : l.stackTraces = false) (D : va_G) (w : Nat) (st : Nat) (hi : Nat) (re : Nat) (fo : Nat) (bu : Nat) (pa : Nat) (ri : Nat) (KS : ClassId) (rf : Nat → Option Nat) (zst : Nat) (zla : Nat) (zme : Nat) (zli : Nat) (ztol : Int32) (zsu : Int32) (zfa : Int32) (zld : Nat) (zlz : Nat) (zldA : Nat) (zldN : Int32) (zlzA : Nat) (zlzN : Int32) (zmeA : Nat) (zmeN : Int32) (zln : Nat) (zll : Nat) (zlc : Nat) (zlnA : Nat) (zlnN : Int32) (zllA : Nat) (zllN : Int32) (zlcA : Nat) (zlcN : Int32) (la : Nat) (me : Nat) (li : Nat) (tol : Int32) (su : Int32) (fa : Int32) (ld : Nat) (lz : Nat) (ldA : Nat) (lzA : Nat) (meA : Nat) (ln : Nat) (ll : Nat) (lc : Nat) (lnA : Nat) (llA : Nat) (lcA : Nat) (K : ClassId) (mf : Nat → Int32) (i : Int32) (out : Nat) (KL : ClassId) (ofn : Nat → Int64) (hrf : rf 0 = some zst) (sz : Nat) : k_Wi (S := Nat → Int64) l D yL_measure cL_measure 4 (some .int) [(0, 9, 12, 13), (0, 9, 15, 31)] 7 1 6 147 [.ref w, .int i, .ref out] [(w, .inr (7, [.ref st, .ref hi, .ref re, .ref fo, .ref bu, .ref pa])), (hi, .inr (5, [.ref ri, .int 0, .int 0])), (ri, .inl (KS, 6, .inr (.inr (.inr (.inr rf))))), (zst, .inr (6, [.ref zla, .ref zme, .ref zli, .int ztol, .int zsu, .int zfa])), (zla, .inr (2, [.ref zld, .ref zlz])), (zld, .inr (4, [.ref zldA, .int zldN])), (zlz, .inr (4, [.ref zlzA, .int zlzN])), (zme, .inr (4, [.ref zmeA, .int zmeN])), (zli, .inr (0, [.ref zln, .ref zll, .ref zlc])), (zln, .inr (4, [.ref zlnA, .int zlnN])), (zll, .inr (4, [.ref zllA, .int zllN])), (zlc, .inr (4, [.ref zlcA, .int zlcN])), (st, .inr (6, [.ref la, .ref me, .ref li, .int tol, .int su, .int fa])), (la, .inr (2, [.ref ld, .ref lz])), (ld, .inr (4, [.ref ldA, .int 0])), (lz, .inr (4, [.ref lzA, .int 0])), (me, .inr (4, [.ref meA, .int 0])), (li, .inr (0, [.ref ln, .ref ll, .ref lc])), (ln, .inr (4, [.ref lnA, .int 0])), (ll, .inr (4, [.ref llA, .int 0])), (lc, .inr (4, [.ref lcA, .int 0])), (meA, .inl (K, 41, .inl mf)), (out, .inl (KL, 1, .inr (.inl ofn)))] [(K, .int), (KS, .object "BarcodeWand$State"), (KL, .long)] (fun (r : Int32) (og : Nat → Int64) => (k_tim i ∧ r = 0 ∧ og 0 = (1 : Int32).toInt64) ∨ (¬ k_tim i ∧ r = 1)) (fun og => [(out, .inl (KL, 1, .inr (.inl og)))]) (fun og => []) sz := by
  refine va_MetW (cc := cL_measure) (maxL := 4) (ret := (some .int)) (hh := [(0, 9, 12, 13), (0, 9, 15, 31)]) (by decide) rfl ?_
  intro p e s m args below meth c s₁ B hml hv
  obtain ⟨rfl, hsz, hP, hK, hD0, hG⟩ := hv
  have hx := B.exec
  have hb := B.bytes
  have hr := B.returns
  have ht : ∀ v9 ∈ wsA, v9.before ([.ref w, .int i, .ref out] : List Value).toArray s = true := fun v9 h9 => atoms_spec (ws := Cond.codeWith yL_measure cL_measure 4 (some .int) [(0, 9, 12, 13), (0, 9, 15, 31)] :: wsA) B.pre v9 (List.mem_cons_of_mem _ h9)
  have htab : c.exceptionTable.toList = tableOf [(0, 9, 12, 13), (0, 9, 15, 31)] := vx_table (x := yL_measure) B (atoms_spec (ws := Cond.codeWith yL_measure cL_measure 4 (some .int) [(0, 9, 12, 13), (0, 9, 15, 31)] :: wsA) B.pre _ List.mem_cons_self)
  have hown : s.vm.findClass RL = some m.cls := findClass_of_methodNamed B.named
  have S0 : k_C p s m ([.ref w, .int i, .ref out] : List Value).toArray c cL_measure 4 RL := ⟨hx, hb, hml, hown, ht⟩
  have hlocks := B.notSynchronized
  subst hsz
  have hD := hD0.self (sz := s.heap.size)
  generalize hAe : va_A [(w, .inr (7, [.ref st, .ref hi, .ref re, .ref fo, .ref bu, .ref pa])), (hi, .inr (5, [.ref ri, .int 0, .int 0])), (ri, .inl (KS, 6, .inr (.inr (.inr (.inr rf))))), (zst, .inr (6, [.ref zla, .ref zme, .ref zli, .int ztol, .int zsu, .int zfa])), (zla, .inr (2, [.ref zld, .ref zlz])), (zld, .inr (4, [.ref zldA, .int zldN])), (zlz, .inr (4, [.ref zlzA, .int zlzN])), (zme, .inr (4, [.ref zmeA, .int zmeN])), (zli, .inr (0, [.ref zln, .ref zll, .ref zlc])), (zln, .inr (4, [.ref zlnA, .int zlnN])), (zll, .inr (4, [.ref zllA, .int zllN])), (zlc, .inr (4, [.ref zlcA, .int zlcN])), (st, .inr (6, [.ref la, .ref me, .ref li, .int tol, .int su, .int fa])), (la, .inr (2, [.ref ld, .ref lz])), (ld, .inr (4, [.ref ldA, .int 0])), (lz, .inr (4, [.ref lzA, .int 0])), (me, .inr (4, [.ref meA, .int 0])), (li, .inr (0, [.ref ln, .ref ll, .ref lc])), (ln, .inr (4, [.ref lnA, .int 0])), (ll, .inr (4, [.ref llA, .int 0])), (lc, .inr (4, [.ref lcA, .int 0])), (meA, .inl (K, 41, .inl mf)), (out, .inl (KL, 1, .inr (.inl ofn)))] s.heap.size = A at hD hG ⊢
  have hA : ∀ q : Nat, s.heap.size ≤ q → A q := fun q h => by rw [← hAe]; exact Or.inr h
  have hS : va_S A s.heap s.heap [] := va_S.rf
  have hl := lv_entry ([.ref w, .int i, .ref out]) (n := 4) (Nat.le_of_ble_eq_true rfl)
  rw [lg_entry_eq]
  generalize (lg_sl ([.ref w, .int i, .ref out]) ++ List.replicate (4 - (lg_sl ([.ref w, .int i, .ref out])).length) Slot.unset).toArray = ls at hl ⊢
  have hl : lv_has ls 4 [(0, .ref w), (1, .int i), (2, .ref out)] := hl
  have hP : va_P D vwCl [(w, .inr (7, [.ref st, .ref hi, .ref re, .ref fo, .ref bu, .ref pa])), (hi, .inr (5, [.ref ri, .int 0, .int 0])), (ri, .inl (KS, 6, .inr (.inr (.inr (.inr rf))))), (zst, .inr (6, [.ref zla, .ref zme, .ref zli, .int ztol, .int zsu, .int zfa])), (zla, .inr (2, [.ref zld, .ref zlz])), (zld, .inr (4, [.ref zldA, .int zldN])), (zlz, .inr (4, [.ref zlzA, .int zlzN])), (zme, .inr (4, [.ref zmeA, .int zmeN])), (zli, .inr (0, [.ref zln, .ref zll, .ref zlc])), (zln, .inr (4, [.ref zlnA, .int zlnN])), (zll, .inr (4, [.ref zllA, .int zllN])), (zlc, .inr (4, [.ref zlcA, .int zlcN])), (st, .inr (6, [.ref la, .ref me, .ref li, .int tol, .int su, .int fa])), (la, .inr (2, [.ref ld, .ref lz])), (ld, .inr (4, [.ref ldA, .int 0])), (lz, .inr (4, [.ref lzA, .int 0])), (me, .inr (4, [.ref meA, .int 0])), (li, .inr (0, [.ref ln, .ref ll, .ref lc])), (ln, .inr (4, [.ref lnA, .int 0])), (ll, .inr (4, [.ref llA, .int 0])), (lc, .inr (4, [.ref lcA, .int 0])), (meA, .inl (K, 41, .inl mf)), (out, .inl (KL, 1, .inr (.inl ofn)))] s.heap := hP
  refine lv_aload_n hx hb dL_measure_0 rfl (lv_at hl 2 rfl) ?_
  refine lv_iconst (v := 0) hx hb dL_measure_1 (by decide) ?_
  refine lv_aload_n hx hb dL_measure_2 rfl (lv_at hl 0 rfl) ?_
  refine lv_iload_n hx hb dL_measure_3 rfl (lv_at hl 1 rfl) ?_
  have ct := k_cut_of (wc := [(w, .inr (7, [.ref st, .ref hi, .ref re, .ref fo, .ref bu, .ref pa])), (hi, .inr (5, [.ref ri, .int 0, .int 0])), (ri, .inl (KS, 6, .inr (.inr (.inr (.inr rf))))), (zst, .inr (6, [.ref zla, .ref zme, .ref zli, .int ztol, .int zsu, .int zfa])), (zla, .inr (2, [.ref zld, .ref zlz])), (zld, .inr (4, [.ref zldA, .int zldN])), (zlz, .inr (4, [.ref zlzA, .int zlzN])), (zme, .inr (4, [.ref zmeA, .int zmeN])), (zli, .inr (0, [.ref zln, .ref zll, .ref zlc])), (zln, .inr (4, [.ref zlnA, .int zlnN])), (zll, .inr (4, [.ref zllA, .int zllN])), (zlc, .inr (4, [.ref zlcA, .int zlcN])), (st, .inr (6, [.ref la, .ref me, .ref li, .int tol, .int su, .int fa])), (la, .inr (2, [.ref ld, .ref lz])), (ld, .inr (4, [.ref ldA, .int 0])), (lz, .inr (4, [.ref lzA, .int 0])), (me, .inr (4, [.ref meA, .int 0])), (li, .inr (0, [.ref ln, .ref ll, .ref lc])), (ln, .inr (4, [.ref lnA, .int 0])), (ll, .inr (4, [.ref llA, .int 0])), (lc, .inr (4, [.ref lcA, .int 0])), (meA, .inl (K, 41, .inl mf))]) (wr := [(out, .inl (KL, 1, .inr (.inl ofn)))]) (tc := [(K, .int), (KS, .object "BarcodeWand$State")]) hG hS hA hK hP hD [0, 1, 2, 3, 4, 5, 6, 7, 8, 9, 10, 11, 12, 13, 14, 15, 16, 17, 18, 19, 20, 21] [22] [0, 1] rfl rfl (by decide) (by decide) (by decide) rfl
  refine k_endXi (EX := fun E => E = "java/lang/IllegalArgumentException" ∧ ¬ k_tim i) (As := [.ref w, .int i]) ct (k_xrunV (As := [.int i]) (rest := [.int 0, .ref out]) S0 Lv_L_33 rfl (ci := 7) (q0 := 0) rfl rfl ct (c_W_measure l hst D w st hi re fo bu pa ri KS rf zst zla zme zli ztol zsu zfa zld zlz zldA zldN zlzA zlzN zmeA zmeN zln zll zlc zlnA zlnN zllA zllN zlcA zlcN la me li tol su fa ld lz ldA lzA meA ln ll lc lnA llA lcA K mf i (by assumption) s.heap.size) hl.1 rfl (Nat.le_of_ble_eq_true rfl) rfl dL_measure_4 ⟨⟨Nat.le_of_ble_eq_true rfl, Nat.le_of_ble_eq_true rfl⟩, Nat.le_of_ble_eq_true rfl, Nat.le_of_ble_eq_true rfl⟩) rfl rfl ?_ (fun r_1 mg_2 H locs hw_3 hP hD hK hS => ?_)
  · intro E ce q9 H locs hE hP hD hS hq9 hv9 hcl9
    try dsimp only at hE
    have hP : va_P D vwCl [(out, .inl (KL, 1, .inr (.inl ofn))), (w, .inr (7, [.ref st, .ref hi, .ref re, .ref fo, .ref bu, .ref pa])), (hi, .inr (5, [.ref ri, .int 0, .int 0])), (ri, .inl (KS, 6, .inr (.inr (.inr (.inr rf))))), (zst, .inr (6, [.ref zla, .ref zme, .ref zli, .int ztol, .int zsu, .int zfa])), (zla, .inr (2, [.ref zld, .ref zlz])), (zld, .inr (4, [.ref zldA, .int zldN])), (zlz, .inr (4, [.ref zlzA, .int zlzN])), (zme, .inr (4, [.ref zmeA, .int zmeN])), (zli, .inr (0, [.ref zln, .ref zll, .ref zlc])), (zln, .inr (4, [.ref zlnA, .int zlnN])), (zll, .inr (4, [.ref zllA, .int zllN])), (zlc, .inr (4, [.ref zlcA, .int zlcN])), (st, .inr (6, [.ref la, .ref me, .ref li, .int tol, .int su, .int fa])), (la, .inr (2, [.ref ld, .ref lz])), (ld, .inr (4, [.ref ldA, .int 0])), (lz, .inr (4, [.ref lzA, .int 0])), (me, .inr (4, [.ref meA, .int 0])), (li, .inr (0, [.ref ln, .ref ll, .ref lc])), (ln, .inr (4, [.ref lnA, .int 0])), (ll, .inr (4, [.ref llA, .int 0])), (lc, .inr (4, [.ref lcA, .int 0])), (meA, .inl (K, 41, .inl mf))] H := hP
    have hD : va_D A [(out, .inl (KL, 1, .inr (.inl ofn))), (w, .inr (7, [.ref st, .ref hi, .ref re, .ref fo, .ref bu, .ref pa])), (hi, .inr (5, [.ref ri, .int 0, .int 0])), (ri, .inl (KS, 6, .inr (.inr (.inr (.inr rf))))), (zst, .inr (6, [.ref zla, .ref zme, .ref zli, .int ztol, .int zsu, .int zfa])), (zla, .inr (2, [.ref zld, .ref zlz])), (zld, .inr (4, [.ref zldA, .int zldN])), (zlz, .inr (4, [.ref zlzA, .int zlzN])), (zme, .inr (4, [.ref zmeA, .int zmeN])), (zli, .inr (0, [.ref zln, .ref zll, .ref zlc])), (zln, .inr (4, [.ref zlnA, .int zlnN])), (zll, .inr (4, [.ref zllA, .int zllN])), (zlc, .inr (4, [.ref zlcA, .int zlcN])), (st, .inr (6, [.ref la, .ref me, .ref li, .int tol, .int su, .int fa])), (la, .inr (2, [.ref ld, .ref lz])), (ld, .inr (4, [.ref ldA, .int 0])), (lz, .inr (4, [.ref lzA, .int 0])), (me, .inr (4, [.ref meA, .int 0])), (li, .inr (0, [.ref ln, .ref ll, .ref lc])), (ln, .inr (4, [.ref lnA, .int 0])), (ll, .inr (4, [.ref llA, .int 0])), (lc, .inr (4, [.ref lcA, .int 0])), (meA, .inl (K, 41, .inl mf))] := hD
    obtain ⟨hE, hcE⟩ := hE
    subst hE
    refine vx_catch hown [] ⟨0, 9, 12, 13⟩ [⟨0, 9, 15, 31⟩] (by rw [htab]; rfl) (fun z9 h9 => absurd h9 List.not_mem_nil) (by decide) (by decide) (ht _ lc_L_13) (va_Nw.use rfl (hG.1 _ (List.mem_of_getElem? (i := 580) rfl) rfl)) hq9 hv9 hcl9 ?_
    refine lv_astore_n (lv' := [(3, .ref q9), (0, .ref w), (1, .int i), (2, .ref out)]) hx hb dL_measure_12 rfl hl (by decide) rfl (fun ls hl => ?_)
    refine lv_iconst (v := 1) hx hb dL_measure_13 (by decide) ?_
    have hP9 : va_P D vwCl [(out, .inl (KL, 1, .inr (.inl ofn)))] H := hP.sub [0] rfl
    have hD9 : va_D A [(out, .inl (KL, 1, .inr (.inl ofn)))] := hD.sub [0] (by decide) rfl
    have hK9 : va_K D vwCl [] s := hK.sub [] rfl
    exact W.iret (v := 1) hx hb hr (fun t ht9 hW9 => ⟨⟨1, ofn, rfl, by exact Or.inr ⟨hcE, rfl⟩, ⟨by rw [ht9]; exact hP9, va_K.moved hW9.alike hK9, hD9⟩⟩, hS.F ht9⟩) hS.2.2 dL_measure_14
  have hK : va_K D vwCl [(K, .int), (KS, .object "BarcodeWand$State"), (KL, .long)] s := hK
  have hP : va_P D vwCl [(out, .inl (KL, 1, .inr (.inl ofn))), (w, .inr (7, [.ref st, .ref hi, .ref re, .ref fo, .ref bu, .ref pa])), (hi, .inr (5, [.ref ri, .int 1, .int 1])), (ri, .inl (KS, 6, .inr (.inr (.inr (.inr rf))))), (zst, .inr (6, [.ref zla, .ref zme, .ref zli, .int tol, .int su, .int fa])), (zla, .inr (2, [.ref zld, .ref zlz])), (zld, .inr (4, [.ref zldA, .int 0])), (zlz, .inr (4, [.ref zlzA, .int 0])), (zme, .inr (4, [.ref zmeA, .int 0])), (zli, .inr (0, [.ref zln, .ref zll, .ref zlc])), (zln, .inr (4, [.ref zlnA, .int 0])), (zll, .inr (4, [.ref zllA, .int 0])), (zlc, .inr (4, [.ref zlcA, .int 0])), (st, .inr (6, [.ref la, .ref me, .ref li, .int tol, .int su, .int fa])), (la, .inr (2, [.ref ld, .ref lz])), (ld, .inr (4, [.ref ldA, .int 0])), (lz, .inr (4, [.ref lzA, .int 0])), (me, .inr (4, [.ref meA, .int 1])), (li, .inr (0, [.ref ln, .ref ll, .ref lc])), (ln, .inr (4, [.ref lnA, .int 0])), (ll, .inr (4, [.ref llA, .int 0])), (lc, .inr (4, [.ref lcA, .int 0])), (meA, .inl (K, 41, .inl mg_2))] H := hP
  have hD : va_D A [(out, .inl (KL, 1, .inr (.inl ofn))), (w, .inr (7, [.ref st, .ref hi, .ref re, .ref fo, .ref bu, .ref pa])), (hi, .inr (5, [.ref ri, .int 1, .int 1])), (ri, .inl (KS, 6, .inr (.inr (.inr (.inr rf))))), (zst, .inr (6, [.ref zla, .ref zme, .ref zli, .int tol, .int su, .int fa])), (zla, .inr (2, [.ref zld, .ref zlz])), (zld, .inr (4, [.ref zldA, .int 0])), (zlz, .inr (4, [.ref zlzA, .int 0])), (zme, .inr (4, [.ref zmeA, .int 0])), (zli, .inr (0, [.ref zln, .ref zll, .ref zlc])), (zln, .inr (4, [.ref zlnA, .int 0])), (zll, .inr (4, [.ref zllA, .int 0])), (zlc, .inr (4, [.ref zlcA, .int 0])), (st, .inr (6, [.ref la, .ref me, .ref li, .int tol, .int su, .int fa])), (la, .inr (2, [.ref ld, .ref lz])), (ld, .inr (4, [.ref ldA, .int 0])), (lz, .inr (4, [.ref lzA, .int 0])), (me, .inr (4, [.ref meA, .int 1])), (li, .inr (0, [.ref ln, .ref ll, .ref lc])), (ln, .inr (4, [.ref lnA, .int 0])), (ll, .inr (4, [.ref llA, .int 0])), (lc, .inr (4, [.ref lcA, .int 0])), (meA, .inl (K, 41, .inl mg_2))] := hD
  have hw_3 : k_tim i ∧ r_1 = 1 := hw_3
  refine lv_i2l (v := r_1.toInt64) hx hb dL_measure_7 rfl ?_
  refine va_last hx hb hK hP hD hS 0 2 rfl rfl (by unfold vp_in; decide) dL_measure_8 (fun H locs hP hD hS => ?_)
  have hP : va_P D vwCl [(out, .inl (KL, 1, .inr (.inl (vp_updL ofn ((0 : Int32).toNatClampNeg) r_1.toInt64)))), (w, .inr (7, [.ref st, .ref hi, .ref re, .ref fo, .ref bu, .ref pa])), (hi, .inr (5, [.ref ri, .int 1, .int 1])), (ri, .inl (KS, 6, .inr (.inr (.inr (.inr rf))))), (zst, .inr (6, [.ref zla, .ref zme, .ref zli, .int tol, .int su, .int fa])), (zla, .inr (2, [.ref zld, .ref zlz])), (zld, .inr (4, [.ref zldA, .int 0])), (zlz, .inr (4, [.ref zlzA, .int 0])), (zme, .inr (4, [.ref zmeA, .int 0])), (zli, .inr (0, [.ref zln, .ref zll, .ref zlc])), (zln, .inr (4, [.ref zlnA, .int 0])), (zll, .inr (4, [.ref zllA, .int 0])), (zlc, .inr (4, [.ref zlcA, .int 0])), (st, .inr (6, [.ref la, .ref me, .ref li, .int tol, .int su, .int fa])), (la, .inr (2, [.ref ld, .ref lz])), (ld, .inr (4, [.ref ldA, .int 0])), (lz, .inr (4, [.ref lzA, .int 0])), (me, .inr (4, [.ref meA, .int 1])), (li, .inr (0, [.ref ln, .ref ll, .ref lc])), (ln, .inr (4, [.ref lnA, .int 0])), (ll, .inr (4, [.ref llA, .int 0])), (lc, .inr (4, [.ref lcA, .int 0])), (meA, .inl (K, 41, .inl mg_2))] H := hP
  have hD : va_D A [(out, .inl (KL, 1, .inr (.inl (vp_updL ofn ((0 : Int32).toNatClampNeg) r_1.toInt64)))), (w, .inr (7, [.ref st, .ref hi, .ref re, .ref fo, .ref bu, .ref pa])), (hi, .inr (5, [.ref ri, .int 1, .int 1])), (ri, .inl (KS, 6, .inr (.inr (.inr (.inr rf))))), (zst, .inr (6, [.ref zla, .ref zme, .ref zli, .int tol, .int su, .int fa])), (zla, .inr (2, [.ref zld, .ref zlz])), (zld, .inr (4, [.ref zldA, .int 0])), (zlz, .inr (4, [.ref zlzA, .int 0])), (zme, .inr (4, [.ref zmeA, .int 0])), (zli, .inr (0, [.ref zln, .ref zll, .ref zlc])), (zln, .inr (4, [.ref zlnA, .int 0])), (zll, .inr (4, [.ref zllA, .int 0])), (zlc, .inr (4, [.ref zlcA, .int 0])), (st, .inr (6, [.ref la, .ref me, .ref li, .int tol, .int su, .int fa])), (la, .inr (2, [.ref ld, .ref lz])), (ld, .inr (4, [.ref ldA, .int 0])), (lz, .inr (4, [.ref lzA, .int 0])), (me, .inr (4, [.ref meA, .int 1])), (li, .inr (0, [.ref ln, .ref ll, .ref lc])), (ln, .inr (4, [.ref lnA, .int 0])), (ll, .inr (4, [.ref llA, .int 0])), (lc, .inr (4, [.ref lcA, .int 0])), (meA, .inl (K, 41, .inl mg_2))] := hD
  refine lv_goto (tgt := 18) hx hb dL_measure_9 (by decide) ?_
  refine lv_iconst (v := 0) hx hb dL_measure_18 (by decide) ?_
  have hP9 : va_P D vwCl [(out, .inl (KL, 1, .inr (.inl (vp_updL ofn ((0 : Int32).toNatClampNeg) r_1.toInt64))))] H := hP.sub [0] rfl
  have hD9 : va_D A [(out, .inl (KL, 1, .inr (.inl (vp_updL ofn ((0 : Int32).toNatClampNeg) r_1.toInt64))))] := hD.sub [0] (by decide) rfl
  have hK9 : va_K D vwCl [] s := hK.sub [] rfl
  exact W.iret (v := 0) hx hb hr (fun t ht9 hW9 => ⟨⟨0, vp_updL ofn ((0 : Int32).toNatClampNeg) r_1.toInt64, rfl, by exact Or.inl ⟨hw_3.1, rfl, by rw [hw_3.2]; first | rfl | exact pk_uLs⟩, ⟨by rw [ht9]; exact hP9, va_K.moved hW9.alike hK9, hD9⟩⟩, hS.F ht9⟩) hS.2.2 dL_measure_19
set_option maxHeartbeats 4000000 in
set_option maxRecDepth 100000 in
theorem c_L_setTolerance (l : Launch) (hst : l.stackTraces = false) (D : va_G) (w : Nat) (st : Nat) (hi : Nat) (re : Nat) (fo : Nat) (bu : Nat) (pa : Nat) (ri : Nat) (KS : ClassId) (rf : Nat → Option Nat) (zst : Nat) (zla : Nat) (zme : Nat) (zli : Nat) (ztol : Int32) (zsu : Int32) (zfa : Int32) (zld : Nat) (zlz : Nat) (zldA : Nat) (zldN : Int32) (zlzA : Nat) (zlzN : Int32) (zmeA : Nat) (zmeN : Int32) (zln : Nat) (zll : Nat) (zlc : Nat) (zlnA : Nat) (zlnN : Int32) (zllA : Nat) (zllN : Int32) (zlcA : Nat) (zlcN : Int32) (la : Nat) (me : Nat) (li : Nat) (tol : Int32) (su : Int32) (fa : Int32) (ld : Nat) (lz : Nat) (ldA : Nat) (lzA : Nat) (meA : Nat) (ln : Nat) (ll : Nat) (lc : Nat) (lnA : Nat) (llA : Nat) (lcA : Nat) (i : Int32) (out : Nat) (KL : ClassId) (ofn : Nat → Int64) (hrf : rf 0 = some zst) (sz : Nat) : k_Wi (S := Nat → Int64) l D yL_setTolerance cL_setTolerance 4 (some .int) [(0, 9, 12, 13)] 7 1 6 148 [.ref w, .int i, .ref out] [(w, .inr (7, [.ref st, .ref hi, .ref re, .ref fo, .ref bu, .ref pa])), (hi, .inr (5, [.ref ri, .int 0, .int 0])), (ri, .inl (KS, 6, .inr (.inr (.inr (.inr rf))))), (zst, .inr (6, [.ref zla, .ref zme, .ref zli, .int ztol, .int zsu, .int zfa])), (zla, .inr (2, [.ref zld, .ref zlz])), (zld, .inr (4, [.ref zldA, .int zldN])), (zlz, .inr (4, [.ref zlzA, .int zlzN])), (zme, .inr (4, [.ref zmeA, .int zmeN])), (zli, .inr (0, [.ref zln, .ref zll, .ref zlc])), (zln, .inr (4, [.ref zlnA, .int zlnN])), (zll, .inr (4, [.ref zllA, .int zllN])), (zlc, .inr (4, [.ref zlcA, .int zlcN])), (st, .inr (6, [.ref la, .ref me, .ref li, .int tol, .int su, .int fa])), (la, .inr (2, [.ref ld, .ref lz])), (ld, .inr (4, [.ref ldA, .int 0])), (lz, .inr (4, [.ref lzA, .int 0])), (me, .inr (4, [.ref meA, .int 0])), (li, .inr (0, [.ref ln, .ref ll, .ref lc])), (ln, .inr (4, [.ref lnA, .int 0])), (ll, .inr (4, [.ref llA, .int 0])), (lc, .inr (4, [.ref lcA, .int 0])), (out, .inl (KL, 1, .inr (.inl ofn)))] [(KS, .object "BarcodeWand$State"), (KL, .long)] (fun (r : Int32) (og : Nat → Int64) => (k_tol i ∧ r = 0 ∧ og 0 = tol.toInt64) ∨ (¬ k_tol i ∧ r = 1)) (fun og => [(out, .inl (KL, 1, .inr (.inl og)))]) (fun og => []) sz := by
  refine va_MetW (cc := cL_setTolerance) (maxL := 4) (ret := (some .int)) (hh := [(0, 9, 12, 13)]) (by decide) rfl ?_
  intro p e s m args below meth c s₁ B hml hv
  obtain ⟨rfl, hsz, hP, hK, hD0, hG⟩ := hv
  have hx := B.exec
  have hb := B.bytes
  have hr := B.returns
  have ht : ∀ v9 ∈ wsA, v9.before ([.ref w, .int i, .ref out] : List Value).toArray s = true := fun v9 h9 => atoms_spec (ws := Cond.codeWith yL_setTolerance cL_setTolerance 4 (some .int) [(0, 9, 12, 13)] :: wsA) B.pre v9 (List.mem_cons_of_mem _ h9)
  have htab : c.exceptionTable.toList = tableOf [(0, 9, 12, 13)] := vx_table (x := yL_setTolerance) B (atoms_spec (ws := Cond.codeWith yL_setTolerance cL_setTolerance 4 (some .int) [(0, 9, 12, 13)] :: wsA) B.pre _ List.mem_cons_self)
  have hown : s.vm.findClass RL = some m.cls := findClass_of_methodNamed B.named
  have S0 : k_C p s m ([.ref w, .int i, .ref out] : List Value).toArray c cL_setTolerance 4 RL := ⟨hx, hb, hml, hown, ht⟩
  have hlocks := B.notSynchronized
  subst hsz
  have hD := hD0.self (sz := s.heap.size)
  generalize hAe : va_A [(w, .inr (7, [.ref st, .ref hi, .ref re, .ref fo, .ref bu, .ref pa])), (hi, .inr (5, [.ref ri, .int 0, .int 0])), (ri, .inl (KS, 6, .inr (.inr (.inr (.inr rf))))), (zst, .inr (6, [.ref zla, .ref zme, .ref zli, .int ztol, .int zsu, .int zfa])), (zla, .inr (2, [.ref zld, .ref zlz])), (zld, .inr (4, [.ref zldA, .int zldN])), (zlz, .inr (4, [.ref zlzA, .int zlzN])), (zme, .inr (4, [.ref zmeA, .int zmeN])), (zli, .inr (0, [.ref zln, .ref zll, .ref zlc])), (zln, .inr (4, [.ref zlnA, .int zlnN])), (zll, .inr (4, [.ref zllA, .int zllN])), (zlc, .inr (4, [.ref zlcA, .int zlcN])), (st, .inr (6, [.ref la, .ref me, .ref li, .int tol, .int su, .int fa])), (la, .inr (2, [.ref ld, .ref lz])), (ld, .inr (4, [.ref ldA, .int 0])), (lz, .inr (4, [.ref lzA, .int 0])), (me, .inr (4, [.ref meA, .int 0])), (li, .inr (0, [.ref ln, .ref ll, .ref lc])), (ln, .inr (4, [.ref lnA, .int 0])), (ll, .inr (4, [.ref llA, .int 0])), (lc, .inr (4, [.ref lcA, .int 0])), (out, .inl (KL, 1, .inr (.inl ofn)))] s.heap.size = A at hD hG ⊢
  have hA : ∀ q : Nat, s.heap.size ≤ q → A q := fun q h => by rw [← hAe]; exact Or.inr h
  have hS : va_S A s.heap s.heap [] := va_S.rf
  have hl := lv_entry ([.ref w, .int i, .ref out]) (n := 4) (Nat.le_of_ble_eq_true rfl)
  rw [lg_entry_eq]
  generalize (lg_sl ([.ref w, .int i, .ref out]) ++ List.replicate (4 - (lg_sl ([.ref w, .int i, .ref out])).length) Slot.unset).toArray = ls at hl ⊢
  have hl : lv_has ls 4 [(0, .ref w), (1, .int i), (2, .ref out)] := hl
  have hP : va_P D vwCl [(w, .inr (7, [.ref st, .ref hi, .ref re, .ref fo, .ref bu, .ref pa])), (hi, .inr (5, [.ref ri, .int 0, .int 0])), (ri, .inl (KS, 6, .inr (.inr (.inr (.inr rf))))), (zst, .inr (6, [.ref zla, .ref zme, .ref zli, .int ztol, .int zsu, .int zfa])), (zla, .inr (2, [.ref zld, .ref zlz])), (zld, .inr (4, [.ref zldA, .int zldN])), (zlz, .inr (4, [.ref zlzA, .int zlzN])), (zme, .inr (4, [.ref zmeA, .int zmeN])), (zli, .inr (0, [.ref zln, .ref zll, .ref zlc])), (zln, .inr (4, [.ref zlnA, .int zlnN])), (zll, .inr (4, [.ref zllA, .int zllN])), (zlc, .inr (4, [.ref zlcA, .int zlcN])), (st, .inr (6, [.ref la, .ref me, .ref li, .int tol, .int su, .int fa])), (la, .inr (2, [.ref ld, .ref lz])), (ld, .inr (4, [.ref ldA, .int 0])), (lz, .inr (4, [.ref lzA, .int 0])), (me, .inr (4, [.ref meA, .int 0])), (li, .inr (0, [.ref ln, .ref ll, .ref lc])), (ln, .inr (4, [.ref lnA, .int 0])), (ll, .inr (4, [.ref llA, .int 0])), (lc, .inr (4, [.ref lcA, .int 0])), (out, .inl (KL, 1, .inr (.inl ofn)))] s.heap := hP
  refine lv_aload_n hx hb dL_setTolerance_0 rfl (lv_at hl 2 rfl) ?_
  refine lv_iconst (v := 0) hx hb dL_setTolerance_1 (by decide) ?_
  refine lv_aload_n hx hb dL_setTolerance_2 rfl (lv_at hl 0 rfl) ?_
  refine lv_iload_n hx hb dL_setTolerance_3 rfl (lv_at hl 1 rfl) ?_
  have ct := k_cut_of (wc := [(w, .inr (7, [.ref st, .ref hi, .ref re, .ref fo, .ref bu, .ref pa])), (hi, .inr (5, [.ref ri, .int 0, .int 0])), (ri, .inl (KS, 6, .inr (.inr (.inr (.inr rf))))), (zst, .inr (6, [.ref zla, .ref zme, .ref zli, .int ztol, .int zsu, .int zfa])), (zla, .inr (2, [.ref zld, .ref zlz])), (zld, .inr (4, [.ref zldA, .int zldN])), (zlz, .inr (4, [.ref zlzA, .int zlzN])), (zme, .inr (4, [.ref zmeA, .int zmeN])), (zli, .inr (0, [.ref zln, .ref zll, .ref zlc])), (zln, .inr (4, [.ref zlnA, .int zlnN])), (zll, .inr (4, [.ref zllA, .int zllN])), (zlc, .inr (4, [.ref zlcA, .int zlcN])), (st, .inr (6, [.ref la, .ref me, .ref li, .int tol, .int su, .int fa])), (la, .inr (2, [.ref ld, .ref lz])), (ld, .inr (4, [.ref ldA, .int 0])), (lz, .inr (4, [.ref lzA, .int 0])), (me, .inr (4, [.ref meA, .int 0])), (li, .inr (0, [.ref ln, .ref ll, .ref lc])), (ln, .inr (4, [.ref lnA, .int 0])), (ll, .inr (4, [.ref llA, .int 0])), (lc, .inr (4, [.ref lcA, .int 0]))]) (wr := [(out, .inl (KL, 1, .inr (.inl ofn)))]) (tc := [(KS, .object "BarcodeWand$State")]) hG hS hA hK hP hD [0, 1, 2, 3, 4, 5, 6, 7, 8, 9, 10, 11, 12, 13, 14, 15, 16, 17, 18, 19, 20] [21] [0] rfl rfl (by decide) (by decide) (by decide) rfl
  refine k_endXi (EX := fun E => E = "java/lang/IllegalArgumentException" ∧ ¬ k_tol i) (As := [.ref w, .int i]) ct (k_xrunV (As := [.int i]) (rest := [.int 0, .ref out]) S0 Lv_L_39 rfl (ci := 7) (q0 := 0) rfl rfl ct (c_W_setTol l hst D w st hi re fo bu pa ri KS rf zst zla zme zli ztol zsu zfa zld zlz zldA zldN zlzA zlzN zmeA zmeN zln zll zlc zlnA zlnN zllA zllN zlcA zlcN la me li tol su fa ld lz ldA lzA meA ln ll lc lnA llA lcA i (by assumption) s.heap.size) hl.1 rfl (Nat.le_of_ble_eq_true rfl) rfl dL_setTolerance_4 ⟨⟨Nat.le_of_ble_eq_true rfl, Nat.le_of_ble_eq_true rfl⟩, Nat.le_of_ble_eq_true rfl, Nat.le_of_ble_eq_true rfl⟩) rfl rfl ?_ (fun r_1 _ H locs hw_2 hP hD hK hS => ?_)
  · intro E ce q9 H locs hE hP hD hS hq9 hv9 hcl9
    try dsimp only at hE
    have hP : va_P D vwCl [(out, .inl (KL, 1, .inr (.inl ofn))), (w, .inr (7, [.ref st, .ref hi, .ref re, .ref fo, .ref bu, .ref pa])), (hi, .inr (5, [.ref ri, .int 0, .int 0])), (ri, .inl (KS, 6, .inr (.inr (.inr (.inr rf))))), (zst, .inr (6, [.ref zla, .ref zme, .ref zli, .int ztol, .int zsu, .int zfa])), (zla, .inr (2, [.ref zld, .ref zlz])), (zld, .inr (4, [.ref zldA, .int zldN])), (zlz, .inr (4, [.ref zlzA, .int zlzN])), (zme, .inr (4, [.ref zmeA, .int zmeN])), (zli, .inr (0, [.ref zln, .ref zll, .ref zlc])), (zln, .inr (4, [.ref zlnA, .int zlnN])), (zll, .inr (4, [.ref zllA, .int zllN])), (zlc, .inr (4, [.ref zlcA, .int zlcN])), (st, .inr (6, [.ref la, .ref me, .ref li, .int tol, .int su, .int fa])), (la, .inr (2, [.ref ld, .ref lz])), (ld, .inr (4, [.ref ldA, .int 0])), (lz, .inr (4, [.ref lzA, .int 0])), (me, .inr (4, [.ref meA, .int 0])), (li, .inr (0, [.ref ln, .ref ll, .ref lc])), (ln, .inr (4, [.ref lnA, .int 0])), (ll, .inr (4, [.ref llA, .int 0])), (lc, .inr (4, [.ref lcA, .int 0]))] H := hP
    have hD : va_D A [(out, .inl (KL, 1, .inr (.inl ofn))), (w, .inr (7, [.ref st, .ref hi, .ref re, .ref fo, .ref bu, .ref pa])), (hi, .inr (5, [.ref ri, .int 0, .int 0])), (ri, .inl (KS, 6, .inr (.inr (.inr (.inr rf))))), (zst, .inr (6, [.ref zla, .ref zme, .ref zli, .int ztol, .int zsu, .int zfa])), (zla, .inr (2, [.ref zld, .ref zlz])), (zld, .inr (4, [.ref zldA, .int zldN])), (zlz, .inr (4, [.ref zlzA, .int zlzN])), (zme, .inr (4, [.ref zmeA, .int zmeN])), (zli, .inr (0, [.ref zln, .ref zll, .ref zlc])), (zln, .inr (4, [.ref zlnA, .int zlnN])), (zll, .inr (4, [.ref zllA, .int zllN])), (zlc, .inr (4, [.ref zlcA, .int zlcN])), (st, .inr (6, [.ref la, .ref me, .ref li, .int tol, .int su, .int fa])), (la, .inr (2, [.ref ld, .ref lz])), (ld, .inr (4, [.ref ldA, .int 0])), (lz, .inr (4, [.ref lzA, .int 0])), (me, .inr (4, [.ref meA, .int 0])), (li, .inr (0, [.ref ln, .ref ll, .ref lc])), (ln, .inr (4, [.ref lnA, .int 0])), (ll, .inr (4, [.ref llA, .int 0])), (lc, .inr (4, [.ref lcA, .int 0]))] := hD
    obtain ⟨hE, hcE⟩ := hE
    subst hE
    refine vx_catch hown [] ⟨0, 9, 12, 13⟩ [] (by rw [htab]; rfl) (fun z9 h9 => absurd h9 List.not_mem_nil) (by decide) (by decide) (ht _ lc_L_13) (va_Nw.use rfl (hG.1 _ (List.mem_of_getElem? (i := 580) rfl) rfl)) hq9 hv9 hcl9 ?_
    refine lv_astore_n (lv' := [(3, .ref q9), (0, .ref w), (1, .int i), (2, .ref out)]) hx hb dL_setTolerance_12 rfl hl (by decide) rfl (fun ls hl => ?_)
    refine lv_iconst (v := 1) hx hb dL_setTolerance_13 (by decide) ?_
    have hP9 : va_P D vwCl [(out, .inl (KL, 1, .inr (.inl ofn)))] H := hP.sub [0] rfl
    have hD9 : va_D A [(out, .inl (KL, 1, .inr (.inl ofn)))] := hD.sub [0] (by decide) rfl
    have hK9 : va_K D vwCl [] s := hK.sub [] rfl
    exact W.iret (v := 1) hx hb hr (fun t ht9 hW9 => ⟨⟨1, ofn, rfl, by exact Or.inr ⟨hcE, rfl⟩, ⟨by rw [ht9]; exact hP9, va_K.moved hW9.alike hK9, hD9⟩⟩, hS.F ht9⟩) hS.2.2 dL_setTolerance_14
  have hK : va_K D vwCl [(KS, .object "BarcodeWand$State"), (KL, .long)] s := hK
  have hP : va_P D vwCl [(out, .inl (KL, 1, .inr (.inl ofn))), (w, .inr (7, [.ref st, .ref hi, .ref re, .ref fo, .ref bu, .ref pa])), (hi, .inr (5, [.ref ri, .int 1, .int 1])), (ri, .inl (KS, 6, .inr (.inr (.inr (.inr rf))))), (zst, .inr (6, [.ref zla, .ref zme, .ref zli, .int tol, .int su, .int fa])), (zla, .inr (2, [.ref zld, .ref zlz])), (zld, .inr (4, [.ref zldA, .int 0])), (zlz, .inr (4, [.ref zlzA, .int 0])), (zme, .inr (4, [.ref zmeA, .int 0])), (zli, .inr (0, [.ref zln, .ref zll, .ref zlc])), (zln, .inr (4, [.ref zlnA, .int 0])), (zll, .inr (4, [.ref zllA, .int 0])), (zlc, .inr (4, [.ref zlcA, .int 0])), (st, .inr (6, [.ref la, .ref me, .ref li, .int i, .int su, .int fa])), (la, .inr (2, [.ref ld, .ref lz])), (ld, .inr (4, [.ref ldA, .int 0])), (lz, .inr (4, [.ref lzA, .int 0])), (me, .inr (4, [.ref meA, .int 0])), (li, .inr (0, [.ref ln, .ref ll, .ref lc])), (ln, .inr (4, [.ref lnA, .int 0])), (ll, .inr (4, [.ref llA, .int 0])), (lc, .inr (4, [.ref lcA, .int 0]))] H := hP
  have hD : va_D A [(out, .inl (KL, 1, .inr (.inl ofn))), (w, .inr (7, [.ref st, .ref hi, .ref re, .ref fo, .ref bu, .ref pa])), (hi, .inr (5, [.ref ri, .int 1, .int 1])), (ri, .inl (KS, 6, .inr (.inr (.inr (.inr rf))))), (zst, .inr (6, [.ref zla, .ref zme, .ref zli, .int tol, .int su, .int fa])), (zla, .inr (2, [.ref zld, .ref zlz])), (zld, .inr (4, [.ref zldA, .int 0])), (zlz, .inr (4, [.ref zlzA, .int 0])), (zme, .inr (4, [.ref zmeA, .int 0])), (zli, .inr (0, [.ref zln, .ref zll, .ref zlc])), (zln, .inr (4, [.ref zlnA, .int 0])), (zll, .inr (4, [.ref zllA, .int 0])), (zlc, .inr (4, [.ref zlcA, .int 0])), (st, .inr (6, [.ref la, .ref me, .ref li, .int i, .int su, .int fa])), (la, .inr (2, [.ref ld, .ref lz])), (ld, .inr (4, [.ref ldA, .int 0])), (lz, .inr (4, [.ref lzA, .int 0])), (me, .inr (4, [.ref meA, .int 0])), (li, .inr (0, [.ref ln, .ref ll, .ref lc])), (ln, .inr (4, [.ref lnA, .int 0])), (ll, .inr (4, [.ref llA, .int 0])), (lc, .inr (4, [.ref lcA, .int 0]))] := hD
  have hw_2 : k_tol i ∧ r_1 = tol := hw_2
  refine lv_i2l (v := r_1.toInt64) hx hb dL_setTolerance_7 rfl ?_
  refine va_last hx hb hK hP hD hS 0 1 rfl rfl (by unfold vp_in; decide) dL_setTolerance_8 (fun H locs hP hD hS => ?_)
  have hP : va_P D vwCl [(out, .inl (KL, 1, .inr (.inl (vp_updL ofn ((0 : Int32).toNatClampNeg) r_1.toInt64)))), (w, .inr (7, [.ref st, .ref hi, .ref re, .ref fo, .ref bu, .ref pa])), (hi, .inr (5, [.ref ri, .int 1, .int 1])), (ri, .inl (KS, 6, .inr (.inr (.inr (.inr rf))))), (zst, .inr (6, [.ref zla, .ref zme, .ref zli, .int tol, .int su, .int fa])), (zla, .inr (2, [.ref zld, .ref zlz])), (zld, .inr (4, [.ref zldA, .int 0])), (zlz, .inr (4, [.ref zlzA, .int 0])), (zme, .inr (4, [.ref zmeA, .int 0])), (zli, .inr (0, [.ref zln, .ref zll, .ref zlc])), (zln, .inr (4, [.ref zlnA, .int 0])), (zll, .inr (4, [.ref zllA, .int 0])), (zlc, .inr (4, [.ref zlcA, .int 0])), (st, .inr (6, [.ref la, .ref me, .ref li, .int i, .int su, .int fa])), (la, .inr (2, [.ref ld, .ref lz])), (ld, .inr (4, [.ref ldA, .int 0])), (lz, .inr (4, [.ref lzA, .int 0])), (me, .inr (4, [.ref meA, .int 0])), (li, .inr (0, [.ref ln, .ref ll, .ref lc])), (ln, .inr (4, [.ref lnA, .int 0])), (ll, .inr (4, [.ref llA, .int 0])), (lc, .inr (4, [.ref lcA, .int 0]))] H := hP
  have hD : va_D A [(out, .inl (KL, 1, .inr (.inl (vp_updL ofn ((0 : Int32).toNatClampNeg) r_1.toInt64)))), (w, .inr (7, [.ref st, .ref hi, .ref re, .ref fo, .ref bu, .ref pa])), (hi, .inr (5, [.ref ri, .int 1, .int 1])), (ri, .inl (KS, 6, .inr (.inr (.inr (.inr rf))))), (zst, .inr (6, [.ref zla, .ref zme, .ref zli, .int tol, .int su, .int fa])), (zla, .inr (2, [.ref zld, .ref zlz])), (zld, .inr (4, [.ref zldA, .int 0])), (zlz, .inr (4, [.ref zlzA, .int 0])), (zme, .inr (4, [.ref zmeA, .int 0])), (zli, .inr (0, [.ref zln, .ref zll, .ref zlc])), (zln, .inr (4, [.ref zlnA, .int 0])), (zll, .inr (4, [.ref zllA, .int 0])), (zlc, .inr (4, [.ref zlcA, .int 0])), (st, .inr (6, [.ref la, .ref me, .ref li, .int i, .int su, .int fa])), (la, .inr (2, [.ref ld, .ref lz])), (ld, .inr (4, [.ref ldA, .int 0])), (lz, .inr (4, [.ref lzA, .int 0])), (me, .inr (4, [.ref meA, .int 0])), (li, .inr (0, [.ref ln, .ref ll, .ref lc])), (ln, .inr (4, [.ref lnA, .int 0])), (ll, .inr (4, [.ref llA, .int 0])), (lc, .inr (4, [.ref lcA, .int 0]))] := hD
  refine lv_goto (tgt := 15) hx hb dL_setTolerance_9 (by decide) ?_
  refine lv_iconst (v := 0) hx hb dL_setTolerance_15 (by decide) ?_
  have hP9 : va_P D vwCl [(out, .inl (KL, 1, .inr (.inl (vp_updL ofn ((0 : Int32).toNatClampNeg) r_1.toInt64))))] H := hP.sub [0] rfl
  have hD9 : va_D A [(out, .inl (KL, 1, .inr (.inl (vp_updL ofn ((0 : Int32).toNatClampNeg) r_1.toInt64))))] := hD.sub [0] (by decide) rfl
  have hK9 : va_K D vwCl [] s := hK.sub [] rfl
  exact W.iret (v := 0) hx hb hr (fun t ht9 hW9 => ⟨⟨0, vp_updL ofn ((0 : Int32).toNatClampNeg) r_1.toInt64, rfl, by exact Or.inl ⟨hw_2.1, rfl, by rw [hw_2.2]; first | rfl | exact pk_uLs⟩, ⟨by rw [ht9]; exact hP9, va_K.moved hW9.alike hK9, hD9⟩⟩, hS.F ht9⟩) hS.2.2 dL_setTolerance_16
set_option maxHeartbeats 4000000 in
set_option maxRecDepth 100000 in
theorem c_L_digit (l : Launch) (hst : l.stackTraces = false) (D : va_G) (w : Nat) (st : Nat) (hi : Nat) (re : Nat) (fo : Nat) (bu : Nat) (pa : Nat) (la : Nat) (me : Nat) (li : Nat) (tol : Int32) (su : Int32) (fa : Int32) (meA : Nat) (rd : Nat) (nd : Int32) (rl : Nat) (ldi : Int32) (sot : Int32) (tie : Int32) (ff : Int32) (ft : Int32) (rdA : Nat) (rdN : Int32) (rlA : Nat) (rlN : Int32) (i : Int32) (out : Nat) (KL : ClassId) (ofn : Nat → Int64) (sz : Nat) : k_Wi (S := Nat → Int64) l D yL_digit cL_digit 4 (some .int) [(0, 9, 12, 18)] 7 1 6 115 [.ref w, .int i, .ref out] [(w, .inr (7, [.ref st, .ref hi, .ref re, .ref fo, .ref bu, .ref pa])), (st, .inr (6, [.ref la, .ref me, .ref li, .int tol, .int su, .int fa])), (me, .inr (4, [.ref meA, .int 0])), (re, .inr (3, [.ref rd, .int nd, .ref rl, .int ldi, .int sot, .int tie, .int ff, .int ft])), (rd, .inr (4, [.ref rdA, .int rdN])), (rl, .inr (4, [.ref rlA, .int rlN])), (out, .inl (KL, 1, .inr (.inl ofn)))] [(KL, .long)] (fun (r : Int32) (og : Nat → Int64) => (k_in9 i ∧ r = 0 ∧ og 0 = (-1 : Int32).toInt64) ∨ (¬ k_in9 i ∧ r = 1)) (fun og => [(out, .inl (KL, 1, .inr (.inl og)))]) (fun og => []) sz := by
  refine va_MetW (cc := cL_digit) (maxL := 4) (ret := (some .int)) (hh := [(0, 9, 12, 18)]) (by decide) rfl ?_
  intro p e s m args below meth c s₁ B hml hv
  obtain ⟨rfl, hsz, hP, hK, hD0, hG⟩ := hv
  have hx := B.exec
  have hb := B.bytes
  have hr := B.returns
  have ht : ∀ v9 ∈ wsA, v9.before ([.ref w, .int i, .ref out] : List Value).toArray s = true := fun v9 h9 => atoms_spec (ws := Cond.codeWith yL_digit cL_digit 4 (some .int) [(0, 9, 12, 18)] :: wsA) B.pre v9 (List.mem_cons_of_mem _ h9)
  have htab : c.exceptionTable.toList = tableOf [(0, 9, 12, 18)] := vx_table (x := yL_digit) B (atoms_spec (ws := Cond.codeWith yL_digit cL_digit 4 (some .int) [(0, 9, 12, 18)] :: wsA) B.pre _ List.mem_cons_self)
  have hown : s.vm.findClass RL = some m.cls := findClass_of_methodNamed B.named
  have S0 : k_C p s m ([.ref w, .int i, .ref out] : List Value).toArray c cL_digit 4 RL := ⟨hx, hb, hml, hown, ht⟩
  have hlocks := B.notSynchronized
  subst hsz
  have hD := hD0.self (sz := s.heap.size)
  generalize hAe : va_A [(w, .inr (7, [.ref st, .ref hi, .ref re, .ref fo, .ref bu, .ref pa])), (st, .inr (6, [.ref la, .ref me, .ref li, .int tol, .int su, .int fa])), (me, .inr (4, [.ref meA, .int 0])), (re, .inr (3, [.ref rd, .int nd, .ref rl, .int ldi, .int sot, .int tie, .int ff, .int ft])), (rd, .inr (4, [.ref rdA, .int rdN])), (rl, .inr (4, [.ref rlA, .int rlN])), (out, .inl (KL, 1, .inr (.inl ofn)))] s.heap.size = A at hD hG ⊢
  have hA : ∀ q : Nat, s.heap.size ≤ q → A q := fun q h => by rw [← hAe]; exact Or.inr h
  have hS : va_S A s.heap s.heap [] := va_S.rf
  have hl := lv_entry ([.ref w, .int i, .ref out]) (n := 4) (Nat.le_of_ble_eq_true rfl)
  rw [lg_entry_eq]
  generalize (lg_sl ([.ref w, .int i, .ref out]) ++ List.replicate (4 - (lg_sl ([.ref w, .int i, .ref out])).length) Slot.unset).toArray = ls at hl ⊢
  have hl : lv_has ls 4 [(0, .ref w), (1, .int i), (2, .ref out)] := hl
  have hP : va_P D vwCl [(w, .inr (7, [.ref st, .ref hi, .ref re, .ref fo, .ref bu, .ref pa])), (st, .inr (6, [.ref la, .ref me, .ref li, .int tol, .int su, .int fa])), (me, .inr (4, [.ref meA, .int 0])), (re, .inr (3, [.ref rd, .int nd, .ref rl, .int ldi, .int sot, .int tie, .int ff, .int ft])), (rd, .inr (4, [.ref rdA, .int rdN])), (rl, .inr (4, [.ref rlA, .int rlN])), (out, .inl (KL, 1, .inr (.inl ofn)))] s.heap := hP
  refine lv_aload_n hx hb dL_digit_0 rfl (lv_at hl 2 rfl) ?_
  refine lv_iconst (v := 0) hx hb dL_digit_1 (by decide) ?_
  refine lv_aload_n hx hb dL_digit_2 rfl (lv_at hl 0 rfl) ?_
  refine lv_iload_n hx hb dL_digit_3 rfl (lv_at hl 1 rfl) ?_
  have ct := k_cut_of (wc := [(w, .inr (7, [.ref st, .ref hi, .ref re, .ref fo, .ref bu, .ref pa])), (st, .inr (6, [.ref la, .ref me, .ref li, .int tol, .int su, .int fa])), (me, .inr (4, [.ref meA, .int 0])), (re, .inr (3, [.ref rd, .int nd, .ref rl, .int ldi, .int sot, .int tie, .int ff, .int ft])), (rd, .inr (4, [.ref rdA, .int rdN])), (rl, .inr (4, [.ref rlA, .int rlN]))]) (wr := [(out, .inl (KL, 1, .inr (.inl ofn)))]) (tc := []) hG hS hA hK hP hD [0, 1, 2, 3, 4, 5] [6] [] rfl rfl (by decide) (by decide) (by decide) rfl
  refine k_endXi (EX := fun E => E = "java/lang/IndexOutOfBoundsException" ∧ ¬ k_in9 i) (As := [.ref w, .int i]) ct (k_xrunV (As := [.int i]) (rest := [.int 0, .ref out]) S0 Lv_L_42 rfl (ci := 7) (q0 := 0) rfl rfl ct (c_W_digit l hst D w st hi re fo bu pa la me li tol su fa meA rd nd rl ldi sot tie ff ft rdA rdN rlA rlN i s.heap.size) hl.1 rfl (Nat.le_of_ble_eq_true rfl) rfl dL_digit_4 ⟨⟨Nat.le_of_ble_eq_true rfl, Nat.le_of_ble_eq_true rfl⟩, Nat.le_of_ble_eq_true rfl, Nat.le_of_ble_eq_true rfl⟩) rfl rfl ?_ (fun r_1 _ H locs hw_2 hP hD hK hS => ?_)
  · intro E ce q9 H locs hE hP hD hS hq9 hv9 hcl9
    try dsimp only at hE
    have hP : va_P D vwCl [(out, .inl (KL, 1, .inr (.inl ofn))), (w, .inr (7, [.ref st, .ref hi, .ref re, .ref fo, .ref bu, .ref pa])), (st, .inr (6, [.ref la, .ref me, .ref li, .int tol, .int su, .int fa])), (me, .inr (4, [.ref meA, .int 0])), (re, .inr (3, [.ref rd, .int nd, .ref rl, .int ldi, .int sot, .int tie, .int ff, .int ft])), (rd, .inr (4, [.ref rdA, .int rdN])), (rl, .inr (4, [.ref rlA, .int rlN]))] H := hP
    have hD : va_D A [(out, .inl (KL, 1, .inr (.inl ofn))), (w, .inr (7, [.ref st, .ref hi, .ref re, .ref fo, .ref bu, .ref pa])), (st, .inr (6, [.ref la, .ref me, .ref li, .int tol, .int su, .int fa])), (me, .inr (4, [.ref meA, .int 0])), (re, .inr (3, [.ref rd, .int nd, .ref rl, .int ldi, .int sot, .int tie, .int ff, .int ft])), (rd, .inr (4, [.ref rdA, .int rdN])), (rl, .inr (4, [.ref rlA, .int rlN]))] := hD
    obtain ⟨hE, hcE⟩ := hE
    subst hE
    refine vx_catch hown [] ⟨0, 9, 12, 18⟩ [] (by rw [htab]; rfl) (fun z9 h9 => absurd h9 List.not_mem_nil) (by decide) (by decide) (ht _ lc_L_18) (va_Nw.use rfl (hG.1 _ (List.mem_of_getElem? (i := 486) rfl) rfl)) hq9 hv9 hcl9 ?_
    refine lv_astore_n (lv' := [(3, .ref q9), (0, .ref w), (1, .int i), (2, .ref out)]) hx hb dL_digit_12 rfl hl (by decide) rfl (fun ls hl => ?_)
    refine lv_iconst (v := 1) hx hb dL_digit_13 (by decide) ?_
    have hP9 : va_P D vwCl [(out, .inl (KL, 1, .inr (.inl ofn)))] H := hP.sub [0] rfl
    have hD9 : va_D A [(out, .inl (KL, 1, .inr (.inl ofn)))] := hD.sub [0] (by decide) rfl
    have hK9 : va_K D vwCl [] s := hK.sub [] rfl
    exact W.iret (v := 1) hx hb hr (fun t ht9 hW9 => ⟨⟨1, ofn, rfl, by exact Or.inr ⟨hcE, rfl⟩, ⟨by rw [ht9]; exact hP9, va_K.moved hW9.alike hK9, hD9⟩⟩, hS.F ht9⟩) hS.2.2 dL_digit_14
  have hK : va_K D vwCl [(KL, .long)] s := hK
  have hP : va_P D vwCl [(out, .inl (KL, 1, .inr (.inl ofn))), (w, .inr (7, [.ref st, .ref hi, .ref re, .ref fo, .ref bu, .ref pa])), (st, .inr (6, [.ref la, .ref me, .ref li, .int tol, .int su, .int fa])), (me, .inr (4, [.ref meA, .int 0])), (re, .inr (3, [.ref rd, .int nd, .ref rl, .int ldi, .int sot, .int tie, .int 0, .int 0])), (rd, .inr (4, [.ref rdA, .int 0])), (rl, .inr (4, [.ref rlA, .int 0]))] H := hP
  have hD : va_D A [(out, .inl (KL, 1, .inr (.inl ofn))), (w, .inr (7, [.ref st, .ref hi, .ref re, .ref fo, .ref bu, .ref pa])), (st, .inr (6, [.ref la, .ref me, .ref li, .int tol, .int su, .int fa])), (me, .inr (4, [.ref meA, .int 0])), (re, .inr (3, [.ref rd, .int nd, .ref rl, .int ldi, .int sot, .int tie, .int 0, .int 0])), (rd, .inr (4, [.ref rdA, .int 0])), (rl, .inr (4, [.ref rlA, .int 0]))] := hD
  have hw_2 : k_in9 i ∧ r_1 = (-1) := hw_2
  refine lv_i2l (v := r_1.toInt64) hx hb dL_digit_7 rfl ?_
  refine va_last hx hb hK hP hD hS 0 0 rfl rfl (by unfold vp_in; decide) dL_digit_8 (fun H locs hP hD hS => ?_)
  have hP : va_P D vwCl [(out, .inl (KL, 1, .inr (.inl (vp_updL ofn ((0 : Int32).toNatClampNeg) r_1.toInt64)))), (w, .inr (7, [.ref st, .ref hi, .ref re, .ref fo, .ref bu, .ref pa])), (st, .inr (6, [.ref la, .ref me, .ref li, .int tol, .int su, .int fa])), (me, .inr (4, [.ref meA, .int 0])), (re, .inr (3, [.ref rd, .int nd, .ref rl, .int ldi, .int sot, .int tie, .int 0, .int 0])), (rd, .inr (4, [.ref rdA, .int 0])), (rl, .inr (4, [.ref rlA, .int 0]))] H := hP
  have hD : va_D A [(out, .inl (KL, 1, .inr (.inl (vp_updL ofn ((0 : Int32).toNatClampNeg) r_1.toInt64)))), (w, .inr (7, [.ref st, .ref hi, .ref re, .ref fo, .ref bu, .ref pa])), (st, .inr (6, [.ref la, .ref me, .ref li, .int tol, .int su, .int fa])), (me, .inr (4, [.ref meA, .int 0])), (re, .inr (3, [.ref rd, .int nd, .ref rl, .int ldi, .int sot, .int tie, .int 0, .int 0])), (rd, .inr (4, [.ref rdA, .int 0])), (rl, .inr (4, [.ref rlA, .int 0]))] := hD
  refine lv_goto (tgt := 15) hx hb dL_digit_9 (by decide) ?_
  refine lv_iconst (v := 0) hx hb dL_digit_15 (by decide) ?_
  have hP9 : va_P D vwCl [(out, .inl (KL, 1, .inr (.inl (vp_updL ofn ((0 : Int32).toNatClampNeg) r_1.toInt64))))] H := hP.sub [0] rfl
  have hD9 : va_D A [(out, .inl (KL, 1, .inr (.inl (vp_updL ofn ((0 : Int32).toNatClampNeg) r_1.toInt64))))] := hD.sub [0] (by decide) rfl
  have hK9 : va_K D vwCl [] s := hK.sub [] rfl
  exact W.iret (v := 0) hx hb hr (fun t ht9 hW9 => ⟨⟨0, vp_updL ofn ((0 : Int32).toNatClampNeg) r_1.toInt64, rfl, by exact Or.inl ⟨hw_2.1, rfl, by rw [hw_2.2]; first | rfl | exact pk_uLs⟩, ⟨by rw [ht9]; exact hP9, va_K.moved hW9.alike hK9, hD9⟩⟩, hS.F ht9⟩) hS.2.2 dL_digit_16
set_option maxHeartbeats 4000000 in
set_option maxRecDepth 100000 in
theorem c_L_append (l : Launch) (hst : l.stackTraces = false) (D : va_G) (w : Nat) (st : Nat) (hi : Nat) (re : Nat) (fo : Nat) (bu : Nat) (pa : Nat) (buA : Nat) (K : ClassId) (bf : Nat → Int32) (i : Int32) (out : Nat) (KL : ClassId) (ofn : Nat → Int64) (sz : Nat) : k_Wi (S := Nat → Int64) l D yL_append cL_append 4 (some .int) [(0, 9, 12, 13), (0, 9, 15, 31)] 7 1 6 103 [.ref w, .int i, .ref out] [(w, .inr (7, [.ref st, .ref hi, .ref re, .ref fo, .ref bu, .ref pa])), (bu, .inr (4, [.ref buA, .int 0])), (buA, .inl (K, 60, .inl bf)), (out, .inl (KL, 1, .inr (.inl ofn)))] [(K, .int), (KL, .long)] (fun (r : Int32) (og : Nat → Int64) => (k_chr i ∧ r = 0 ∧ og 0 = (1 : Int32).toInt64) ∨ (¬ k_chr i ∧ r = 1)) (fun og => [(out, .inl (KL, 1, .inr (.inl og)))]) (fun og => []) sz := by
  refine va_MetW (cc := cL_append) (maxL := 4) (ret := (some .int)) (hh := [(0, 9, 12, 13), (0, 9, 15, 31)]) (by decide) rfl ?_
  intro p e s m args below meth c s₁ B hml hv
  obtain ⟨rfl, hsz, hP, hK, hD0, hG⟩ := hv
  have hx := B.exec
  have hb := B.bytes
  have hr := B.returns
  have ht : ∀ v9 ∈ wsA, v9.before ([.ref w, .int i, .ref out] : List Value).toArray s = true := fun v9 h9 => atoms_spec (ws := Cond.codeWith yL_append cL_append 4 (some .int) [(0, 9, 12, 13), (0, 9, 15, 31)] :: wsA) B.pre v9 (List.mem_cons_of_mem _ h9)
  have htab : c.exceptionTable.toList = tableOf [(0, 9, 12, 13), (0, 9, 15, 31)] := vx_table (x := yL_append) B (atoms_spec (ws := Cond.codeWith yL_append cL_append 4 (some .int) [(0, 9, 12, 13), (0, 9, 15, 31)] :: wsA) B.pre _ List.mem_cons_self)
  have hown : s.vm.findClass RL = some m.cls := findClass_of_methodNamed B.named
  have S0 : k_C p s m ([.ref w, .int i, .ref out] : List Value).toArray c cL_append 4 RL := ⟨hx, hb, hml, hown, ht⟩
  have hlocks := B.notSynchronized
  subst hsz
  have hD := hD0.self (sz := s.heap.size)
  generalize hAe : va_A [(w, .inr (7, [.ref st, .ref hi, .ref re, .ref fo, .ref bu, .ref pa])), (bu, .inr (4, [.ref buA, .int 0])), (buA, .inl (K, 60, .inl bf)), (out, .inl (KL, 1, .inr (.inl ofn)))] s.heap.size = A at hD hG ⊢
  have hA : ∀ q : Nat, s.heap.size ≤ q → A q := fun q h => by rw [← hAe]; exact Or.inr h
  have hS : va_S A s.heap s.heap [] := va_S.rf
  have hl := lv_entry ([.ref w, .int i, .ref out]) (n := 4) (Nat.le_of_ble_eq_true rfl)
  rw [lg_entry_eq]
  generalize (lg_sl ([.ref w, .int i, .ref out]) ++ List.replicate (4 - (lg_sl ([.ref w, .int i, .ref out])).length) Slot.unset).toArray = ls at hl ⊢
  have hl : lv_has ls 4 [(0, .ref w), (1, .int i), (2, .ref out)] := hl
  have hP : va_P D vwCl [(w, .inr (7, [.ref st, .ref hi, .ref re, .ref fo, .ref bu, .ref pa])), (bu, .inr (4, [.ref buA, .int 0])), (buA, .inl (K, 60, .inl bf)), (out, .inl (KL, 1, .inr (.inl ofn)))] s.heap := hP
  refine lv_aload_n hx hb dL_append_0 rfl (lv_at hl 2 rfl) ?_
  refine lv_iconst (v := 0) hx hb dL_append_1 (by decide) ?_
  refine lv_aload_n hx hb dL_append_2 rfl (lv_at hl 0 rfl) ?_
  refine lv_iload_n hx hb dL_append_3 rfl (lv_at hl 1 rfl) ?_
  have ct := k_cut_of (wc := [(w, .inr (7, [.ref st, .ref hi, .ref re, .ref fo, .ref bu, .ref pa])), (bu, .inr (4, [.ref buA, .int 0])), (buA, .inl (K, 60, .inl bf))]) (wr := [(out, .inl (KL, 1, .inr (.inl ofn)))]) (tc := [(K, .int)]) hG hS hA hK hP hD [0, 1, 2] [3] [0] rfl rfl (by decide) (by decide) (by decide) rfl
  refine k_endXi (EX := fun E => E = "java/lang/IllegalArgumentException" ∧ ¬ k_chr i) (As := [.ref w, .int i]) ct (k_xrunV (As := [.int i]) (rest := [.int 0, .ref out]) S0 Lv_L_63 rfl (ci := 7) (q0 := 0) rfl rfl ct (c_W_append l hst D w st hi re fo bu pa buA K bf i s.heap.size) hl.1 rfl (Nat.le_of_ble_eq_true rfl) rfl dL_append_4 ⟨⟨Nat.le_of_ble_eq_true rfl, Nat.le_of_ble_eq_true rfl⟩, Nat.le_of_ble_eq_true rfl, Nat.le_of_ble_eq_true rfl⟩) rfl rfl ?_ (fun r_1 bg_2 H locs hw_3 hP hD hK hS => ?_)
  · intro E ce q9 H locs hE hP hD hS hq9 hv9 hcl9
    try dsimp only at hE
    have hP : va_P D vwCl [(out, .inl (KL, 1, .inr (.inl ofn))), (w, .inr (7, [.ref st, .ref hi, .ref re, .ref fo, .ref bu, .ref pa])), (bu, .inr (4, [.ref buA, .int 0])), (buA, .inl (K, 60, .inl bf))] H := hP
    have hD : va_D A [(out, .inl (KL, 1, .inr (.inl ofn))), (w, .inr (7, [.ref st, .ref hi, .ref re, .ref fo, .ref bu, .ref pa])), (bu, .inr (4, [.ref buA, .int 0])), (buA, .inl (K, 60, .inl bf))] := hD
    obtain ⟨hE, hcE⟩ := hE
    subst hE
    refine vx_catch hown [] ⟨0, 9, 12, 13⟩ [⟨0, 9, 15, 31⟩] (by rw [htab]; rfl) (fun z9 h9 => absurd h9 List.not_mem_nil) (by decide) (by decide) (ht _ lc_L_13) (va_Nw.use rfl (hG.1 _ (List.mem_of_getElem? (i := 580) rfl) rfl)) hq9 hv9 hcl9 ?_
    refine lv_astore_n (lv' := [(3, .ref q9), (0, .ref w), (1, .int i), (2, .ref out)]) hx hb dL_append_12 rfl hl (by decide) rfl (fun ls hl => ?_)
    refine lv_iconst (v := 1) hx hb dL_append_13 (by decide) ?_
    have hP9 : va_P D vwCl [(out, .inl (KL, 1, .inr (.inl ofn)))] H := hP.sub [0] rfl
    have hD9 : va_D A [(out, .inl (KL, 1, .inr (.inl ofn)))] := hD.sub [0] (by decide) rfl
    have hK9 : va_K D vwCl [] s := hK.sub [] rfl
    exact W.iret (v := 1) hx hb hr (fun t ht9 hW9 => ⟨⟨1, ofn, rfl, by exact Or.inr ⟨hcE, rfl⟩, ⟨by rw [ht9]; exact hP9, va_K.moved hW9.alike hK9, hD9⟩⟩, hS.F ht9⟩) hS.2.2 dL_append_14
  have hK : va_K D vwCl [(K, .int), (KL, .long)] s := hK
  have hP : va_P D vwCl [(out, .inl (KL, 1, .inr (.inl ofn))), (w, .inr (7, [.ref st, .ref hi, .ref re, .ref fo, .ref bu, .ref pa])), (bu, .inr (4, [.ref buA, .int 1])), (buA, .inl (K, 60, .inl bg_2))] H := hP
  have hD : va_D A [(out, .inl (KL, 1, .inr (.inl ofn))), (w, .inr (7, [.ref st, .ref hi, .ref re, .ref fo, .ref bu, .ref pa])), (bu, .inr (4, [.ref buA, .int 1])), (buA, .inl (K, 60, .inl bg_2))] := hD
  have hw_3 : k_chr i ∧ r_1 = 1 := hw_3
  refine lv_i2l (v := r_1.toInt64) hx hb dL_append_7 rfl ?_
  refine va_last hx hb hK hP hD hS 0 1 rfl rfl (by unfold vp_in; decide) dL_append_8 (fun H locs hP hD hS => ?_)
  have hP : va_P D vwCl [(out, .inl (KL, 1, .inr (.inl (vp_updL ofn ((0 : Int32).toNatClampNeg) r_1.toInt64)))), (w, .inr (7, [.ref st, .ref hi, .ref re, .ref fo, .ref bu, .ref pa])), (bu, .inr (4, [.ref buA, .int 1])), (buA, .inl (K, 60, .inl bg_2))] H := hP
  have hD : va_D A [(out, .inl (KL, 1, .inr (.inl (vp_updL ofn ((0 : Int32).toNatClampNeg) r_1.toInt64)))), (w, .inr (7, [.ref st, .ref hi, .ref re, .ref fo, .ref bu, .ref pa])), (bu, .inr (4, [.ref buA, .int 1])), (buA, .inl (K, 60, .inl bg_2))] := hD
  refine lv_goto (tgt := 18) hx hb dL_append_9 (by decide) ?_
  refine lv_iconst (v := 0) hx hb dL_append_18 (by decide) ?_
  have hP9 : va_P D vwCl [(out, .inl (KL, 1, .inr (.inl (vp_updL ofn ((0 : Int32).toNatClampNeg) r_1.toInt64))))] H := hP.sub [0] rfl
  have hD9 : va_D A [(out, .inl (KL, 1, .inr (.inl (vp_updL ofn ((0 : Int32).toNatClampNeg) r_1.toInt64))))] := hD.sub [0] (by decide) rfl
  have hK9 : va_K D vwCl [] s := hK.sub [] rfl
  exact W.iret (v := 0) hx hb hr (fun t ht9 hW9 => ⟨⟨0, vp_updL ofn ((0 : Int32).toNatClampNeg) r_1.toInt64, rfl, by exact Or.inl ⟨hw_3.1, rfl, by rw [hw_3.2]; first | rfl | exact pk_uLs⟩, ⟨by rw [ht9]; exact hP9, va_K.moved hW9.alike hK9, hD9⟩⟩, hS.F ht9⟩) hS.2.2 dL_append_19
set_option maxHeartbeats 4000000 in
set_option maxRecDepth 100000 in
theorem c_L_run (l : Launch) (hst : l.stackTraces = false) (D : va_G) (w : Nat) (st : Nat) (hi : Nat) (re : Nat) (fo : Nat) (bu : Nat) (pa : Nat) (buA : Nat) (out : Nat) (KL : ClassId) (ofn : Nat → Int64) (sz : Nat) : k_Wi (S := Nat → Int64) l D yL_run cL_run 3 (some .int) [(0, 8, 11, 13)] 7 1 6 106 [.ref w, .ref out] [(w, .inr (7, [.ref st, .ref hi, .ref re, .ref fo, .ref bu, .ref pa])), (bu, .inr (4, [.ref buA, .int 0])), (pa, .inr (1, [.int 0, .int 0, .int 0, .int 0, .int 0, .int 0])), (out, .inl (KL, 1, .inr (.inl ofn)))] [(KL, .long)] (fun (r : Int32) (og : Nat → Int64) => r = 1) (fun og => [(out, .inl (KL, 1, .inr (.inl og)))]) (fun og => []) sz := by
  refine va_MetW (cc := cL_run) (maxL := 3) (ret := (some .int)) (hh := [(0, 8, 11, 13)]) (by decide) rfl ?_
  intro p e s m args below meth c s₁ B hml hv
  obtain ⟨rfl, hsz, hP, hK, hD0, hG⟩ := hv
  have hx := B.exec
  have hb := B.bytes
  have hr := B.returns
  have ht : ∀ v9 ∈ wsA, v9.before ([.ref w, .ref out] : List Value).toArray s = true := fun v9 h9 => atoms_spec (ws := Cond.codeWith yL_run cL_run 3 (some .int) [(0, 8, 11, 13)] :: wsA) B.pre v9 (List.mem_cons_of_mem _ h9)
  have htab : c.exceptionTable.toList = tableOf [(0, 8, 11, 13)] := vx_table (x := yL_run) B (atoms_spec (ws := Cond.codeWith yL_run cL_run 3 (some .int) [(0, 8, 11, 13)] :: wsA) B.pre _ List.mem_cons_self)
  have hown : s.vm.findClass RL = some m.cls := findClass_of_methodNamed B.named
  have S0 : k_C p s m ([.ref w, .ref out] : List Value).toArray c cL_run 3 RL := ⟨hx, hb, hml, hown, ht⟩
  have hlocks := B.notSynchronized
  subst hsz
  have hD := hD0.self (sz := s.heap.size)
  generalize hAe : va_A [(w, .inr (7, [.ref st, .ref hi, .ref re, .ref fo, .ref bu, .ref pa])), (bu, .inr (4, [.ref buA, .int 0])), (pa, .inr (1, [.int 0, .int 0, .int 0, .int 0, .int 0, .int 0])), (out, .inl (KL, 1, .inr (.inl ofn)))] s.heap.size = A at hD hG ⊢
  have hA : ∀ q : Nat, s.heap.size ≤ q → A q := fun q h => by rw [← hAe]; exact Or.inr h
  have hS : va_S A s.heap s.heap [] := va_S.rf
  have hl := lv_entry ([.ref w, .ref out]) (n := 3) (Nat.le_of_ble_eq_true rfl)
  rw [lg_entry_eq]
  generalize (lg_sl ([.ref w, .ref out]) ++ List.replicate (3 - (lg_sl ([.ref w, .ref out])).length) Slot.unset).toArray = ls at hl ⊢
  have hl : lv_has ls 3 [(0, .ref w), (1, .ref out)] := hl
  have hP : va_P D vwCl [(w, .inr (7, [.ref st, .ref hi, .ref re, .ref fo, .ref bu, .ref pa])), (bu, .inr (4, [.ref buA, .int 0])), (pa, .inr (1, [.int 0, .int 0, .int 0, .int 0, .int 0, .int 0])), (out, .inl (KL, 1, .inr (.inl ofn)))] s.heap := hP
  refine lv_aload_n hx hb dL_run_0 rfl (lv_at hl 1 rfl) ?_
  refine lv_iconst (v := 0) hx hb dL_run_1 (by decide) ?_
  refine lv_aload_n hx hb dL_run_2 rfl (lv_at hl 0 rfl) ?_
  have ct := k_cut_of (wc := [(w, .inr (7, [.ref st, .ref hi, .ref re, .ref fo, .ref bu, .ref pa])), (bu, .inr (4, [.ref buA, .int 0])), (pa, .inr (1, [.int 0, .int 0, .int 0, .int 0, .int 0, .int 0]))]) (wr := [(out, .inl (KL, 1, .inr (.inl ofn)))]) (tc := []) hG hS hA hK hP hD [0, 1, 2] [3] [] rfl rfl (by decide) (by decide) (by decide) rfl
  refine k_endXi (EX := fun E => E = "java/lang/IllegalArgumentException") (As := [.ref w]) ct (k_xrunV (As := []) (rest := [.int 0, .ref out]) S0 Lv_L_66 rfl (ci := 7) (q0 := 0) rfl rfl ct (c_W_run l hst D w st hi re fo bu pa buA s.heap.size) hl.1 rfl (Nat.le_of_ble_eq_true rfl) rfl dL_run_3 ⟨⟨Nat.le_of_ble_eq_true rfl, Nat.le_of_ble_eq_true rfl⟩, Nat.le_of_ble_eq_true rfl, Nat.le_of_ble_eq_true rfl⟩) rfl rfl ?_ (fun r_1 _ H locs hw_2 hP hD hK hS => ?_)
  · intro E ce q9 H locs hE hP hD hS hq9 hv9 hcl9
    try dsimp only at hE
    have hP : va_P D vwCl [(out, .inl (KL, 1, .inr (.inl ofn))), (w, .inr (7, [.ref st, .ref hi, .ref re, .ref fo, .ref bu, .ref pa])), (bu, .inr (4, [.ref buA, .int 0])), (pa, .inr (1, [.int 0, .int 0, .int 0, .int 0, .int 0, .int 0]))] H := hP
    have hD : va_D A [(out, .inl (KL, 1, .inr (.inl ofn))), (w, .inr (7, [.ref st, .ref hi, .ref re, .ref fo, .ref bu, .ref pa])), (bu, .inr (4, [.ref buA, .int 0])), (pa, .inr (1, [.int 0, .int 0, .int 0, .int 0, .int 0, .int 0]))] := hD
    subst hE
    refine vx_catch hown [] ⟨0, 8, 11, 13⟩ [] (by rw [htab]; rfl) (fun z9 h9 => absurd h9 List.not_mem_nil) (by decide) (by decide) (ht _ lc_L_13) (va_Nw.use rfl (hG.1 _ (List.mem_of_getElem? (i := 580) rfl) rfl)) hq9 hv9 hcl9 ?_
    refine lv_astore_n (lv' := [(2, .ref q9), (0, .ref w), (1, .ref out)]) hx hb dL_run_11 rfl hl (by decide) rfl (fun ls hl => ?_)
    refine lv_iconst (v := 1) hx hb dL_run_12 (by decide) ?_
    have hP9 : va_P D vwCl [(out, .inl (KL, 1, .inr (.inl ofn)))] H := hP.sub [0] rfl
    have hD9 : va_D A [(out, .inl (KL, 1, .inr (.inl ofn)))] := hD.sub [0] (by decide) rfl
    have hK9 : va_K D vwCl [] s := hK.sub [] rfl
    exact W.iret (v := 1) hx hb hr (fun t ht9 hW9 => ⟨⟨1, ofn, rfl, by rfl, ⟨by rw [ht9]; exact hP9, va_K.moved hW9.alike hK9, hD9⟩⟩, hS.F ht9⟩) hS.2.2 dL_run_13
  have hK : va_K D vwCl [(KL, .long)] s := hK
  have hP : va_P D vwCl [(out, .inl (KL, 1, .inr (.inl ofn))), (w, .inr (7, [.ref st, .ref hi, .ref re, .ref fo, .ref bu, .ref pa])), (bu, .inr (4, [.ref buA, .int 0])), (pa, .inr (1, [.int 0, .int 0, .int 0, .int 0, .int 0, .int 0]))] H := hP
  have hD : va_D A [(out, .inl (KL, 1, .inr (.inl ofn))), (w, .inr (7, [.ref st, .ref hi, .ref re, .ref fo, .ref bu, .ref pa])), (bu, .inr (4, [.ref buA, .int 0])), (pa, .inr (1, [.int 0, .int 0, .int 0, .int 0, .int 0, .int 0]))] := hD
  exact hw_2.elim
set_option maxHeartbeats 4000000 in
set_option maxRecDepth 100000 in
theorem c_L_undo (l : Launch) (hst : l.stackTraces = false) (D : va_G) (w : Nat) (st : Nat) (hi : Nat) (re : Nat) (fo : Nat) (bu : Nat) (pa : Nat) (ri : Nat) (out : Nat) (KL : ClassId) (ofn : Nat → Int64) (sz : Nat) : k_Wi (S := Nat → Int64) l D yL_undo cL_undo 3 (some .int) [(0, 8, 11, 31)] 7 1 6 102 [.ref w, .ref out] [(w, .inr (7, [.ref st, .ref hi, .ref re, .ref fo, .ref bu, .ref pa])), (hi, .inr (5, [.ref ri, .int 0, .int 0])), (out, .inl (KL, 1, .inr (.inl ofn)))] [(KL, .long)] (fun (r : Int32) (og : Nat → Int64) => r = 1) (fun og => [(out, .inl (KL, 1, .inr (.inl og)))]) (fun og => []) sz := by
  refine va_MetW (cc := cL_undo) (maxL := 3) (ret := (some .int)) (hh := [(0, 8, 11, 31)]) (by decide) rfl ?_
  intro p e s m args below meth c s₁ B hml hv
  obtain ⟨rfl, hsz, hP, hK, hD0, hG⟩ := hv
  have hx := B.exec
  have hb := B.bytes
  have hr := B.returns
  have ht : ∀ v9 ∈ wsA, v9.before ([.ref w, .ref out] : List Value).toArray s = true := fun v9 h9 => atoms_spec (ws := Cond.codeWith yL_undo cL_undo 3 (some .int) [(0, 8, 11, 31)] :: wsA) B.pre v9 (List.mem_cons_of_mem _ h9)
  have htab : c.exceptionTable.toList = tableOf [(0, 8, 11, 31)] := vx_table (x := yL_undo) B (atoms_spec (ws := Cond.codeWith yL_undo cL_undo 3 (some .int) [(0, 8, 11, 31)] :: wsA) B.pre _ List.mem_cons_self)
  have hown : s.vm.findClass RL = some m.cls := findClass_of_methodNamed B.named
  have S0 : k_C p s m ([.ref w, .ref out] : List Value).toArray c cL_undo 3 RL := ⟨hx, hb, hml, hown, ht⟩
  have hlocks := B.notSynchronized
  subst hsz
  have hD := hD0.self (sz := s.heap.size)
  generalize hAe : va_A [(w, .inr (7, [.ref st, .ref hi, .ref re, .ref fo, .ref bu, .ref pa])), (hi, .inr (5, [.ref ri, .int 0, .int 0])), (out, .inl (KL, 1, .inr (.inl ofn)))] s.heap.size = A at hD hG ⊢
  have hA : ∀ q : Nat, s.heap.size ≤ q → A q := fun q h => by rw [← hAe]; exact Or.inr h
  have hS : va_S A s.heap s.heap [] := va_S.rf
  have hl := lv_entry ([.ref w, .ref out]) (n := 3) (Nat.le_of_ble_eq_true rfl)
  rw [lg_entry_eq]
  generalize (lg_sl ([.ref w, .ref out]) ++ List.replicate (3 - (lg_sl ([.ref w, .ref out])).length) Slot.unset).toArray = ls at hl ⊢
  have hl : lv_has ls 3 [(0, .ref w), (1, .ref out)] := hl
  have hP : va_P D vwCl [(w, .inr (7, [.ref st, .ref hi, .ref re, .ref fo, .ref bu, .ref pa])), (hi, .inr (5, [.ref ri, .int 0, .int 0])), (out, .inl (KL, 1, .inr (.inl ofn)))] s.heap := hP
  refine lv_aload_n hx hb dL_undo_0 rfl (lv_at hl 1 rfl) ?_
  refine lv_iconst (v := 0) hx hb dL_undo_1 (by decide) ?_
  refine lv_aload_n hx hb dL_undo_2 rfl (lv_at hl 0 rfl) ?_
  have ct := k_cut_of (wc := [(w, .inr (7, [.ref st, .ref hi, .ref re, .ref fo, .ref bu, .ref pa])), (hi, .inr (5, [.ref ri, .int 0, .int 0]))]) (wr := [(out, .inl (KL, 1, .inr (.inl ofn)))]) (tc := []) hG hS hA hK hP hD [0, 1] [2] [] rfl rfl (by decide) (by decide) (by decide) rfl
  refine k_endXi (EX := fun E => E = "java/lang/IllegalStateException") (As := [.ref w]) ct (k_xrunV (As := []) (rest := [.int 0, .ref out]) S0 Lv_L_70 rfl (ci := 7) (q0 := 0) rfl rfl ct (c_W_undo l hst D w st hi re fo bu pa ri s.heap.size) hl.1 rfl (Nat.le_of_ble_eq_true rfl) rfl dL_undo_3 ⟨⟨Nat.le_of_ble_eq_true rfl, Nat.le_of_ble_eq_true rfl⟩, Nat.le_of_ble_eq_true rfl, Nat.le_of_ble_eq_true rfl⟩) rfl rfl ?_ (fun r_1 _ H locs hw_2 hP hD hK hS => ?_)
  · intro E ce q9 H locs hE hP hD hS hq9 hv9 hcl9
    try dsimp only at hE
    have hP : va_P D vwCl [(out, .inl (KL, 1, .inr (.inl ofn))), (w, .inr (7, [.ref st, .ref hi, .ref re, .ref fo, .ref bu, .ref pa])), (hi, .inr (5, [.ref ri, .int 0, .int 0]))] H := hP
    have hD : va_D A [(out, .inl (KL, 1, .inr (.inl ofn))), (w, .inr (7, [.ref st, .ref hi, .ref re, .ref fo, .ref bu, .ref pa])), (hi, .inr (5, [.ref ri, .int 0, .int 0]))] := hD
    subst hE
    refine vx_catch hown [] ⟨0, 8, 11, 31⟩ [] (by rw [htab]; rfl) (fun z9 h9 => absurd h9 List.not_mem_nil) (by decide) (by decide) (ht _ lc_L_31) (va_Nw.use rfl (hG.1 _ (List.mem_of_getElem? (i := 647) rfl) rfl)) hq9 hv9 hcl9 ?_
    refine lv_astore_n (lv' := [(2, .ref q9), (0, .ref w), (1, .ref out)]) hx hb dL_undo_11 rfl hl (by decide) rfl (fun ls hl => ?_)
    refine lv_iconst (v := 1) hx hb dL_undo_12 (by decide) ?_
    have hP9 : va_P D vwCl [(out, .inl (KL, 1, .inr (.inl ofn)))] H := hP.sub [0] rfl
    have hD9 : va_D A [(out, .inl (KL, 1, .inr (.inl ofn)))] := hD.sub [0] (by decide) rfl
    have hK9 : va_K D vwCl [] s := hK.sub [] rfl
    exact W.iret (v := 1) hx hb hr (fun t ht9 hW9 => ⟨⟨1, ofn, rfl, by rfl, ⟨by rw [ht9]; exact hP9, va_K.moved hW9.alike hK9, hD9⟩⟩, hS.F ht9⟩) hS.2.2 dL_undo_13
  have hK : va_K D vwCl [(KL, .long)] s := hK
  have hP : va_P D vwCl [(out, .inl (KL, 1, .inr (.inl ofn))), (w, .inr (7, [.ref st, .ref hi, .ref re, .ref fo, .ref bu, .ref pa])), (hi, .inr (5, [.ref ri, .int 0, .int 0]))] H := hP
  have hD : va_D A [(out, .inl (KL, 1, .inr (.inl ofn))), (w, .inr (7, [.ref st, .ref hi, .ref re, .ref fo, .ref bu, .ref pa])), (hi, .inr (5, [.ref ri, .int 0, .int 0]))] := hD
  exact hw_2.elim
