set_option maxRecDepth 20000 in
theorem lk_X7_print : Cond.code yX7_print cX7_print 3 (some .int) ∈ wsA := mA 577 rfl rfl
theorem ly_X7_print : k_y yX7_print 2 := ⟨by decide +kernel, by decide +kernel, by decide +kernel⟩
set_option maxRecDepth 20000 in
theorem lm_X7_print : Cond.instanceMethod yX7_print ∈ wsA := mA 575 rfl rfl
set_option maxRecDepth 20000 in
theorem le_X7_print : Cond.selects (yX7_print).cls yX7_print yX7_print ∈ wsA := mA 576 rfl rfl
set_option maxRecDepth 20000 in
theorem Lv_L_7 : k_LV RL 7 yX7_print cX7_print 3 (some .int) 2 := ⟨mA 574 rfl rfl, lm_X7_print, le_X7_print, li_BarcodeWand, lk_X7_print, ly_X7_print⟩
set_option maxRecDepth 20000 in
theorem lk_X7_smudge : Cond.code yX7_smudge cX7_smudge 4 (some .int) ∈ wsA := mA 615 rfl rfl
theorem ly_X7_smudge : k_y yX7_smudge 2 := ⟨by decide +kernel, by decide +kernel, by decide +kernel⟩
set_option maxRecDepth 20000 in
theorem lm_X7_smudge : Cond.instanceMethod yX7_smudge ∈ wsA := mA 613 rfl rfl
set_option maxRecDepth 20000 in
theorem le_X7_smudge : Cond.selects (yX7_smudge).cls yX7_smudge yX7_smudge ∈ wsA := mA 614 rfl rfl
set_option maxRecDepth 20000 in
theorem Lv_L_15 : k_LV RL 15 yX7_smudge cX7_smudge 4 (some .int) 2 := ⟨mA 612 rfl rfl, lm_X7_smudge, le_X7_smudge, li_BarcodeWand, lk_X7_smudge, ly_X7_smudge⟩
set_option maxRecDepth 20000 in
theorem lk_X7_width : Cond.code yX7_width cX7_width 2 (some .int) ∈ wsA := mA 623 rfl rfl
theorem ly_X7_width : k_y yX7_width 1 := ⟨by decide +kernel, by decide +kernel, by decide +kernel⟩
set_option maxRecDepth 20000 in
theorem lm_X7_width : Cond.instanceMethod yX7_width ∈ wsA := mA 621 rfl rfl
set_option maxRecDepth 20000 in
theorem le_X7_width : Cond.selects (yX7_width).cls yX7_width yX7_width ∈ wsA := mA 622 rfl rfl
set_option maxRecDepth 20000 in
theorem Lv_L_20 : k_LV RL 20 yX7_width cX7_width 2 (some .int) 1 := ⟨mA 620 rfl rfl, lm_X7_width, le_X7_width, li_BarcodeWand, lk_X7_width, ly_X7_width⟩
set_option maxRecDepth 20000 in
theorem lk_X7_labelDigit : Cond.code yX7_labelDigit cX7_labelDigit 2 (some .int) ∈ wsA := mA 630 rfl rfl
theorem ly_X7_labelDigit : k_y yX7_labelDigit 1 := ⟨by decide +kernel, by decide +kernel, by decide +kernel⟩
set_option maxRecDepth 20000 in
theorem lm_X7_labelDigit : Cond.instanceMethod yX7_labelDigit ∈ wsA := mA 628 rfl rfl
set_option maxRecDepth 20000 in
theorem le_X7_labelDigit : Cond.selects (yX7_labelDigit).cls yX7_labelDigit yX7_labelDigit ∈ wsA := mA 629 rfl rfl
set_option maxRecDepth 20000 in
theorem Lv_L_24 : k_LV RL 24 yX7_labelDigit cX7_labelDigit 2 (some .int) 1 := ⟨mA 627 rfl rfl, lm_X7_labelDigit, le_X7_labelDigit, li_BarcodeWand, lk_X7_labelDigit, ly_X7_labelDigit⟩
set_option maxRecDepth 20000 in
theorem lk_X7_draw : Cond.code yX7_draw cX7_draw 4 (some .int) ∈ wsA := mA 639 rfl rfl
theorem ly_X7_draw : k_y yX7_draw 3 := ⟨by decide +kernel, by decide +kernel, by decide +kernel⟩
set_option maxRecDepth 20000 in
theorem lm_X7_draw : Cond.instanceMethod yX7_draw ∈ wsA := mA 637 rfl rfl
set_option maxRecDepth 20000 in
theorem le_X7_draw : Cond.selects (yX7_draw).cls yX7_draw yX7_draw ∈ wsA := mA 638 rfl rfl
set_option maxRecDepth 20000 in
theorem Lv_L_27 : k_LV RL 27 yX7_draw cX7_draw 4 (some .int) 3 := ⟨mA 636 rfl rfl, lm_X7_draw, le_X7_draw, li_BarcodeWand, lk_X7_draw, ly_X7_draw⟩
set_option maxRecDepth 20000 in
theorem lk_X7_measure : Cond.code yX7_measure cX7_measure 2 (some .int) ∈ wsA := mA 667 rfl rfl
theorem ly_X7_measure : k_y yX7_measure 1 := ⟨by decide +kernel, by decide +kernel, by decide +kernel⟩
set_option maxRecDepth 20000 in
theorem lm_X7_measure : Cond.instanceMethod yX7_measure ∈ wsA := mA 665 rfl rfl
set_option maxRecDepth 20000 in
theorem le_X7_measure : Cond.selects (yX7_measure).cls yX7_measure yX7_measure ∈ wsA := mA 666 rfl rfl
set_option maxRecDepth 20000 in
theorem Lv_L_33 : k_LV RL 33 yX7_measure cX7_measure 2 (some .int) 1 := ⟨mA 664 rfl rfl, lm_X7_measure, le_X7_measure, li_BarcodeWand, lk_X7_measure, ly_X7_measure⟩
set_option maxRecDepth 20000 in
theorem lk_X7_time : Cond.code yX7_time cX7_time 2 (some .int) ∈ wsA := mA 678 rfl rfl
theorem ly_X7_time : k_y yX7_time 1 := ⟨by decide +kernel, by decide +kernel, by decide +kernel⟩
set_option maxRecDepth 20000 in
theorem lm_X7_time : Cond.instanceMethod yX7_time ∈ wsA := mA 676 rfl rfl
set_option maxRecDepth 20000 in
theorem le_X7_time : Cond.selects (yX7_time).cls yX7_time yX7_time ∈ wsA := mA 677 rfl rfl
set_option maxRecDepth 20000 in
theorem Lv_L_36 : k_LV RL 36 yX7_time cX7_time 2 (some .int) 1 := ⟨mA 675 rfl rfl, lm_X7_time, le_X7_time, li_BarcodeWand, lk_X7_time, ly_X7_time⟩
set_option maxRecDepth 20000 in
theorem lk_X7_setTolerance : Cond.code yX7_setTolerance cX7_setTolerance 3 (some .int) ∈ wsA := mA 686 rfl rfl
theorem ly_X7_setTolerance : k_y yX7_setTolerance 1 := ⟨by decide +kernel, by decide +kernel, by decide +kernel⟩
set_option maxRecDepth 20000 in
theorem lm_X7_setTolerance : Cond.instanceMethod yX7_setTolerance ∈ wsA := mA 684 rfl rfl
set_option maxRecDepth 20000 in
theorem le_X7_setTolerance : Cond.selects (yX7_setTolerance).cls yX7_setTolerance yX7_setTolerance ∈ wsA := mA 685 rfl rfl
set_option maxRecDepth 20000 in
theorem Lv_L_39 : k_LV RL 39 yX7_setTolerance cX7_setTolerance 3 (some .int) 1 := ⟨mA 683 rfl rfl, lm_X7_setTolerance, le_X7_setTolerance, li_BarcodeWand, lk_X7_setTolerance, ly_X7_setTolerance⟩
set_option maxRecDepth 20000 in
theorem lk_X7_digit : Cond.code yX7_digit cX7_digit 3 (some .int) ∈ wsA := mA 694 rfl rfl
theorem ly_X7_digit : k_y yX7_digit 1 := ⟨by decide +kernel, by decide +kernel, by decide +kernel⟩
set_option maxRecDepth 20000 in
theorem lm_X7_digit : Cond.instanceMethod yX7_digit ∈ wsA := mA 692 rfl rfl
set_option maxRecDepth 20000 in
theorem le_X7_digit : Cond.selects (yX7_digit).cls yX7_digit yX7_digit ∈ wsA := mA 693 rfl rfl
set_option maxRecDepth 20000 in
theorem Lv_L_42 : k_LV RL 42 yX7_digit cX7_digit 3 (some .int) 1 := ⟨mA 691 rfl rfl, lm_X7_digit, le_X7_digit, li_BarcodeWand, lk_X7_digit, ly_X7_digit⟩
set_option maxRecDepth 20000 in
theorem lk_X7_nearest : Cond.code yX7_nearest cX7_nearest 2 (some .int) ∈ wsA := mA 702 rfl rfl
theorem ly_X7_nearest : k_y yX7_nearest 1 := ⟨by decide +kernel, by decide +kernel, by decide +kernel⟩
set_option maxRecDepth 20000 in
theorem lm_X7_nearest : Cond.instanceMethod yX7_nearest ∈ wsA := mA 700 rfl rfl
set_option maxRecDepth 20000 in
theorem le_X7_nearest : Cond.selects (yX7_nearest).cls yX7_nearest yX7_nearest ∈ wsA := mA 701 rfl rfl
set_option maxRecDepth 20000 in
theorem Lv_L_45 : k_LV RL 45 yX7_nearest cX7_nearest 2 (some .int) 1 := ⟨mA 699 rfl rfl, lm_X7_nearest, le_X7_nearest, li_BarcodeWand, lk_X7_nearest, ly_X7_nearest⟩
set_option maxRecDepth 20000 in
theorem lk_X7_code : Cond.code yX7_code cX7_code 2 (some .int) ∈ wsA := mA 711 rfl rfl
theorem ly_X7_code : k_y yX7_code 1 := ⟨by decide +kernel, by decide +kernel, by decide +kernel⟩
set_option maxRecDepth 20000 in
theorem lm_X7_code : Cond.instanceMethod yX7_code ∈ wsA := mA 709 rfl rfl
set_option maxRecDepth 20000 in
theorem le_X7_code : Cond.selects (yX7_code).cls yX7_code yX7_code ∈ wsA := mA 710 rfl rfl
set_option maxRecDepth 20000 in
theorem Lv_L_48 : k_LV RL 48 yX7_code cX7_code 2 (some .int) 1 := ⟨mA 708 rfl rfl, lm_X7_code, le_X7_code, li_BarcodeWand, lk_X7_code, ly_X7_code⟩
set_option maxRecDepth 20000 in
theorem lk_X7_codeLength : Cond.code yX7_codeLength cX7_codeLength 2 (some .int) ∈ wsA := mA 723 rfl rfl
theorem ly_X7_codeLength : k_y yX7_codeLength 1 := ⟨by decide +kernel, by decide +kernel, by decide +kernel⟩
set_option maxRecDepth 20000 in
theorem lm_X7_codeLength : Cond.instanceMethod yX7_codeLength ∈ wsA := mA 721 rfl rfl
set_option maxRecDepth 20000 in
theorem le_X7_codeLength : Cond.selects (yX7_codeLength).cls yX7_codeLength yX7_codeLength ∈ wsA := mA 722 rfl rfl
set_option maxRecDepth 20000 in
theorem Lv_L_51 : k_LV RL 51 yX7_codeLength cX7_codeLength 2 (some .int) 1 := ⟨mA 720 rfl rfl, lm_X7_codeLength, le_X7_codeLength, li_BarcodeWand, lk_X7_codeLength, ly_X7_codeLength⟩
set_option maxRecDepth 20000 in
theorem lk_X7_count : Cond.code yX7_count cX7_count 2 (some .int) ∈ wsA := mA 730 rfl rfl
theorem ly_X7_count : k_y yX7_count 1 := ⟨by decide +kernel, by decide +kernel, by decide +kernel⟩
set_option maxRecDepth 20000 in
theorem lm_X7_count : Cond.instanceMethod yX7_count ∈ wsA := mA 728 rfl rfl
set_option maxRecDepth 20000 in
theorem le_X7_count : Cond.selects (yX7_count).cls yX7_count yX7_count ∈ wsA := mA 729 rfl rfl
set_option maxRecDepth 20000 in
theorem Lv_L_54 : k_LV RL 54 yX7_count cX7_count 2 (some .int) 1 := ⟨mA 727 rfl rfl, lm_X7_count, le_X7_count, li_BarcodeWand, lk_X7_count, ly_X7_count⟩
set_option maxRecDepth 20000 in
theorem lk_X7_ifDrawn : Cond.code yX7_ifDrawn cX7_ifDrawn 4 (some .int) ∈ wsA := mA 737 rfl rfl
theorem ly_X7_ifDrawn : k_y yX7_ifDrawn 3 := ⟨by decide +kernel, by decide +kernel, by decide +kernel⟩
set_option maxRecDepth 20000 in
theorem lm_X7_ifDrawn : Cond.instanceMethod yX7_ifDrawn ∈ wsA := mA 735 rfl rfl
set_option maxRecDepth 20000 in
theorem le_X7_ifDrawn : Cond.selects (yX7_ifDrawn).cls yX7_ifDrawn yX7_ifDrawn ∈ wsA := mA 736 rfl rfl
set_option maxRecDepth 20000 in
theorem Lv_L_57 : k_LV RL 57 yX7_ifDrawn cX7_ifDrawn 4 (some .int) 3 := ⟨mA 734 rfl rfl, lm_X7_ifDrawn, le_X7_ifDrawn, li_BarcodeWand, lk_X7_ifDrawn, ly_X7_ifDrawn⟩
set_option maxRecDepth 20000 in
theorem Lv_L_60 : k_LV RL 60 yX7_greatestSmudge cX7_greatestSmudge 5 (some .int) 1 := ⟨mA 741 rfl rfl, lm_X7_greatestSmudge, le_X7_greatestSmudge, li_BarcodeWand, lk_X7_greatestSmudge, ly_X7_greatestSmudge⟩
set_option maxRecDepth 20000 in
theorem lk_X7_append : Cond.code yX7_append cX7_append 2 (some .int) ∈ wsA := mA 748 rfl rfl
theorem ly_X7_append : k_y yX7_append 1 := ⟨by decide +kernel, by decide +kernel, by decide +kernel⟩
set_option maxRecDepth 20000 in
theorem lm_X7_append : Cond.instanceMethod yX7_append ∈ wsA := mA 746 rfl rfl
set_option maxRecDepth 20000 in
theorem le_X7_append : Cond.selects (yX7_append).cls yX7_append yX7_append ∈ wsA := mA 747 rfl rfl
set_option maxRecDepth 20000 in
theorem Lv_L_63 : k_LV RL 63 yX7_append cX7_append 2 (some .int) 1 := ⟨mA 745 rfl rfl, lm_X7_append, le_X7_append, li_BarcodeWand, lk_X7_append, ly_X7_append⟩
set_option maxRecDepth 20000 in
theorem lk_X7_run : Cond.code yX7_run cX7_run 5 (some .int) ∈ wsA := mA 757 rfl rfl
theorem ly_X7_run : k_y yX7_run 0 := ⟨by decide +kernel, by decide +kernel, by decide +kernel⟩
set_option maxRecDepth 20000 in
theorem lm_X7_run : Cond.instanceMethod yX7_run ∈ wsA := mA 755 rfl rfl
set_option maxRecDepth 20000 in
theorem le_X7_run : Cond.selects (yX7_run).cls yX7_run yX7_run ∈ wsA := mA 756 rfl rfl
set_option maxRecDepth 20000 in
theorem Lv_L_66 : k_LV RL 66 yX7_run cX7_run 5 (some .int) 0 := ⟨mA 754 rfl rfl, lm_X7_run, le_X7_run, li_BarcodeWand, lk_X7_run, ly_X7_run⟩
set_option maxRecDepth 20000 in
theorem lk_X7_undo : Cond.code yX7_undo cX7_undo 1 (some .int) ∈ wsA := mA 774 rfl rfl
theorem ly_X7_undo : k_y yX7_undo 0 := ⟨by decide +kernel, by decide +kernel, by decide +kernel⟩
set_option maxRecDepth 20000 in
theorem lm_X7_undo : Cond.instanceMethod yX7_undo ∈ wsA := mA 772 rfl rfl
set_option maxRecDepth 20000 in
theorem le_X7_undo : Cond.selects (yX7_undo).cls yX7_undo yX7_undo ∈ wsA := mA 773 rfl rfl
set_option maxRecDepth 20000 in
theorem Lv_L_70 : k_LV RL 70 yX7_undo cX7_undo 1 (some .int) 0 := ⟨mA 771 rfl rfl, lm_X7_undo, le_X7_undo, li_BarcodeWand, lk_X7_undo, ly_X7_undo⟩
theorem dL_print_0 : decode cL_print 0 = .ok (.aload_n 3, 1) := by decide +kernel
theorem dL_print_1 : decode cL_print 1 = .ok (.iconst 0, 1) := by decide +kernel
theorem dL_print_2 : decode cL_print 2 = .ok (.aload_n 0, 1) := by decide +kernel
theorem dL_print_3 : decode cL_print 3 = .ok (.iload_n 1, 1) := by decide +kernel
theorem dL_print_4 : decode cL_print 4 = .ok (.iload_n 2, 1) := by decide +kernel
theorem dL_print_5 : decode cL_print 5 = .ok (.invokevirtual 7, 3) := by decide +kernel
theorem dL_print_8 : decode cL_print 8 = .ok (.i2l, 1) := by decide +kernel
theorem dL_print_9 : decode cL_print 9 = .ok (.lastore, 1) := by decide +kernel
theorem dL_print_10 : decode cL_print 10 = .ok (.goto 7, 3) := by decide +kernel
theorem dL_print_13 : decode cL_print 13 = .ok (.astore 4, 2) := by decide +kernel
theorem dL_print_15 : decode cL_print 15 = .ok (.iconst 1, 1) := by decide +kernel
theorem dL_print_16 : decode cL_print 16 = .ok (.ireturn, 1) := by decide +kernel
theorem dL_print_17 : decode cL_print 17 = .ok (.iconst 0, 1) := by decide +kernel
theorem dL_print_18 : decode cL_print 18 = .ok (.ireturn, 1) := by decide +kernel
theorem dL_smudge_0 : decode cL_smudge 0 = .ok (.aload_n 3, 1) := by decide +kernel
theorem dL_smudge_1 : decode cL_smudge 1 = .ok (.iconst 0, 1) := by decide +kernel
theorem dL_smudge_2 : decode cL_smudge 2 = .ok (.aload_n 0, 1) := by decide +kernel
theorem dL_smudge_3 : decode cL_smudge 3 = .ok (.iload_n 1, 1) := by decide +kernel
theorem dL_smudge_4 : decode cL_smudge 4 = .ok (.iload_n 2, 1) := by decide +kernel
theorem dL_smudge_5 : decode cL_smudge 5 = .ok (.invokevirtual 15, 3) := by decide +kernel
theorem dL_smudge_8 : decode cL_smudge 8 = .ok (.i2l, 1) := by decide +kernel
theorem dL_smudge_9 : decode cL_smudge 9 = .ok (.lastore, 1) := by decide +kernel
theorem dL_smudge_10 : decode cL_smudge 10 = .ok (.goto 11, 3) := by decide +kernel
theorem dL_smudge_13 : decode cL_smudge 13 = .ok (.astore 4, 2) := by decide +kernel
theorem dL_smudge_15 : decode cL_smudge 15 = .ok (.iconst 1, 1) := by decide +kernel
theorem dL_smudge_16 : decode cL_smudge 16 = .ok (.ireturn, 1) := by decide +kernel
theorem dL_smudge_17 : decode cL_smudge 17 = .ok (.astore 4, 2) := by decide +kernel
theorem dL_smudge_19 : decode cL_smudge 19 = .ok (.iconst 2, 1) := by decide +kernel
theorem dL_smudge_20 : decode cL_smudge 20 = .ok (.ireturn, 1) := by decide +kernel
theorem dL_smudge_21 : decode cL_smudge 21 = .ok (.iconst 0, 1) := by decide +kernel
theorem dL_smudge_22 : decode cL_smudge 22 = .ok (.ireturn, 1) := by decide +kernel
theorem dL_width_0 : decode cL_width 0 = .ok (.aload_n 2, 1) := by decide +kernel
theorem dL_width_1 : decode cL_width 1 = .ok (.iconst 0, 1) := by decide +kernel
theorem dL_width_2 : decode cL_width 2 = .ok (.aload_n 0, 1) := by decide +kernel
theorem dL_width_3 : decode cL_width 3 = .ok (.iload_n 1, 1) := by decide +kernel
theorem dL_width_4 : decode cL_width 4 = .ok (.invokevirtual 20, 3) := by decide +kernel
theorem dL_width_7 : decode cL_width 7 = .ok (.i2l, 1) := by decide +kernel
theorem dL_width_8 : decode cL_width 8 = .ok (.lastore, 1) := by decide +kernel
theorem dL_width_9 : decode cL_width 9 = .ok (.goto 6, 3) := by decide +kernel
theorem dL_width_12 : decode cL_width 12 = .ok (.astore_n 3, 1) := by decide +kernel
theorem dL_width_13 : decode cL_width 13 = .ok (.iconst 1, 1) := by decide +kernel
theorem dL_width_14 : decode cL_width 14 = .ok (.ireturn, 1) := by decide +kernel
theorem dL_width_15 : decode cL_width 15 = .ok (.iconst 0, 1) := by decide +kernel
theorem dL_width_16 : decode cL_width 16 = .ok (.ireturn, 1) := by decide +kernel
theorem dL_labelDigit_0 : decode cL_labelDigit 0 = .ok (.aload_n 2, 1) := by decide +kernel
theorem dL_labelDigit_1 : decode cL_labelDigit 1 = .ok (.iconst 0, 1) := by decide +kernel
theorem dL_labelDigit_2 : decode cL_labelDigit 2 = .ok (.aload_n 0, 1) := by decide +kernel
theorem dL_labelDigit_3 : decode cL_labelDigit 3 = .ok (.iload_n 1, 1) := by decide +kernel
theorem dL_labelDigit_4 : decode cL_labelDigit 4 = .ok (.invokevirtual 24, 3) := by decide +kernel
theorem dL_labelDigit_7 : decode cL_labelDigit 7 = .ok (.i2l, 1) := by decide +kernel
theorem dL_labelDigit_8 : decode cL_labelDigit 8 = .ok (.lastore, 1) := by decide +kernel
theorem dL_labelDigit_9 : decode cL_labelDigit 9 = .ok (.goto 6, 3) := by decide +kernel
theorem dL_labelDigit_12 : decode cL_labelDigit 12 = .ok (.astore_n 3, 1) := by decide +kernel
theorem dL_labelDigit_13 : decode cL_labelDigit 13 = .ok (.iconst 1, 1) := by decide +kernel
theorem dL_labelDigit_14 : decode cL_labelDigit 14 = .ok (.ireturn, 1) := by decide +kernel
theorem dL_labelDigit_15 : decode cL_labelDigit 15 = .ok (.iconst 0, 1) := by decide +kernel
theorem dL_labelDigit_16 : decode cL_labelDigit 16 = .ok (.ireturn, 1) := by decide +kernel
theorem dL_draw_0 : decode cL_draw 0 = .ok (.aload 4, 2) := by decide +kernel
theorem dL_draw_2 : decode cL_draw 2 = .ok (.iconst 0, 1) := by decide +kernel
theorem dL_draw_3 : decode cL_draw 3 = .ok (.aload_n 0, 1) := by decide +kernel
theorem dL_draw_4 : decode cL_draw 4 = .ok (.iload_n 1, 1) := by decide +kernel
theorem dL_draw_5 : decode cL_draw 5 = .ok (.iload_n 2, 1) := by decide +kernel
theorem dL_draw_6 : decode cL_draw 6 = .ok (.iload_n 3, 1) := by decide +kernel
theorem dL_draw_7 : decode cL_draw 7 = .ok (.invokevirtual 27, 3) := by decide +kernel
theorem dL_draw_10 : decode cL_draw 10 = .ok (.i2l, 1) := by decide +kernel
theorem dL_draw_11 : decode cL_draw 11 = .ok (.lastore, 1) := by decide +kernel
theorem dL_draw_12 : decode cL_draw 12 = .ok (.goto 11, 3) := by decide +kernel
theorem dL_draw_15 : decode cL_draw 15 = .ok (.astore 5, 2) := by decide +kernel
theorem dL_draw_17 : decode cL_draw 17 = .ok (.iconst 1, 1) := by decide +kernel
theorem dL_draw_18 : decode cL_draw 18 = .ok (.ireturn, 1) := by decide +kernel
theorem dL_draw_19 : decode cL_draw 19 = .ok (.astore 5, 2) := by decide +kernel
theorem dL_draw_21 : decode cL_draw 21 = .ok (.iconst 2, 1) := by decide +kernel
theorem dL_draw_22 : decode cL_draw 22 = .ok (.ireturn, 1) := by decide +kernel
theorem dL_draw_23 : decode cL_draw 23 = .ok (.iconst 0, 1) := by decide +kernel
theorem dL_draw_24 : decode cL_draw 24 = .ok (.ireturn, 1) := by decide +kernel
theorem dL_measure_0 : decode cL_measure 0 = .ok (.aload_n 2, 1) := by decide +kernel
theorem dL_measure_1 : decode cL_measure 1 = .ok (.iconst 0, 1) := by decide +kernel
theorem dL_measure_2 : decode cL_measure 2 = .ok (.aload_n 0, 1) := by decide +kernel
theorem dL_measure_3 : decode cL_measure 3 = .ok (.iload_n 1, 1) := by decide +kernel
theorem dL_measure_4 : decode cL_measure 4 = .ok (.invokevirtual 33, 3) := by decide +kernel
theorem dL_measure_7 : decode cL_measure 7 = .ok (.i2l, 1) := by decide +kernel
theorem dL_measure_8 : decode cL_measure 8 = .ok (.lastore, 1) := by decide +kernel
theorem dL_measure_9 : decode cL_measure 9 = .ok (.goto 9, 3) := by decide +kernel
theorem dL_measure_12 : decode cL_measure 12 = .ok (.astore_n 3, 1) := by decide +kernel
theorem dL_measure_13 : decode cL_measure 13 = .ok (.iconst 1, 1) := by decide +kernel
theorem dL_measure_14 : decode cL_measure 14 = .ok (.ireturn, 1) := by decide +kernel
theorem dL_measure_15 : decode cL_measure 15 = .ok (.astore_n 3, 1) := by decide +kernel
theorem dL_measure_16 : decode cL_measure 16 = .ok (.iconst 2, 1) := by decide +kernel
theorem dL_measure_17 : decode cL_measure 17 = .ok (.ireturn, 1) := by decide +kernel
theorem dL_measure_18 : decode cL_measure 18 = .ok (.iconst 0, 1) := by decide +kernel
theorem dL_measure_19 : decode cL_measure 19 = .ok (.ireturn, 1) := by decide +kernel
theorem dL_time_0 : decode cL_time 0 = .ok (.aload_n 2, 1) := by decide +kernel
theorem dL_time_1 : decode cL_time 1 = .ok (.iconst 0, 1) := by decide +kernel
theorem dL_time_2 : decode cL_time 2 = .ok (.aload_n 0, 1) := by decide +kernel
theorem dL_time_3 : decode cL_time 3 = .ok (.iload_n 1, 1) := by decide +kernel
theorem dL_time_4 : decode cL_time 4 = .ok (.invokevirtual 36, 3) := by decide +kernel
theorem dL_time_7 : decode cL_time 7 = .ok (.i2l, 1) := by decide +kernel
theorem dL_time_8 : decode cL_time 8 = .ok (.lastore, 1) := by decide +kernel
theorem dL_time_9 : decode cL_time 9 = .ok (.goto 6, 3) := by decide +kernel
theorem dL_time_12 : decode cL_time 12 = .ok (.astore_n 3, 1) := by decide +kernel
theorem dL_time_13 : decode cL_time 13 = .ok (.iconst 1, 1) := by decide +kernel
theorem dL_time_14 : decode cL_time 14 = .ok (.ireturn, 1) := by decide +kernel
theorem dL_time_15 : decode cL_time 15 = .ok (.iconst 0, 1) := by decide +kernel
theorem dL_time_16 : decode cL_time 16 = .ok (.ireturn, 1) := by decide +kernel
theorem dL_setTolerance_0 : decode cL_setTolerance 0 = .ok (.aload_n 2, 1) := by decide +kernel
theorem dL_setTolerance_1 : decode cL_setTolerance 1 = .ok (.iconst 0, 1) := by decide +kernel
theorem dL_setTolerance_2 : decode cL_setTolerance 2 = .ok (.aload_n 0, 1) := by decide +kernel
theorem dL_setTolerance_3 : decode cL_setTolerance 3 = .ok (.iload_n 1, 1) := by decide +kernel
theorem dL_setTolerance_4 : decode cL_setTolerance 4 = .ok (.invokevirtual 39, 3) := by decide +kernel
theorem dL_setTolerance_7 : decode cL_setTolerance 7 = .ok (.i2l, 1) := by decide +kernel
theorem dL_setTolerance_8 : decode cL_setTolerance 8 = .ok (.lastore, 1) := by decide +kernel
theorem dL_setTolerance_9 : decode cL_setTolerance 9 = .ok (.goto 6, 3) := by decide +kernel
theorem dL_setTolerance_12 : decode cL_setTolerance 12 = .ok (.astore_n 3, 1) := by decide +kernel
theorem dL_setTolerance_13 : decode cL_setTolerance 13 = .ok (.iconst 1, 1) := by decide +kernel
theorem dL_setTolerance_14 : decode cL_setTolerance 14 = .ok (.ireturn, 1) := by decide +kernel
theorem dL_setTolerance_15 : decode cL_setTolerance 15 = .ok (.iconst 0, 1) := by decide +kernel
theorem dL_setTolerance_16 : decode cL_setTolerance 16 = .ok (.ireturn, 1) := by decide +kernel
theorem dL_digit_0 : decode cL_digit 0 = .ok (.aload_n 2, 1) := by decide +kernel
theorem dL_digit_1 : decode cL_digit 1 = .ok (.iconst 0, 1) := by decide +kernel
theorem dL_digit_2 : decode cL_digit 2 = .ok (.aload_n 0, 1) := by decide +kernel
theorem dL_digit_3 : decode cL_digit 3 = .ok (.iload_n 1, 1) := by decide +kernel
theorem dL_digit_4 : decode cL_digit 4 = .ok (.invokevirtual 42, 3) := by decide +kernel
theorem dL_digit_7 : decode cL_digit 7 = .ok (.i2l, 1) := by decide +kernel
theorem dL_digit_8 : decode cL_digit 8 = .ok (.lastore, 1) := by decide +kernel
theorem dL_digit_9 : decode cL_digit 9 = .ok (.goto 6, 3) := by decide +kernel
theorem dL_digit_12 : decode cL_digit 12 = .ok (.astore_n 3, 1) := by decide +kernel
theorem dL_digit_13 : decode cL_digit 13 = .ok (.iconst 1, 1) := by decide +kernel
theorem dL_digit_14 : decode cL_digit 14 = .ok (.ireturn, 1) := by decide +kernel
theorem dL_digit_15 : decode cL_digit 15 = .ok (.iconst 0, 1) := by decide +kernel
theorem dL_digit_16 : decode cL_digit 16 = .ok (.ireturn, 1) := by decide +kernel
theorem dL_nearest_0 : decode cL_nearest 0 = .ok (.aload_n 2, 1) := by decide +kernel
theorem dL_nearest_1 : decode cL_nearest 1 = .ok (.iconst 0, 1) := by decide +kernel
theorem dL_nearest_2 : decode cL_nearest 2 = .ok (.aload_n 0, 1) := by decide +kernel
theorem dL_nearest_3 : decode cL_nearest 3 = .ok (.iload_n 1, 1) := by decide +kernel
theorem dL_nearest_4 : decode cL_nearest 4 = .ok (.invokevirtual 45, 3) := by decide +kernel
theorem dL_nearest_7 : decode cL_nearest 7 = .ok (.i2l, 1) := by decide +kernel
theorem dL_nearest_8 : decode cL_nearest 8 = .ok (.lastore, 1) := by decide +kernel
theorem dL_nearest_9 : decode cL_nearest 9 = .ok (.goto 6, 3) := by decide +kernel
theorem dL_nearest_12 : decode cL_nearest 12 = .ok (.astore_n 3, 1) := by decide +kernel
theorem dL_nearest_13 : decode cL_nearest 13 = .ok (.iconst 1, 1) := by decide +kernel
theorem dL_nearest_14 : decode cL_nearest 14 = .ok (.ireturn, 1) := by decide +kernel
theorem dL_nearest_15 : decode cL_nearest 15 = .ok (.iconst 0, 1) := by decide +kernel
theorem dL_nearest_16 : decode cL_nearest 16 = .ok (.ireturn, 1) := by decide +kernel
theorem dL_code_0 : decode cL_code 0 = .ok (.aload_n 2, 1) := by decide +kernel
theorem dL_code_1 : decode cL_code 1 = .ok (.iconst 0, 1) := by decide +kernel
theorem dL_code_2 : decode cL_code 2 = .ok (.aload_n 0, 1) := by decide +kernel
theorem dL_code_3 : decode cL_code 3 = .ok (.iload_n 1, 1) := by decide +kernel
theorem dL_code_4 : decode cL_code 4 = .ok (.invokevirtual 48, 3) := by decide +kernel
theorem dL_code_7 : decode cL_code 7 = .ok (.i2l, 1) := by decide +kernel
theorem dL_code_8 : decode cL_code 8 = .ok (.lastore, 1) := by decide +kernel
theorem dL_code_9 : decode cL_code 9 = .ok (.goto 6, 3) := by decide +kernel
theorem dL_code_12 : decode cL_code 12 = .ok (.astore_n 3, 1) := by decide +kernel
theorem dL_code_13 : decode cL_code 13 = .ok (.iconst 1, 1) := by decide +kernel
theorem dL_code_14 : decode cL_code 14 = .ok (.ireturn, 1) := by decide +kernel
theorem dL_code_15 : decode cL_code 15 = .ok (.iconst 0, 1) := by decide +kernel
theorem dL_code_16 : decode cL_code 16 = .ok (.ireturn, 1) := by decide +kernel
theorem dL_codeLength_0 : decode cL_codeLength 0 = .ok (.aload_n 2, 1) := by decide +kernel
theorem dL_codeLength_1 : decode cL_codeLength 1 = .ok (.iconst 0, 1) := by decide +kernel
theorem dL_codeLength_2 : decode cL_codeLength 2 = .ok (.aload_n 0, 1) := by decide +kernel
theorem dL_codeLength_3 : decode cL_codeLength 3 = .ok (.iload_n 1, 1) := by decide +kernel
theorem dL_codeLength_4 : decode cL_codeLength 4 = .ok (.invokevirtual 51, 3) := by decide +kernel
theorem dL_codeLength_7 : decode cL_codeLength 7 = .ok (.i2l, 1) := by decide +kernel
theorem dL_codeLength_8 : decode cL_codeLength 8 = .ok (.lastore, 1) := by decide +kernel
theorem dL_codeLength_9 : decode cL_codeLength 9 = .ok (.goto 6, 3) := by decide +kernel
theorem dL_codeLength_12 : decode cL_codeLength 12 = .ok (.astore_n 3, 1) := by decide +kernel
theorem dL_codeLength_13 : decode cL_codeLength 13 = .ok (.iconst 1, 1) := by decide +kernel
theorem dL_codeLength_14 : decode cL_codeLength 14 = .ok (.ireturn, 1) := by decide +kernel
theorem dL_codeLength_15 : decode cL_codeLength 15 = .ok (.iconst 0, 1) := by decide +kernel
theorem dL_codeLength_16 : decode cL_codeLength 16 = .ok (.ireturn, 1) := by decide +kernel
theorem dL_count_0 : decode cL_count 0 = .ok (.aload_n 2, 1) := by decide +kernel
theorem dL_count_1 : decode cL_count 1 = .ok (.iconst 0, 1) := by decide +kernel
theorem dL_count_2 : decode cL_count 2 = .ok (.aload_n 0, 1) := by decide +kernel
theorem dL_count_3 : decode cL_count 3 = .ok (.iload_n 1, 1) := by decide +kernel
theorem dL_count_4 : decode cL_count 4 = .ok (.invokevirtual 54, 3) := by decide +kernel
theorem dL_count_7 : decode cL_count 7 = .ok (.i2l, 1) := by decide +kernel
theorem dL_count_8 : decode cL_count 8 = .ok (.lastore, 1) := by decide +kernel
theorem dL_count_9 : decode cL_count 9 = .ok (.goto 6, 3) := by decide +kernel
theorem dL_count_12 : decode cL_count 12 = .ok (.astore_n 3, 1) := by decide +kernel
theorem dL_count_13 : decode cL_count 13 = .ok (.iconst 1, 1) := by decide +kernel
theorem dL_count_14 : decode cL_count 14 = .ok (.ireturn, 1) := by decide +kernel
theorem dL_count_15 : decode cL_count 15 = .ok (.iconst 0, 1) := by decide +kernel
theorem dL_count_16 : decode cL_count 16 = .ok (.ireturn, 1) := by decide +kernel
theorem dL_ifDrawn_0 : decode cL_ifDrawn 0 = .ok (.aload 4, 2) := by decide +kernel
theorem dL_ifDrawn_2 : decode cL_ifDrawn 2 = .ok (.iconst 0, 1) := by decide +kernel
theorem dL_ifDrawn_3 : decode cL_ifDrawn 3 = .ok (.aload_n 0, 1) := by decide +kernel
theorem dL_ifDrawn_4 : decode cL_ifDrawn 4 = .ok (.iload_n 1, 1) := by decide +kernel
theorem dL_ifDrawn_5 : decode cL_ifDrawn 5 = .ok (.iload_n 2, 1) := by decide +kernel
theorem dL_ifDrawn_6 : decode cL_ifDrawn 6 = .ok (.iload_n 3, 1) := by decide +kernel
theorem dL_ifDrawn_7 : decode cL_ifDrawn 7 = .ok (.invokevirtual 57, 3) := by decide +kernel
theorem dL_ifDrawn_10 : decode cL_ifDrawn 10 = .ok (.i2l, 1) := by decide +kernel
theorem dL_ifDrawn_11 : decode cL_ifDrawn 11 = .ok (.lastore, 1) := by decide +kernel
theorem dL_ifDrawn_12 : decode cL_ifDrawn 12 = .ok (.goto 11, 3) := by decide +kernel
theorem dL_ifDrawn_15 : decode cL_ifDrawn 15 = .ok (.astore 5, 2) := by decide +kernel
theorem dL_ifDrawn_17 : decode cL_ifDrawn 17 = .ok (.iconst 1, 1) := by decide +kernel
theorem dL_ifDrawn_18 : decode cL_ifDrawn 18 = .ok (.ireturn, 1) := by decide +kernel
theorem dL_ifDrawn_19 : decode cL_ifDrawn 19 = .ok (.astore 5, 2) := by decide +kernel
theorem dL_ifDrawn_21 : decode cL_ifDrawn 21 = .ok (.iconst 2, 1) := by decide +kernel
theorem dL_ifDrawn_22 : decode cL_ifDrawn 22 = .ok (.ireturn, 1) := by decide +kernel
theorem dL_ifDrawn_23 : decode cL_ifDrawn 23 = .ok (.iconst 0, 1) := by decide +kernel
theorem dL_ifDrawn_24 : decode cL_ifDrawn 24 = .ok (.ireturn, 1) := by decide +kernel
theorem dL_greatestSmudge_0 : decode cL_greatestSmudge 0 = .ok (.aload_n 2, 1) := by decide +kernel
theorem dL_greatestSmudge_1 : decode cL_greatestSmudge 1 = .ok (.iconst 0, 1) := by decide +kernel
theorem dL_greatestSmudge_2 : decode cL_greatestSmudge 2 = .ok (.aload_n 0, 1) := by decide +kernel
theorem dL_greatestSmudge_3 : decode cL_greatestSmudge 3 = .ok (.iload_n 1, 1) := by decide +kernel
theorem dL_greatestSmudge_4 : decode cL_greatestSmudge 4 = .ok (.invokevirtual 60, 3) := by decide +kernel
theorem dL_greatestSmudge_7 : decode cL_greatestSmudge 7 = .ok (.i2l, 1) := by decide +kernel
theorem dL_greatestSmudge_8 : decode cL_greatestSmudge 8 = .ok (.lastore, 1) := by decide +kernel
theorem dL_greatestSmudge_9 : decode cL_greatestSmudge 9 = .ok (.goto 6, 3) := by decide +kernel
theorem dL_greatestSmudge_12 : decode cL_greatestSmudge 12 = .ok (.astore_n 3, 1) := by decide +kernel
theorem dL_greatestSmudge_13 : decode cL_greatestSmudge 13 = .ok (.iconst 1, 1) := by decide +kernel
theorem dL_greatestSmudge_14 : decode cL_greatestSmudge 14 = .ok (.ireturn, 1) := by decide +kernel
theorem dL_greatestSmudge_15 : decode cL_greatestSmudge 15 = .ok (.iconst 0, 1) := by decide +kernel
theorem dL_greatestSmudge_16 : decode cL_greatestSmudge 16 = .ok (.ireturn, 1) := by decide +kernel
theorem dL_append_0 : decode cL_append 0 = .ok (.aload_n 2, 1) := by decide +kernel
theorem dL_append_1 : decode cL_append 1 = .ok (.iconst 0, 1) := by decide +kernel
theorem dL_append_2 : decode cL_append 2 = .ok (.aload_n 0, 1) := by decide +kernel
theorem dL_append_3 : decode cL_append 3 = .ok (.iload_n 1, 1) := by decide +kernel
theorem dL_append_4 : decode cL_append 4 = .ok (.invokevirtual 63, 3) := by decide +kernel
theorem dL_append_7 : decode cL_append 7 = .ok (.i2l, 1) := by decide +kernel
theorem dL_append_8 : decode cL_append 8 = .ok (.lastore, 1) := by decide +kernel
theorem dL_append_9 : decode cL_append 9 = .ok (.goto 9, 3) := by decide +kernel
theorem dL_append_12 : decode cL_append 12 = .ok (.astore_n 3, 1) := by decide +kernel
theorem dL_append_13 : decode cL_append 13 = .ok (.iconst 1, 1) := by decide +kernel
theorem dL_append_14 : decode cL_append 14 = .ok (.ireturn, 1) := by decide +kernel
theorem dL_append_15 : decode cL_append 15 = .ok (.astore_n 3, 1) := by decide +kernel
theorem dL_append_16 : decode cL_append 16 = .ok (.iconst 2, 1) := by decide +kernel
theorem dL_append_17 : decode cL_append 17 = .ok (.ireturn, 1) := by decide +kernel
theorem dL_append_18 : decode cL_append 18 = .ok (.iconst 0, 1) := by decide +kernel
theorem dL_append_19 : decode cL_append 19 = .ok (.ireturn, 1) := by decide +kernel
theorem dL_run_0 : decode cL_run 0 = .ok (.aload_n 1, 1) := by decide +kernel
theorem dL_run_1 : decode cL_run 1 = .ok (.iconst 0, 1) := by decide +kernel
theorem dL_run_2 : decode cL_run 2 = .ok (.aload_n 0, 1) := by decide +kernel
theorem dL_run_3 : decode cL_run 3 = .ok (.invokevirtual 66, 3) := by decide +kernel
theorem dL_run_6 : decode cL_run 6 = .ok (.i2l, 1) := by decide +kernel
theorem dL_run_7 : decode cL_run 7 = .ok (.lastore, 1) := by decide +kernel
theorem dL_run_8 : decode cL_run 8 = .ok (.goto 6, 3) := by decide +kernel
theorem dL_run_11 : decode cL_run 11 = .ok (.astore_n 2, 1) := by decide +kernel
theorem dL_run_12 : decode cL_run 12 = .ok (.iconst 1, 1) := by decide +kernel
theorem dL_run_13 : decode cL_run 13 = .ok (.ireturn, 1) := by decide +kernel
theorem dL_run_14 : decode cL_run 14 = .ok (.iconst 0, 1) := by decide +kernel
theorem dL_run_15 : decode cL_run 15 = .ok (.ireturn, 1) := by decide +kernel
theorem dL_undo_0 : decode cL_undo 0 = .ok (.aload_n 1, 1) := by decide +kernel
theorem dL_undo_1 : decode cL_undo 1 = .ok (.iconst 0, 1) := by decide +kernel
theorem dL_undo_2 : decode cL_undo 2 = .ok (.aload_n 0, 1) := by decide +kernel
theorem dL_undo_3 : decode cL_undo 3 = .ok (.invokevirtual 70, 3) := by decide +kernel
theorem dL_undo_6 : decode cL_undo 6 = .ok (.i2l, 1) := by decide +kernel
theorem dL_undo_7 : decode cL_undo 7 = .ok (.lastore, 1) := by decide +kernel
theorem dL_undo_8 : decode cL_undo 8 = .ok (.goto 6, 3) := by decide +kernel
theorem dL_undo_11 : decode cL_undo 11 = .ok (.astore_n 2, 1) := by decide +kernel
theorem dL_undo_12 : decode cL_undo 12 = .ok (.iconst 1, 1) := by decide +kernel
theorem dL_undo_13 : decode cL_undo 13 = .ok (.ireturn, 1) := by decide +kernel
theorem dL_undo_14 : decode cL_undo 14 = .ok (.iconst 0, 1) := by decide +kernel
theorem dL_undo_15 : decode cL_undo 15 = .ok (.ireturn, 1) := by decide +kernel
set_option maxHeartbeats 4000000 in
set_option maxRecDepth 100000 in
theorem c_L_print (l : Launch) (D : va_G) (a : Nat → Nat) (K : ClassId) (KS : ClassId) (st : ST) (hs : HT) (sc : SCT) (d : Int32) (j : Nat) (out : Nat) (KL : ClassId) (ofn : Nat → Int64) (hbst : bST st) (hh : okH hs) (hj1 : 1 ≤ j) (hj8 : j ≤ 8) (hd0 : ¬ d < 0) (hd1 : d < pw10 j) (sz : Nat) : k_Wi (S := (Nat → Int64) × Int32) l D yL_print cL_print 5 (some .int) [(0, 10, 13, 13)] 7 0 0 149 [.ref (a 0), .int d, .int (nI j), .ref out] ((out, .inl (KL, 1, .inr (.inl ofn))) :: (WW a K KS st hs sc)) [(K, .int), (KS, .object "BarcodeWand$State"), (KL, .long)] (fun (r : Int32) (u : (Nat → Int64) × Int32) => match u with | (og, rv) => r = 0 ∧ rv = (chkd (cS d j)) ∧ og 0 = rv.toInt64) (fun u => match u with | (og, rv) => ((out, .inl (KL, 1, .inr (.inl og))) :: (WW a K KS (setP d j st) (svH hs st) sc))) (fun u => match u with | (og, rv) => []) sz := by
  refine va_MetW (cc := cL_print) (maxL := 5) (ret := (some .int)) (hh := [(0, 10, 13, 13)]) (by decide) rfl ?_
  intro p e s m args below meth c s₁ B hml hv
  obtain ⟨rfl, hsz, hP, hK, hD0, hG⟩ := hv
  have hx := B.exec
  have hb := B.bytes
  have hr := B.returns
  have ht : ∀ v9 ∈ wsA, v9.before ([.ref (a 0), .int d, .int (nI j), .ref out] : List Value).toArray s = true := fun v9 h9 => atoms_spec (ws := Cond.codeWith yL_print cL_print 5 (some .int) [(0, 10, 13, 13)] :: wsA) B.pre v9 (List.mem_cons_of_mem _ h9)
  have htab : c.exceptionTable.toList = tableOf [(0, 10, 13, 13)] := vx_table (x := yL_print) B (atoms_spec (ws := Cond.codeWith yL_print cL_print 5 (some .int) [(0, 10, 13, 13)] :: wsA) B.pre _ List.mem_cons_self)
  have hown : s.vm.findClass RL = some m.cls := findClass_of_methodNamed B.named
  have S0 : k_C p s m ([.ref (a 0), .int d, .int (nI j), .ref out] : List Value).toArray c cL_print 5 RL := ⟨hx, hb, hml, hown, ht⟩
  have hlocks := B.notSynchronized
  subst hsz
  have hD := hD0.self (sz := s.heap.size)
  generalize hAe : va_A ((out, .inl (KL, 1, .inr (.inl ofn))) :: (WW a K KS st hs sc)) s.heap.size = A at hD hG ⊢
  have hA : ∀ q : Nat, s.heap.size ≤ q → A q := fun q h => by rw [← hAe]; exact Or.inr h
  have hS : va_S A s.heap s.heap [] := va_S.rf
  have hl := lv_entry ([.ref (a 0), .int d, .int (nI j), .ref out]) (n := 5) (Nat.le_of_ble_eq_true rfl)
  rw [lg_entry_eq]
  generalize (lg_sl ([.ref (a 0), .int d, .int (nI j), .ref out]) ++ List.replicate (5 - (lg_sl ([.ref (a 0), .int d, .int (nI j), .ref out])).length) Slot.unset).toArray = ls at hl ⊢
  have hl : lv_has ls 5 [(0, .ref (a 0)), (1, .int d), (2, .int (nI j)), (3, .ref out)] := hl
  have hP : va_P D vwCl ((out, .inl (KL, 1, .inr (.inl ofn))) :: (WW a K KS st hs sc)) s.heap := hP
  refine lv_aload_n hx hb dL_print_0 rfl (lv_at hl 3 rfl) ?_
  refine lv_iconst (v := 0) hx hb dL_print_1 (by decide) ?_
  refine lv_aload_n hx hb dL_print_2 rfl (lv_at hl 0 rfl) ?_
  refine lv_iload_n hx hb dL_print_3 rfl (lv_at hl 1 rfl) ?_
  refine lv_iload_n hx hb dL_print_4 rfl (lv_at hl 2 rfl) ?_
  have ct := k_cut_TT (wp := [(out, .inl (KL, 1, .inr (.inl ofn)))]) (T := (WW a K KS st hs sc)) (wc := []) (wr := [(out, .inl (KL, 1, .inr (.inl ofn)))]) (tc := [(K, .int), (KS, .object "BarcodeWand$State")]) hG hS hA hK hP hD [] [0] [0, 1] rfl rfl (by decide) (by decide) (by decide) rfl
  refine k_endi (As := [.ref (a 0), .int d, .int (nI j)]) ct (k_runV (As := [.int d, .int (nI j)]) (rest := [.int 0, .ref out]) S0 Lv_L_7 rfl (ci := 7) (q0 := 0) rfl (WW_0 a K KS st hs sc) ct (c_B_print l D a K KS st hs sc d j (by assumption) (by assumption) (by assumption) (by assumption) (by assumption) (by assumption) s.heap.size) hl.1 rfl (Nat.le_of_ble_eq_true rfl) rfl dL_print_5 ⟨⟨Nat.le_of_ble_eq_true rfl, Nat.le_of_ble_eq_true rfl⟩, Nat.le_of_ble_eq_true rfl, Nat.le_of_ble_eq_true rfl⟩) rfl rfl (fun r_1 _ H locs hw_2 hP hD hK hS => ?_)
  have hK : va_K D vwCl [(K, .int), (KS, .object "BarcodeWand$State"), (KL, .long)] s := hK
  have hP : va_P D vwCl ((out, .inl (KL, 1, .inr (.inl ofn))) :: (WW a K KS (setP d j st) (svH hs st) sc)) H := hP
  have hD : va_D A ((out, .inl (KL, 1, .inr (.inl ofn))) :: (WW a K KS (setP d j st) (svH hs st) sc)) := hD
  have hw_2 : r_1 = (chkd (cS d j)) := hw_2
  have hw_2 := hw_2.symm
  subst hw_2
  refine k_nrm (y := (chkd (cS d j))) rfl ?_
  refine lv_i2l (v := (chkd (cS d j)).toInt64) hx hb dL_print_8 rfl ?_
  refine va_last hx hb hK hP hD hS 0 2 rfl rfl (by unfold vp_in; decide) dL_print_9 (fun H locs hP hD hS => ?_)
  have hP : va_P D vwCl ((out, .inl (KL, 1, .inr (.inl (vp_updL ofn ((0 : Int32).toNatClampNeg) ((chkd (cS d j)).toInt64))))) :: (WW a K KS (setP d j st) (svH hs st) sc)) H := hP
  have hD : va_D A ((out, .inl (KL, 1, .inr (.inl (vp_updL ofn ((0 : Int32).toNatClampNeg) ((chkd (cS d j)).toInt64))))) :: (WW a K KS (setP d j st) (svH hs st) sc)) := hD
  refine lv_goto (tgt := 17) hx hb dL_print_10 (by decide) ?_
  refine lv_iconst (v := 0) hx hb dL_print_17 (by decide) ?_
  have hP9 : va_P D vwCl ((out, .inl (KL, 1, .inr (.inl (vp_updL ofn ((0 : Int32).toNatClampNeg) ((chkd (cS d j)).toInt64))))) :: (WW a K KS (setP d j st) (svH hs st) sc)) H := k_subP (wp := [(out, .inl (KL, 1, .inr (.inl (vp_updL ofn ((0 : Int32).toNatClampNeg) ((chkd (cS d j)).toInt64)))))]) (wp' := [(out, .inl (KL, 1, .inr (.inl (vp_updL ofn ((0 : Int32).toNatClampNeg) ((chkd (cS d j)).toInt64)))))]) (T := (WW a K KS (setP d j st) (svH hs st) sc)) hP [0] rfl
  have hD9 : va_D A ((out, .inl (KL, 1, .inr (.inl (vp_updL ofn ((0 : Int32).toNatClampNeg) ((chkd (cS d j)).toInt64))))) :: (WW a K KS (setP d j st) (svH hs st) sc)) := k_subD (wp := [(out, .inl (KL, 1, .inr (.inl (vp_updL ofn ((0 : Int32).toNatClampNeg) ((chkd (cS d j)).toInt64)))))]) (wp' := [(out, .inl (KL, 1, .inr (.inl (vp_updL ofn ((0 : Int32).toNatClampNeg) ((chkd (cS d j)).toInt64)))))]) (T := (WW a K KS (setP d j st) (svH hs st) sc)) hD [0] (by decide) rfl
  have hP9 : va_P D vwCl ((out, .inl (KL, 1, .inr (.inl (vp_updL ofn ((0 : Int32).toNatClampNeg) ((chkd (cS d j)).toInt64))))) :: (WW a K KS (setP d j st) (svH hs st) sc)) H := hP9
  have hD9 : va_D A ((out, .inl (KL, 1, .inr (.inl (vp_updL ofn ((0 : Int32).toNatClampNeg) ((chkd (cS d j)).toInt64))))) :: (WW a K KS (setP d j st) (svH hs st) sc)) := hD9
  have hK9 : va_K D vwCl [] s := hK.sub [] rfl
  exact W.iret (v := 0) hx hb hr (fun t ht9 hW9 => ⟨⟨0, ((vp_updL ofn ((0 : Int32).toNatClampNeg) ((chkd (cS d j)).toInt64)), (chkd (cS d j))), rfl, by (exact ⟨rfl, rfl, pk_uLs⟩), ⟨by rw [ht9]; exact hP9, va_K.moved hW9.alike hK9, hD9⟩⟩, hS.F ht9⟩) hS.2.2 dL_print_18
set_option maxHeartbeats 4000000 in
set_option maxRecDepth 100000 in
theorem c_L_smudge (l : Launch) (D : va_G) (a : Nat → Nat) (K : ClassId) (KS : ClassId) (st : ST) (hs : HT) (sc : SCT) (en : Nat) (x : Int32) (out : Nat) (KL : ClassId) (ofn : Nat → Int64) (hbst : bST st) (hh : okH hs) (hx1 : ¬ x < (-9)) (hx2 : x ≤ 9) (hen : en < s_ns st) (sz : Nat) : k_Wi (S := (Nat → Int64) × Int32) l D yL_smudge cL_smudge 5 (some .int) [(0, 10, 13, 18), (0, 10, 17, 13)] 7 0 0 150 [.ref (a 0), .int (nI en), .int x, .ref out] ((out, .inl (KL, 1, .inr (.inl ofn))) :: (WW a K KS st hs sc)) [(K, .int), (KS, .object "BarcodeWand$State"), (KL, .long)] (fun (r : Int32) (u : (Nat → Int64) × Int32) => match u with | (og, rv) => r = 0 ∧ rv = (s_zf st en) ∧ og 0 = rv.toInt64) (fun u => match u with | (og, rv) => ((out, .inl (KL, 1, .inr (.inl og))) :: (WW a K KS (setZ en x st) (svH hs st) sc))) (fun u => match u with | (og, rv) => []) sz := by
  refine va_MetW (cc := cL_smudge) (maxL := 5) (ret := (some .int)) (hh := [(0, 10, 13, 18), (0, 10, 17, 13)]) (by decide) rfl ?_
  intro p e s m args below meth c s₁ B hml hv
  obtain ⟨rfl, hsz, hP, hK, hD0, hG⟩ := hv
  have hx := B.exec
  have hb := B.bytes
  have hr := B.returns
  have ht : ∀ v9 ∈ wsA, v9.before ([.ref (a 0), .int (nI en), .int x, .ref out] : List Value).toArray s = true := fun v9 h9 => atoms_spec (ws := Cond.codeWith yL_smudge cL_smudge 5 (some .int) [(0, 10, 13, 18), (0, 10, 17, 13)] :: wsA) B.pre v9 (List.mem_cons_of_mem _ h9)
  have htab : c.exceptionTable.toList = tableOf [(0, 10, 13, 18), (0, 10, 17, 13)] := vx_table (x := yL_smudge) B (atoms_spec (ws := Cond.codeWith yL_smudge cL_smudge 5 (some .int) [(0, 10, 13, 18), (0, 10, 17, 13)] :: wsA) B.pre _ List.mem_cons_self)
  have hown : s.vm.findClass RL = some m.cls := findClass_of_methodNamed B.named
  have S0 : k_C p s m ([.ref (a 0), .int (nI en), .int x, .ref out] : List Value).toArray c cL_smudge 5 RL := ⟨hx, hb, hml, hown, ht⟩
  have hlocks := B.notSynchronized
  subst hsz
  have hD := hD0.self (sz := s.heap.size)
  generalize hAe : va_A ((out, .inl (KL, 1, .inr (.inl ofn))) :: (WW a K KS st hs sc)) s.heap.size = A at hD hG ⊢
  have hA : ∀ q : Nat, s.heap.size ≤ q → A q := fun q h => by rw [← hAe]; exact Or.inr h
  have hS : va_S A s.heap s.heap [] := va_S.rf
  have hl := lv_entry ([.ref (a 0), .int (nI en), .int x, .ref out]) (n := 5) (Nat.le_of_ble_eq_true rfl)
  rw [lg_entry_eq]
  generalize (lg_sl ([.ref (a 0), .int (nI en), .int x, .ref out]) ++ List.replicate (5 - (lg_sl ([.ref (a 0), .int (nI en), .int x, .ref out])).length) Slot.unset).toArray = ls at hl ⊢
  have hl : lv_has ls 5 [(0, .ref (a 0)), (1, .int (nI en)), (2, .int x), (3, .ref out)] := hl
  have hP : va_P D vwCl ((out, .inl (KL, 1, .inr (.inl ofn))) :: (WW a K KS st hs sc)) s.heap := hP
  refine lv_aload_n hx hb dL_smudge_0 rfl (lv_at hl 3 rfl) ?_
  refine lv_iconst (v := 0) hx hb dL_smudge_1 (by decide) ?_
  refine lv_aload_n hx hb dL_smudge_2 rfl (lv_at hl 0 rfl) ?_
  refine lv_iload_n hx hb dL_smudge_3 rfl (lv_at hl 1 rfl) ?_
  refine lv_iload_n hx hb dL_smudge_4 rfl (lv_at hl 2 rfl) ?_
  have ct := k_cut_TT (wp := [(out, .inl (KL, 1, .inr (.inl ofn)))]) (T := (WW a K KS st hs sc)) (wc := []) (wr := [(out, .inl (KL, 1, .inr (.inl ofn)))]) (tc := [(K, .int), (KS, .object "BarcodeWand$State")]) hG hS hA hK hP hD [] [0] [0, 1] rfl rfl (by decide) (by decide) (by decide) rfl
  refine k_endi (As := [.ref (a 0), .int (nI en), .int x]) ct (k_runV (As := [.int (nI en), .int x]) (rest := [.int 0, .ref out]) S0 Lv_L_15 rfl (ci := 7) (q0 := 0) rfl (WW_0 a K KS st hs sc) ct (c_B_smudge l D a K KS st hs sc en x (by assumption) (by assumption) (by assumption) (by assumption) (by assumption) s.heap.size) hl.1 rfl (Nat.le_of_ble_eq_true rfl) rfl dL_smudge_5 ⟨⟨Nat.le_of_ble_eq_true rfl, Nat.le_of_ble_eq_true rfl⟩, Nat.le_of_ble_eq_true rfl, Nat.le_of_ble_eq_true rfl⟩) rfl rfl (fun r_1 _ H locs hw_2 hP hD hK hS => ?_)
  have hK : va_K D vwCl [(K, .int), (KS, .object "BarcodeWand$State"), (KL, .long)] s := hK
  have hP : va_P D vwCl ((out, .inl (KL, 1, .inr (.inl ofn))) :: (WW a K KS (setZ en x st) (svH hs st) sc)) H := hP
  have hD : va_D A ((out, .inl (KL, 1, .inr (.inl ofn))) :: (WW a K KS (setZ en x st) (svH hs st) sc)) := hD
  have hw_2 : r_1 = (s_zf st en) := hw_2
  have hw_2 := hw_2.symm
  subst hw_2
  refine k_nrm (y := (s_zf st en)) rfl ?_
  refine lv_i2l (v := (s_zf st en).toInt64) hx hb dL_smudge_8 rfl ?_
  refine va_last hx hb hK hP hD hS 0 2 rfl rfl (by unfold vp_in; decide) dL_smudge_9 (fun H locs hP hD hS => ?_)
  have hP : va_P D vwCl ((out, .inl (KL, 1, .inr (.inl (vp_updL ofn ((0 : Int32).toNatClampNeg) ((s_zf st en).toInt64))))) :: (WW a K KS (setZ en x st) (svH hs st) sc)) H := hP
  have hD : va_D A ((out, .inl (KL, 1, .inr (.inl (vp_updL ofn ((0 : Int32).toNatClampNeg) ((s_zf st en).toInt64))))) :: (WW a K KS (setZ en x st) (svH hs st) sc)) := hD
  refine lv_goto (tgt := 21) hx hb dL_smudge_10 (by decide) ?_
  refine lv_iconst (v := 0) hx hb dL_smudge_21 (by decide) ?_
  have hP9 : va_P D vwCl ((out, .inl (KL, 1, .inr (.inl (vp_updL ofn ((0 : Int32).toNatClampNeg) ((s_zf st en).toInt64))))) :: (WW a K KS (setZ en x st) (svH hs st) sc)) H := k_subP (wp := [(out, .inl (KL, 1, .inr (.inl (vp_updL ofn ((0 : Int32).toNatClampNeg) ((s_zf st en).toInt64)))))]) (wp' := [(out, .inl (KL, 1, .inr (.inl (vp_updL ofn ((0 : Int32).toNatClampNeg) ((s_zf st en).toInt64)))))]) (T := (WW a K KS (setZ en x st) (svH hs st) sc)) hP [0] rfl
  have hD9 : va_D A ((out, .inl (KL, 1, .inr (.inl (vp_updL ofn ((0 : Int32).toNatClampNeg) ((s_zf st en).toInt64))))) :: (WW a K KS (setZ en x st) (svH hs st) sc)) := k_subD (wp := [(out, .inl (KL, 1, .inr (.inl (vp_updL ofn ((0 : Int32).toNatClampNeg) ((s_zf st en).toInt64)))))]) (wp' := [(out, .inl (KL, 1, .inr (.inl (vp_updL ofn ((0 : Int32).toNatClampNeg) ((s_zf st en).toInt64)))))]) (T := (WW a K KS (setZ en x st) (svH hs st) sc)) hD [0] (by decide) rfl
  have hP9 : va_P D vwCl ((out, .inl (KL, 1, .inr (.inl (vp_updL ofn ((0 : Int32).toNatClampNeg) ((s_zf st en).toInt64))))) :: (WW a K KS (setZ en x st) (svH hs st) sc)) H := hP9
  have hD9 : va_D A ((out, .inl (KL, 1, .inr (.inl (vp_updL ofn ((0 : Int32).toNatClampNeg) ((s_zf st en).toInt64))))) :: (WW a K KS (setZ en x st) (svH hs st) sc)) := hD9
  have hK9 : va_K D vwCl [] s := hK.sub [] rfl
  exact W.iret (v := 0) hx hb hr (fun t ht9 hW9 => ⟨⟨0, ((vp_updL ofn ((0 : Int32).toNatClampNeg) ((s_zf st en).toInt64)), (s_zf st en)), rfl, by (exact ⟨rfl, rfl, pk_uLs⟩), ⟨by rw [ht9]; exact hP9, va_K.moved hW9.alike hK9, hD9⟩⟩, hS.F ht9⟩) hS.2.2 dL_smudge_22
set_option maxHeartbeats 4000000 in
set_option maxRecDepth 100000 in
theorem c_L_width (l : Launch) (D : va_G) (a : Nat → Nat) (K : ClassId) (KS : ClassId) (st : ST) (hs : HT) (sc : SCT) (x : Int32) (out : Nat) (KL : ClassId) (ofn : Nat → Int64) (hxi : inR x (nI (s_ns st)) = 1) (sz : Nat) : k_Wi (S := (Nat → Int64) × Int32) l D yL_width cL_width 4 (some .int) [(0, 9, 12, 18)] 4 0 0 85 [.ref (a 0), .int x, .ref out] ((out, .inl (KL, 1, .inr (.inl ofn))) :: (WW a K KS st hs sc)) [(K, .int), (KS, .object "BarcodeWand$State"), (KL, .long)] (fun (r : Int32) (u : (Nat → Int64) × Int32) => match u with | (og, rv) => r = 0 ∧ rv = (widF (s_nd st) (s_df st) (nI (s_ns st)) x) ∧ og 0 = rv.toInt64) (fun u => match u with | (og, rv) => ((out, .inl (KL, 1, .inr (.inl og))) :: (WW a K KS st hs sc))) (fun u => match u with | (og, rv) => []) sz := by
  refine va_MetW (cc := cL_width) (maxL := 4) (ret := (some .int)) (hh := [(0, 9, 12, 18)]) (by decide) rfl ?_
  intro p e s m args below meth c s₁ B hml hv
  obtain ⟨rfl, hsz, hP, hK, hD0, hG⟩ := hv
  have hx := B.exec
  have hb := B.bytes
  have hr := B.returns
  have ht : ∀ v9 ∈ wsA, v9.before ([.ref (a 0), .int x, .ref out] : List Value).toArray s = true := fun v9 h9 => atoms_spec (ws := Cond.codeWith yL_width cL_width 4 (some .int) [(0, 9, 12, 18)] :: wsA) B.pre v9 (List.mem_cons_of_mem _ h9)
  have htab : c.exceptionTable.toList = tableOf [(0, 9, 12, 18)] := vx_table (x := yL_width) B (atoms_spec (ws := Cond.codeWith yL_width cL_width 4 (some .int) [(0, 9, 12, 18)] :: wsA) B.pre _ List.mem_cons_self)
  have hown : s.vm.findClass RL = some m.cls := findClass_of_methodNamed B.named
  have S0 : k_C p s m ([.ref (a 0), .int x, .ref out] : List Value).toArray c cL_width 4 RL := ⟨hx, hb, hml, hown, ht⟩
  have hlocks := B.notSynchronized
  subst hsz
  have hD := hD0.self (sz := s.heap.size)
  generalize hAe : va_A ((out, .inl (KL, 1, .inr (.inl ofn))) :: (WW a K KS st hs sc)) s.heap.size = A at hD hG ⊢
  have hA : ∀ q : Nat, s.heap.size ≤ q → A q := fun q h => by rw [← hAe]; exact Or.inr h
  have hS : va_S A s.heap s.heap [] := va_S.rf
  have hl := lv_entry ([.ref (a 0), .int x, .ref out]) (n := 4) (Nat.le_of_ble_eq_true rfl)
  rw [lg_entry_eq]
  generalize (lg_sl ([.ref (a 0), .int x, .ref out]) ++ List.replicate (4 - (lg_sl ([.ref (a 0), .int x, .ref out])).length) Slot.unset).toArray = ls at hl ⊢
  have hl : lv_has ls 4 [(0, .ref (a 0)), (1, .int x), (2, .ref out)] := hl
  have hP : va_P D vwCl ((out, .inl (KL, 1, .inr (.inl ofn))) :: (WW a K KS st hs sc)) s.heap := hP
  refine lv_aload_n hx hb dL_width_0 rfl (lv_at hl 2 rfl) ?_
  refine lv_iconst (v := 0) hx hb dL_width_1 (by decide) ?_
  refine lv_aload_n hx hb dL_width_2 rfl (lv_at hl 0 rfl) ?_
  refine lv_iload_n hx hb dL_width_3 rfl (lv_at hl 1 rfl) ?_
  have ct := k_cut_TT (wp := [(out, .inl (KL, 1, .inr (.inl ofn)))]) (T := (WW a K KS st hs sc)) (wc := []) (wr := [(out, .inl (KL, 1, .inr (.inl ofn)))]) (tc := [(K, .int), (KS, .object "BarcodeWand$State")]) hG hS hA hK hP hD [] [0] [0, 1] rfl rfl (by decide) (by decide) (by decide) rfl
  refine k_endi (As := [.ref (a 0), .int x]) ct (k_runV (As := [.int x]) (rest := [.int 0, .ref out]) S0 Lv_L_20 rfl (ci := 7) (q0 := 0) rfl (WW_0 a K KS st hs sc) ct (c_B_width l D a K KS st hs sc x (by assumption) s.heap.size) hl.1 rfl (Nat.le_of_ble_eq_true rfl) rfl dL_width_4 ⟨⟨Nat.le_of_ble_eq_true rfl, Nat.le_of_ble_eq_true rfl⟩, Nat.le_of_ble_eq_true rfl, Nat.le_of_ble_eq_true rfl⟩) rfl rfl (fun r_1 _ H locs hw_2 hP hD hK hS => ?_)
  have hK : va_K D vwCl [(K, .int), (KS, .object "BarcodeWand$State"), (KL, .long)] s := hK
  have hP : va_P D vwCl ((out, .inl (KL, 1, .inr (.inl ofn))) :: (WW a K KS st hs sc)) H := hP
  have hD : va_D A ((out, .inl (KL, 1, .inr (.inl ofn))) :: (WW a K KS st hs sc)) := hD
  have hw_2 : r_1 = (widF (s_nd st) (s_df st) (nI (s_ns st)) x) := hw_2
  have hw_2 := hw_2.symm
  subst hw_2
  refine k_nrm (y := (widF (s_nd st) (s_df st) (nI (s_ns st)) x)) rfl ?_
  refine lv_i2l (v := (widF (s_nd st) (s_df st) (nI (s_ns st)) x).toInt64) hx hb dL_width_7 rfl ?_
  refine va_last hx hb hK hP hD hS 0 2 rfl rfl (by unfold vp_in; decide) dL_width_8 (fun H locs hP hD hS => ?_)
  have hP : va_P D vwCl ((out, .inl (KL, 1, .inr (.inl (vp_updL ofn ((0 : Int32).toNatClampNeg) ((widF (s_nd st) (s_df st) (nI (s_ns st)) x).toInt64))))) :: (WW a K KS st hs sc)) H := hP
  have hD : va_D A ((out, .inl (KL, 1, .inr (.inl (vp_updL ofn ((0 : Int32).toNatClampNeg) ((widF (s_nd st) (s_df st) (nI (s_ns st)) x).toInt64))))) :: (WW a K KS st hs sc)) := hD
  refine lv_goto (tgt := 15) hx hb dL_width_9 (by decide) ?_
  refine lv_iconst (v := 0) hx hb dL_width_15 (by decide) ?_
  have hP9 : va_P D vwCl ((out, .inl (KL, 1, .inr (.inl (vp_updL ofn ((0 : Int32).toNatClampNeg) ((widF (s_nd st) (s_df st) (nI (s_ns st)) x).toInt64))))) :: (WW a K KS st hs sc)) H := k_subP (wp := [(out, .inl (KL, 1, .inr (.inl (vp_updL ofn ((0 : Int32).toNatClampNeg) ((widF (s_nd st) (s_df st) (nI (s_ns st)) x).toInt64)))))]) (wp' := [(out, .inl (KL, 1, .inr (.inl (vp_updL ofn ((0 : Int32).toNatClampNeg) ((widF (s_nd st) (s_df st) (nI (s_ns st)) x).toInt64)))))]) (T := (WW a K KS st hs sc)) hP [0] rfl
  have hD9 : va_D A ((out, .inl (KL, 1, .inr (.inl (vp_updL ofn ((0 : Int32).toNatClampNeg) ((widF (s_nd st) (s_df st) (nI (s_ns st)) x).toInt64))))) :: (WW a K KS st hs sc)) := k_subD (wp := [(out, .inl (KL, 1, .inr (.inl (vp_updL ofn ((0 : Int32).toNatClampNeg) ((widF (s_nd st) (s_df st) (nI (s_ns st)) x).toInt64)))))]) (wp' := [(out, .inl (KL, 1, .inr (.inl (vp_updL ofn ((0 : Int32).toNatClampNeg) ((widF (s_nd st) (s_df st) (nI (s_ns st)) x).toInt64)))))]) (T := (WW a K KS st hs sc)) hD [0] (by decide) rfl
  have hP9 : va_P D vwCl ((out, .inl (KL, 1, .inr (.inl (vp_updL ofn ((0 : Int32).toNatClampNeg) ((widF (s_nd st) (s_df st) (nI (s_ns st)) x).toInt64))))) :: (WW a K KS st hs sc)) H := hP9
  have hD9 : va_D A ((out, .inl (KL, 1, .inr (.inl (vp_updL ofn ((0 : Int32).toNatClampNeg) ((widF (s_nd st) (s_df st) (nI (s_ns st)) x).toInt64))))) :: (WW a K KS st hs sc)) := hD9
  have hK9 : va_K D vwCl [] s := hK.sub [] rfl
  exact W.iret (v := 0) hx hb hr (fun t ht9 hW9 => ⟨⟨0, ((vp_updL ofn ((0 : Int32).toNatClampNeg) ((widF (s_nd st) (s_df st) (nI (s_ns st)) x).toInt64)), (widF (s_nd st) (s_df st) (nI (s_ns st)) x)), rfl, by (exact ⟨rfl, rfl, pk_uLs⟩), ⟨by rw [ht9]; exact hP9, va_K.moved hW9.alike hK9, hD9⟩⟩, hS.F ht9⟩) hS.2.2 dL_width_16
set_option maxHeartbeats 4000000 in
set_option maxRecDepth 100000 in
theorem c_L_labelDigit (l : Launch) (D : va_G) (a : Nat → Nat) (K : ClassId) (KS : ClassId) (st : ST) (hs : HT) (sc : SCT) (x : Int32) (out : Nat) (KL : ClassId) (ofn : Nat → Int64) (hxi : inR x (nI (s_nd st)) = 1) (sz : Nat) : k_Wi (S := (Nat → Int64) × Int32) l D yL_labelDigit cL_labelDigit 4 (some .int) [(0, 9, 12, 18)] 2 0 0 42 [.ref (a 0), .int x, .ref out] ((out, .inl (KL, 1, .inr (.inl ofn))) :: (WW a K KS st hs sc)) [(K, .int), (KS, .object "BarcodeWand$State"), (KL, .long)] (fun (r : Int32) (u : (Nat → Int64) × Int32) => match u with | (og, rv) => r = 0 ∧ rv = (rowAt 9 (nI (s_nd st)) (s_df st) x) ∧ og 0 = rv.toInt64) (fun u => match u with | (og, rv) => ((out, .inl (KL, 1, .inr (.inl og))) :: (WW a K KS st hs sc))) (fun u => match u with | (og, rv) => []) sz := by
  refine va_MetW (cc := cL_labelDigit) (maxL := 4) (ret := (some .int)) (hh := [(0, 9, 12, 18)]) (by decide) rfl ?_
  intro p e s m args below meth c s₁ B hml hv
  obtain ⟨rfl, hsz, hP, hK, hD0, hG⟩ := hv
  have hx := B.exec
  have hb := B.bytes
  have hr := B.returns
  have ht : ∀ v9 ∈ wsA, v9.before ([.ref (a 0), .int x, .ref out] : List Value).toArray s = true := fun v9 h9 => atoms_spec (ws := Cond.codeWith yL_labelDigit cL_labelDigit 4 (some .int) [(0, 9, 12, 18)] :: wsA) B.pre v9 (List.mem_cons_of_mem _ h9)
  have htab : c.exceptionTable.toList = tableOf [(0, 9, 12, 18)] := vx_table (x := yL_labelDigit) B (atoms_spec (ws := Cond.codeWith yL_labelDigit cL_labelDigit 4 (some .int) [(0, 9, 12, 18)] :: wsA) B.pre _ List.mem_cons_self)
  have hown : s.vm.findClass RL = some m.cls := findClass_of_methodNamed B.named
  have S0 : k_C p s m ([.ref (a 0), .int x, .ref out] : List Value).toArray c cL_labelDigit 4 RL := ⟨hx, hb, hml, hown, ht⟩
  have hlocks := B.notSynchronized
  subst hsz
  have hD := hD0.self (sz := s.heap.size)
  generalize hAe : va_A ((out, .inl (KL, 1, .inr (.inl ofn))) :: (WW a K KS st hs sc)) s.heap.size = A at hD hG ⊢
  have hA : ∀ q : Nat, s.heap.size ≤ q → A q := fun q h => by rw [← hAe]; exact Or.inr h
  have hS : va_S A s.heap s.heap [] := va_S.rf
  have hl := lv_entry ([.ref (a 0), .int x, .ref out]) (n := 4) (Nat.le_of_ble_eq_true rfl)
  rw [lg_entry_eq]
  generalize (lg_sl ([.ref (a 0), .int x, .ref out]) ++ List.replicate (4 - (lg_sl ([.ref (a 0), .int x, .ref out])).length) Slot.unset).toArray = ls at hl ⊢
  have hl : lv_has ls 4 [(0, .ref (a 0)), (1, .int x), (2, .ref out)] := hl
  have hP : va_P D vwCl ((out, .inl (KL, 1, .inr (.inl ofn))) :: (WW a K KS st hs sc)) s.heap := hP
  refine lv_aload_n hx hb dL_labelDigit_0 rfl (lv_at hl 2 rfl) ?_
  refine lv_iconst (v := 0) hx hb dL_labelDigit_1 (by decide) ?_
  refine lv_aload_n hx hb dL_labelDigit_2 rfl (lv_at hl 0 rfl) ?_
  refine lv_iload_n hx hb dL_labelDigit_3 rfl (lv_at hl 1 rfl) ?_
  have ct := k_cut_TT (wp := [(out, .inl (KL, 1, .inr (.inl ofn)))]) (T := (WW a K KS st hs sc)) (wc := []) (wr := [(out, .inl (KL, 1, .inr (.inl ofn)))]) (tc := [(K, .int), (KS, .object "BarcodeWand$State")]) hG hS hA hK hP hD [] [0] [0, 1] rfl rfl (by decide) (by decide) (by decide) rfl
  refine k_endi (As := [.ref (a 0), .int x]) ct (k_runV (As := [.int x]) (rest := [.int 0, .ref out]) S0 Lv_L_24 rfl (ci := 7) (q0 := 0) rfl (WW_0 a K KS st hs sc) ct (c_B_labelDigit l D a K KS st hs sc x (by assumption) s.heap.size) hl.1 rfl (Nat.le_of_ble_eq_true rfl) rfl dL_labelDigit_4 ⟨⟨Nat.le_of_ble_eq_true rfl, Nat.le_of_ble_eq_true rfl⟩, Nat.le_of_ble_eq_true rfl, Nat.le_of_ble_eq_true rfl⟩) rfl rfl (fun r_1 _ H locs hw_2 hP hD hK hS => ?_)
  have hK : va_K D vwCl [(K, .int), (KS, .object "BarcodeWand$State"), (KL, .long)] s := hK
  have hP : va_P D vwCl ((out, .inl (KL, 1, .inr (.inl ofn))) :: (WW a K KS st hs sc)) H := hP
  have hD : va_D A ((out, .inl (KL, 1, .inr (.inl ofn))) :: (WW a K KS st hs sc)) := hD
  have hw_2 : r_1 = (rowAt 9 (nI (s_nd st)) (s_df st) x) := hw_2
  have hw_2 := hw_2.symm
  subst hw_2
  refine k_nrm (y := (rowAt 9 (nI (s_nd st)) (s_df st) x)) rfl ?_
  refine lv_i2l (v := (rowAt 9 (nI (s_nd st)) (s_df st) x).toInt64) hx hb dL_labelDigit_7 rfl ?_
  refine va_last hx hb hK hP hD hS 0 2 rfl rfl (by unfold vp_in; decide) dL_labelDigit_8 (fun H locs hP hD hS => ?_)
  have hP : va_P D vwCl ((out, .inl (KL, 1, .inr (.inl (vp_updL ofn ((0 : Int32).toNatClampNeg) ((rowAt 9 (nI (s_nd st)) (s_df st) x).toInt64))))) :: (WW a K KS st hs sc)) H := hP
  have hD : va_D A ((out, .inl (KL, 1, .inr (.inl (vp_updL ofn ((0 : Int32).toNatClampNeg) ((rowAt 9 (nI (s_nd st)) (s_df st) x).toInt64))))) :: (WW a K KS st hs sc)) := hD
  refine lv_goto (tgt := 15) hx hb dL_labelDigit_9 (by decide) ?_
  refine lv_iconst (v := 0) hx hb dL_labelDigit_15 (by decide) ?_
  have hP9 : va_P D vwCl ((out, .inl (KL, 1, .inr (.inl (vp_updL ofn ((0 : Int32).toNatClampNeg) ((rowAt 9 (nI (s_nd st)) (s_df st) x).toInt64))))) :: (WW a K KS st hs sc)) H := k_subP (wp := [(out, .inl (KL, 1, .inr (.inl (vp_updL ofn ((0 : Int32).toNatClampNeg) ((rowAt 9 (nI (s_nd st)) (s_df st) x).toInt64)))))]) (wp' := [(out, .inl (KL, 1, .inr (.inl (vp_updL ofn ((0 : Int32).toNatClampNeg) ((rowAt 9 (nI (s_nd st)) (s_df st) x).toInt64)))))]) (T := (WW a K KS st hs sc)) hP [0] rfl
  have hD9 : va_D A ((out, .inl (KL, 1, .inr (.inl (vp_updL ofn ((0 : Int32).toNatClampNeg) ((rowAt 9 (nI (s_nd st)) (s_df st) x).toInt64))))) :: (WW a K KS st hs sc)) := k_subD (wp := [(out, .inl (KL, 1, .inr (.inl (vp_updL ofn ((0 : Int32).toNatClampNeg) ((rowAt 9 (nI (s_nd st)) (s_df st) x).toInt64)))))]) (wp' := [(out, .inl (KL, 1, .inr (.inl (vp_updL ofn ((0 : Int32).toNatClampNeg) ((rowAt 9 (nI (s_nd st)) (s_df st) x).toInt64)))))]) (T := (WW a K KS st hs sc)) hD [0] (by decide) rfl
  have hP9 : va_P D vwCl ((out, .inl (KL, 1, .inr (.inl (vp_updL ofn ((0 : Int32).toNatClampNeg) ((rowAt 9 (nI (s_nd st)) (s_df st) x).toInt64))))) :: (WW a K KS st hs sc)) H := hP9
  have hD9 : va_D A ((out, .inl (KL, 1, .inr (.inl (vp_updL ofn ((0 : Int32).toNatClampNeg) ((rowAt 9 (nI (s_nd st)) (s_df st) x).toInt64))))) :: (WW a K KS st hs sc)) := hD9
  have hK9 : va_K D vwCl [] s := hK.sub [] rfl
  exact W.iret (v := 0) hx hb hr (fun t ht9 hW9 => ⟨⟨0, ((vp_updL ofn ((0 : Int32).toNatClampNeg) ((rowAt 9 (nI (s_nd st)) (s_df st) x).toInt64)), (rowAt 9 (nI (s_nd st)) (s_df st) x)), rfl, by (exact ⟨rfl, rfl, pk_uLs⟩), ⟨by rw [ht9]; exact hP9, va_K.moved hW9.alike hK9, hD9⟩⟩, hS.F ht9⟩) hS.2.2 dL_labelDigit_16
set_option maxHeartbeats 4000000 in
set_option maxRecDepth 100000 in
theorem c_L_draw (l : Launch) (D : va_G) (a : Nat → Nat) (K : ClassId) (KS : ClassId) (st : ST) (hs : HT) (sc : SCT) (lf : Int32) (rt : Int32) (b : Int32) (out : Nat) (KL : ClassId) (ofn : Nat → Int64) (hbst : bST st) (hh : okH hs) (hp : k_per lf rt) (hne : ¬ s_ns st = 0) (sz : Nat) : k_Wi (S := ST × SCT × (Nat → Int64) × Int32) l D yL_draw cL_draw 6 (some .int) [(0, 12, 15, 13), (0, 12, 19, 31)] 7 0 0 150 [.ref (a 0), .int lf, .int rt, .int b, .ref out] ((out, .inl (KL, 1, .inr (.inl ofn))) :: (WW a K KS st hs sc)) [(K, .int), (KS, .object "BarcodeWand$State"), (KL, .long)] (fun (r : Int32) (u : ST × SCT × (Nat → Int64) × Int32) => match u with | (st1, sc1, og, rv) => r = 0 ∧ (RC (setT (s_ns st) (cpy (s_drw st lf rt b) (s_tf st) (s_ns st)) st) st1 rv) ∧ og 0 = rv.toInt64) (fun u => match u with | (st1, sc1, og, rv) => ((out, .inl (KL, 1, .inr (.inl og))) :: (WW a K KS st1 (svH hs st) sc1))) (fun u => match u with | (st1, sc1, og, rv) => []) sz := by
  refine va_MetW (cc := cL_draw) (maxL := 6) (ret := (some .int)) (hh := [(0, 12, 15, 13), (0, 12, 19, 31)]) (by decide) rfl ?_
  intro p e s m args below meth c s₁ B hml hv
  obtain ⟨rfl, hsz, hP, hK, hD0, hG⟩ := hv
  have hx := B.exec
  have hb := B.bytes
  have hr := B.returns
  have ht : ∀ v9 ∈ wsA, v9.before ([.ref (a 0), .int lf, .int rt, .int b, .ref out] : List Value).toArray s = true := fun v9 h9 => atoms_spec (ws := Cond.codeWith yL_draw cL_draw 6 (some .int) [(0, 12, 15, 13), (0, 12, 19, 31)] :: wsA) B.pre v9 (List.mem_cons_of_mem _ h9)
  have htab : c.exceptionTable.toList = tableOf [(0, 12, 15, 13), (0, 12, 19, 31)] := vx_table (x := yL_draw) B (atoms_spec (ws := Cond.codeWith yL_draw cL_draw 6 (some .int) [(0, 12, 15, 13), (0, 12, 19, 31)] :: wsA) B.pre _ List.mem_cons_self)
  have hown : s.vm.findClass RL = some m.cls := findClass_of_methodNamed B.named
  have S0 : k_C p s m ([.ref (a 0), .int lf, .int rt, .int b, .ref out] : List Value).toArray c cL_draw 6 RL := ⟨hx, hb, hml, hown, ht⟩
  have hlocks := B.notSynchronized
  subst hsz
  have hD := hD0.self (sz := s.heap.size)
  generalize hAe : va_A ((out, .inl (KL, 1, .inr (.inl ofn))) :: (WW a K KS st hs sc)) s.heap.size = A at hD hG ⊢
  have hA : ∀ q : Nat, s.heap.size ≤ q → A q := fun q h => by rw [← hAe]; exact Or.inr h
  have hS : va_S A s.heap s.heap [] := va_S.rf
  have hl := lv_entry ([.ref (a 0), .int lf, .int rt, .int b, .ref out]) (n := 6) (Nat.le_of_ble_eq_true rfl)
  rw [lg_entry_eq]
  generalize (lg_sl ([.ref (a 0), .int lf, .int rt, .int b, .ref out]) ++ List.replicate (6 - (lg_sl ([.ref (a 0), .int lf, .int rt, .int b, .ref out])).length) Slot.unset).toArray = ls at hl ⊢
  have hl : lv_has ls 6 [(0, .ref (a 0)), (1, .int lf), (2, .int rt), (3, .int b), (4, .ref out)] := hl
  have hP : va_P D vwCl ((out, .inl (KL, 1, .inr (.inl ofn))) :: (WW a K KS st hs sc)) s.heap := hP
  refine lv_aload hx hb dL_draw_0 (lv_at hl 4 rfl) ?_
  refine lv_iconst (v := 0) hx hb dL_draw_2 (by decide) ?_
  refine lv_aload_n hx hb dL_draw_3 rfl (lv_at hl 0 rfl) ?_
  refine lv_iload_n hx hb dL_draw_4 rfl (lv_at hl 1 rfl) ?_
  refine lv_iload_n hx hb dL_draw_5 rfl (lv_at hl 2 rfl) ?_
  refine lv_iload_n hx hb dL_draw_6 rfl (lv_at hl 3 rfl) ?_
  have ct := k_cut_TT (wp := [(out, .inl (KL, 1, .inr (.inl ofn)))]) (T := (WW a K KS st hs sc)) (wc := []) (wr := [(out, .inl (KL, 1, .inr (.inl ofn)))]) (tc := [(K, .int), (KS, .object "BarcodeWand$State")]) hG hS hA hK hP hD [] [0] [0, 1] rfl rfl (by decide) (by decide) (by decide) rfl
  refine k_endi (As := [.ref (a 0), .int lf, .int rt, .int b]) ct (k_runV (As := [.int lf, .int rt, .int b]) (rest := [.int 0, .ref out]) S0 Lv_L_27 rfl (ci := 7) (q0 := 0) rfl (WW_0 a K KS st hs sc) ct (c_B_draw l D a K KS st hs sc lf rt b (by assumption) (by assumption) (by assumption) (by assumption) s.heap.size) hl.1 rfl (Nat.le_of_ble_eq_true rfl) rfl dL_draw_7 ⟨⟨Nat.le_of_ble_eq_true rfl, Nat.le_of_ble_eq_true rfl⟩, Nat.le_of_ble_eq_true rfl, Nat.le_of_ble_eq_true rfl⟩) rfl rfl (fun r_1 u H locs hw_4 hP hD hK hS => ?_)
  obtain ⟨st1v_2, sc1v_3⟩ := u
  have hK : va_K D vwCl [(K, .int), (KS, .object "BarcodeWand$State"), (KL, .long)] s := hK
  have hP : va_P D vwCl ((out, .inl (KL, 1, .inr (.inl ofn))) :: (WW a K KS st1v_2 (svH hs st) sc1v_3)) H := hP
  have hD : va_D A ((out, .inl (KL, 1, .inr (.inl ofn))) :: (WW a K KS st1v_2 (svH hs st) sc1v_3)) := hD
  have hw_4 : RC (setT (s_ns st) (cpy (s_drw st lf rt b) (s_tf st) (s_ns st)) st) st1v_2 r_1 := hw_4
  refine lv_i2l (v := r_1.toInt64) hx hb dL_draw_10 rfl ?_
  refine va_last hx hb hK hP hD hS 0 2 rfl rfl (by unfold vp_in; decide) dL_draw_11 (fun H locs hP hD hS => ?_)
  have hP : va_P D vwCl ((out, .inl (KL, 1, .inr (.inl (vp_updL ofn ((0 : Int32).toNatClampNeg) r_1.toInt64)))) :: (WW a K KS st1v_2 (svH hs st) sc1v_3)) H := hP
  have hD : va_D A ((out, .inl (KL, 1, .inr (.inl (vp_updL ofn ((0 : Int32).toNatClampNeg) r_1.toInt64)))) :: (WW a K KS st1v_2 (svH hs st) sc1v_3)) := hD
  refine lv_goto (tgt := 23) hx hb dL_draw_12 (by decide) ?_
  refine lv_iconst (v := 0) hx hb dL_draw_23 (by decide) ?_
  have hP9 : va_P D vwCl ((out, .inl (KL, 1, .inr (.inl (vp_updL ofn ((0 : Int32).toNatClampNeg) r_1.toInt64)))) :: (WW a K KS st1v_2 (svH hs st) sc1v_3)) H := k_subP (wp := [(out, .inl (KL, 1, .inr (.inl (vp_updL ofn ((0 : Int32).toNatClampNeg) r_1.toInt64))))]) (wp' := [(out, .inl (KL, 1, .inr (.inl (vp_updL ofn ((0 : Int32).toNatClampNeg) r_1.toInt64))))]) (T := (WW a K KS st1v_2 (svH hs st) sc1v_3)) hP [0] rfl
  have hD9 : va_D A ((out, .inl (KL, 1, .inr (.inl (vp_updL ofn ((0 : Int32).toNatClampNeg) r_1.toInt64)))) :: (WW a K KS st1v_2 (svH hs st) sc1v_3)) := k_subD (wp := [(out, .inl (KL, 1, .inr (.inl (vp_updL ofn ((0 : Int32).toNatClampNeg) r_1.toInt64))))]) (wp' := [(out, .inl (KL, 1, .inr (.inl (vp_updL ofn ((0 : Int32).toNatClampNeg) r_1.toInt64))))]) (T := (WW a K KS st1v_2 (svH hs st) sc1v_3)) hD [0] (by decide) rfl
  have hP9 : va_P D vwCl ((out, .inl (KL, 1, .inr (.inl (vp_updL ofn ((0 : Int32).toNatClampNeg) r_1.toInt64)))) :: (WW a K KS st1v_2 (svH hs st) sc1v_3)) H := hP9
  have hD9 : va_D A ((out, .inl (KL, 1, .inr (.inl (vp_updL ofn ((0 : Int32).toNatClampNeg) r_1.toInt64)))) :: (WW a K KS st1v_2 (svH hs st) sc1v_3)) := hD9
  have hK9 : va_K D vwCl [] s := hK.sub [] rfl
  exact W.iret (v := 0) hx hb hr (fun t ht9 hW9 => ⟨⟨0, (st1v_2, sc1v_3, (vp_updL ofn ((0 : Int32).toNatClampNeg) r_1.toInt64), r_1), rfl, by (exact ⟨rfl, hw_4, pk_uLs⟩), ⟨by rw [ht9]; exact hP9, va_K.moved hW9.alike hK9, hD9⟩⟩, hS.F ht9⟩) hS.2.2 dL_draw_24
set_option maxHeartbeats 4000000 in
set_option maxRecDepth 100000 in
theorem c_L_measure (l : Launch) (D : va_G) (a : Nat → Nat) (K : ClassId) (KS : ClassId) (st : ST) (hs : HT) (sc : SCT) (x : Int32) (out : Nat) (KL : ClassId) (ofn : Nat → Int64) (hbst : bST st) (hh : okH hs) (hx1 : ¬ x < 1) (hx2 : x ≤ 9999) (h41 : s_tn st < 41) (sz : Nat) : k_Wi (S := (Nat → Int64) × Int32) l D yL_measure cL_measure 4 (some .int) [(0, 9, 12, 13), (0, 9, 15, 31)] 7 0 0 148 [.ref (a 0), .int x, .ref out] ((out, .inl (KL, 1, .inr (.inl ofn))) :: (WW a K KS st hs sc)) [(K, .int), (KS, .object "BarcodeWand$State"), (KL, .long)] (fun (r : Int32) (u : (Nat → Int64) × Int32) => match u with | (og, rv) => r = 0 ∧ rv = (nI (s_tn st + 1)) ∧ og 0 = rv.toInt64) (fun u => match u with | (og, rv) => ((out, .inl (KL, 1, .inr (.inl og))) :: (WW a K KS (setT (s_tn st + 1) (upd (s_tf st) (s_tn st) x) st) (svH hs st) sc))) (fun u => match u with | (og, rv) => []) sz := by
  refine va_MetW (cc := cL_measure) (maxL := 4) (ret := (some .int)) (hh := [(0, 9, 12, 13), (0, 9, 15, 31)]) (by decide) rfl ?_
  intro p e s m args below meth c s₁ B hml hv
  obtain ⟨rfl, hsz, hP, hK, hD0, hG⟩ := hv
  have hx := B.exec
  have hb := B.bytes
  have hr := B.returns
  have ht : ∀ v9 ∈ wsA, v9.before ([.ref (a 0), .int x, .ref out] : List Value).toArray s = true := fun v9 h9 => atoms_spec (ws := Cond.codeWith yL_measure cL_measure 4 (some .int) [(0, 9, 12, 13), (0, 9, 15, 31)] :: wsA) B.pre v9 (List.mem_cons_of_mem _ h9)
  have htab : c.exceptionTable.toList = tableOf [(0, 9, 12, 13), (0, 9, 15, 31)] := vx_table (x := yL_measure) B (atoms_spec (ws := Cond.codeWith yL_measure cL_measure 4 (some .int) [(0, 9, 12, 13), (0, 9, 15, 31)] :: wsA) B.pre _ List.mem_cons_self)
  have hown : s.vm.findClass RL = some m.cls := findClass_of_methodNamed B.named
  have S0 : k_C p s m ([.ref (a 0), .int x, .ref out] : List Value).toArray c cL_measure 4 RL := ⟨hx, hb, hml, hown, ht⟩
  have hlocks := B.notSynchronized
  subst hsz
  have hD := hD0.self (sz := s.heap.size)
  generalize hAe : va_A ((out, .inl (KL, 1, .inr (.inl ofn))) :: (WW a K KS st hs sc)) s.heap.size = A at hD hG ⊢
  have hA : ∀ q : Nat, s.heap.size ≤ q → A q := fun q h => by rw [← hAe]; exact Or.inr h
  have hS : va_S A s.heap s.heap [] := va_S.rf
  have hl := lv_entry ([.ref (a 0), .int x, .ref out]) (n := 4) (Nat.le_of_ble_eq_true rfl)
  rw [lg_entry_eq]
  generalize (lg_sl ([.ref (a 0), .int x, .ref out]) ++ List.replicate (4 - (lg_sl ([.ref (a 0), .int x, .ref out])).length) Slot.unset).toArray = ls at hl ⊢
  have hl : lv_has ls 4 [(0, .ref (a 0)), (1, .int x), (2, .ref out)] := hl
  have hP : va_P D vwCl ((out, .inl (KL, 1, .inr (.inl ofn))) :: (WW a K KS st hs sc)) s.heap := hP
  refine lv_aload_n hx hb dL_measure_0 rfl (lv_at hl 2 rfl) ?_
  refine lv_iconst (v := 0) hx hb dL_measure_1 (by decide) ?_
  refine lv_aload_n hx hb dL_measure_2 rfl (lv_at hl 0 rfl) ?_
  refine lv_iload_n hx hb dL_measure_3 rfl (lv_at hl 1 rfl) ?_
  have ct := k_cut_TT (wp := [(out, .inl (KL, 1, .inr (.inl ofn)))]) (T := (WW a K KS st hs sc)) (wc := []) (wr := [(out, .inl (KL, 1, .inr (.inl ofn)))]) (tc := [(K, .int), (KS, .object "BarcodeWand$State")]) hG hS hA hK hP hD [] [0] [0, 1] rfl rfl (by decide) (by decide) (by decide) rfl
  refine k_endi (As := [.ref (a 0), .int x]) ct (k_runV (As := [.int x]) (rest := [.int 0, .ref out]) S0 Lv_L_33 rfl (ci := 7) (q0 := 0) rfl (WW_0 a K KS st hs sc) ct (c_B_measure l D a K KS st hs sc x (by assumption) (by assumption) (by assumption) (by assumption) (by assumption) s.heap.size) hl.1 rfl (Nat.le_of_ble_eq_true rfl) rfl dL_measure_4 ⟨⟨Nat.le_of_ble_eq_true rfl, Nat.le_of_ble_eq_true rfl⟩, Nat.le_of_ble_eq_true rfl, Nat.le_of_ble_eq_true rfl⟩) rfl rfl (fun r_1 _ H locs hw_2 hP hD hK hS => ?_)
  have hK : va_K D vwCl [(K, .int), (KS, .object "BarcodeWand$State"), (KL, .long)] s := hK
  have hP : va_P D vwCl ((out, .inl (KL, 1, .inr (.inl ofn))) :: (WW a K KS (setT (s_tn st + 1) (upd (s_tf st) (s_tn st) x) st) (svH hs st) sc)) H := hP
  have hD : va_D A ((out, .inl (KL, 1, .inr (.inl ofn))) :: (WW a K KS (setT (s_tn st + 1) (upd (s_tf st) (s_tn st) x) st) (svH hs st) sc)) := hD
  have hw_2 : r_1 = (nI (s_tn st + 1)) := hw_2
  have hw_2 := hw_2.symm
  subst hw_2
  refine k_nrm (y := (nI (s_tn st + 1))) rfl ?_
  refine lv_i2l (v := (nI (s_tn st + 1)).toInt64) hx hb dL_measure_7 rfl ?_
  refine va_last hx hb hK hP hD hS 0 2 rfl rfl (by unfold vp_in; decide) dL_measure_8 (fun H locs hP hD hS => ?_)
  have hP : va_P D vwCl ((out, .inl (KL, 1, .inr (.inl (vp_updL ofn ((0 : Int32).toNatClampNeg) ((nI (s_tn st + 1)).toInt64))))) :: (WW a K KS (setT (s_tn st + 1) (upd (s_tf st) (s_tn st) x) st) (svH hs st) sc)) H := hP
  have hD : va_D A ((out, .inl (KL, 1, .inr (.inl (vp_updL ofn ((0 : Int32).toNatClampNeg) ((nI (s_tn st + 1)).toInt64))))) :: (WW a K KS (setT (s_tn st + 1) (upd (s_tf st) (s_tn st) x) st) (svH hs st) sc)) := hD
  refine lv_goto (tgt := 18) hx hb dL_measure_9 (by decide) ?_
  refine lv_iconst (v := 0) hx hb dL_measure_18 (by decide) ?_
  have hP9 : va_P D vwCl ((out, .inl (KL, 1, .inr (.inl (vp_updL ofn ((0 : Int32).toNatClampNeg) ((nI (s_tn st + 1)).toInt64))))) :: (WW a K KS (setT (s_tn st + 1) (upd (s_tf st) (s_tn st) x) st) (svH hs st) sc)) H := k_subP (wp := [(out, .inl (KL, 1, .inr (.inl (vp_updL ofn ((0 : Int32).toNatClampNeg) ((nI (s_tn st + 1)).toInt64)))))]) (wp' := [(out, .inl (KL, 1, .inr (.inl (vp_updL ofn ((0 : Int32).toNatClampNeg) ((nI (s_tn st + 1)).toInt64)))))]) (T := (WW a K KS (setT (s_tn st + 1) (upd (s_tf st) (s_tn st) x) st) (svH hs st) sc)) hP [0] rfl
  have hD9 : va_D A ((out, .inl (KL, 1, .inr (.inl (vp_updL ofn ((0 : Int32).toNatClampNeg) ((nI (s_tn st + 1)).toInt64))))) :: (WW a K KS (setT (s_tn st + 1) (upd (s_tf st) (s_tn st) x) st) (svH hs st) sc)) := k_subD (wp := [(out, .inl (KL, 1, .inr (.inl (vp_updL ofn ((0 : Int32).toNatClampNeg) ((nI (s_tn st + 1)).toInt64)))))]) (wp' := [(out, .inl (KL, 1, .inr (.inl (vp_updL ofn ((0 : Int32).toNatClampNeg) ((nI (s_tn st + 1)).toInt64)))))]) (T := (WW a K KS (setT (s_tn st + 1) (upd (s_tf st) (s_tn st) x) st) (svH hs st) sc)) hD [0] (by decide) rfl
  have hP9 : va_P D vwCl ((out, .inl (KL, 1, .inr (.inl (vp_updL ofn ((0 : Int32).toNatClampNeg) ((nI (s_tn st + 1)).toInt64))))) :: (WW a K KS (setT (s_tn st + 1) (upd (s_tf st) (s_tn st) x) st) (svH hs st) sc)) H := hP9
  have hD9 : va_D A ((out, .inl (KL, 1, .inr (.inl (vp_updL ofn ((0 : Int32).toNatClampNeg) ((nI (s_tn st + 1)).toInt64))))) :: (WW a K KS (setT (s_tn st + 1) (upd (s_tf st) (s_tn st) x) st) (svH hs st) sc)) := hD9
  have hK9 : va_K D vwCl [] s := hK.sub [] rfl
  exact W.iret (v := 0) hx hb hr (fun t ht9 hW9 => ⟨⟨0, ((vp_updL ofn ((0 : Int32).toNatClampNeg) ((nI (s_tn st + 1)).toInt64)), (nI (s_tn st + 1))), rfl, by (exact ⟨rfl, rfl, pk_uLs⟩), ⟨by rw [ht9]; exact hP9, va_K.moved hW9.alike hK9, hD9⟩⟩, hS.F ht9⟩) hS.2.2 dL_measure_19
set_option maxHeartbeats 4000000 in
set_option maxRecDepth 100000 in
theorem c_L_time (l : Launch) (D : va_G) (a : Nat → Nat) (K : ClassId) (KS : ClassId) (st : ST) (hs : HT) (sc : SCT) (x : Int32) (out : Nat) (KL : ClassId) (ofn : Nat → Int64) (hxi : inR x (nI (s_tn st)) = 1) (sz : Nat) : k_Wi (S := (Nat → Int64) × Int32) l D yL_time cL_time 4 (some .int) [(0, 9, 12, 18)] 2 0 0 42 [.ref (a 0), .int x, .ref out] ((out, .inl (KL, 1, .inr (.inl ofn))) :: (WW a K KS st hs sc)) [(K, .int), (KS, .object "BarcodeWand$State"), (KL, .long)] (fun (r : Int32) (u : (Nat → Int64) × Int32) => match u with | (og, rv) => r = 0 ∧ rv = (rowAt 41 (nI (s_tn st)) (s_tf st) x) ∧ og 0 = rv.toInt64) (fun u => match u with | (og, rv) => ((out, .inl (KL, 1, .inr (.inl og))) :: (WW a K KS st hs sc))) (fun u => match u with | (og, rv) => []) sz := by
  refine va_MetW (cc := cL_time) (maxL := 4) (ret := (some .int)) (hh := [(0, 9, 12, 18)]) (by decide) rfl ?_
  intro p e s m args below meth c s₁ B hml hv
  obtain ⟨rfl, hsz, hP, hK, hD0, hG⟩ := hv
  have hx := B.exec
  have hb := B.bytes
  have hr := B.returns
  have ht : ∀ v9 ∈ wsA, v9.before ([.ref (a 0), .int x, .ref out] : List Value).toArray s = true := fun v9 h9 => atoms_spec (ws := Cond.codeWith yL_time cL_time 4 (some .int) [(0, 9, 12, 18)] :: wsA) B.pre v9 (List.mem_cons_of_mem _ h9)
  have htab : c.exceptionTable.toList = tableOf [(0, 9, 12, 18)] := vx_table (x := yL_time) B (atoms_spec (ws := Cond.codeWith yL_time cL_time 4 (some .int) [(0, 9, 12, 18)] :: wsA) B.pre _ List.mem_cons_self)
  have hown : s.vm.findClass RL = some m.cls := findClass_of_methodNamed B.named
  have S0 : k_C p s m ([.ref (a 0), .int x, .ref out] : List Value).toArray c cL_time 4 RL := ⟨hx, hb, hml, hown, ht⟩
  have hlocks := B.notSynchronized
  subst hsz
  have hD := hD0.self (sz := s.heap.size)
  generalize hAe : va_A ((out, .inl (KL, 1, .inr (.inl ofn))) :: (WW a K KS st hs sc)) s.heap.size = A at hD hG ⊢
  have hA : ∀ q : Nat, s.heap.size ≤ q → A q := fun q h => by rw [← hAe]; exact Or.inr h
  have hS : va_S A s.heap s.heap [] := va_S.rf
  have hl := lv_entry ([.ref (a 0), .int x, .ref out]) (n := 4) (Nat.le_of_ble_eq_true rfl)
  rw [lg_entry_eq]
  generalize (lg_sl ([.ref (a 0), .int x, .ref out]) ++ List.replicate (4 - (lg_sl ([.ref (a 0), .int x, .ref out])).length) Slot.unset).toArray = ls at hl ⊢
  have hl : lv_has ls 4 [(0, .ref (a 0)), (1, .int x), (2, .ref out)] := hl
  have hP : va_P D vwCl ((out, .inl (KL, 1, .inr (.inl ofn))) :: (WW a K KS st hs sc)) s.heap := hP
  refine lv_aload_n hx hb dL_time_0 rfl (lv_at hl 2 rfl) ?_
  refine lv_iconst (v := 0) hx hb dL_time_1 (by decide) ?_
  refine lv_aload_n hx hb dL_time_2 rfl (lv_at hl 0 rfl) ?_
  refine lv_iload_n hx hb dL_time_3 rfl (lv_at hl 1 rfl) ?_
  have ct := k_cut_TT (wp := [(out, .inl (KL, 1, .inr (.inl ofn)))]) (T := (WW a K KS st hs sc)) (wc := []) (wr := [(out, .inl (KL, 1, .inr (.inl ofn)))]) (tc := [(K, .int), (KS, .object "BarcodeWand$State")]) hG hS hA hK hP hD [] [0] [0, 1] rfl rfl (by decide) (by decide) (by decide) rfl
  refine k_endi (As := [.ref (a 0), .int x]) ct (k_runV (As := [.int x]) (rest := [.int 0, .ref out]) S0 Lv_L_36 rfl (ci := 7) (q0 := 0) rfl (WW_0 a K KS st hs sc) ct (c_B_time l D a K KS st hs sc x (by assumption) s.heap.size) hl.1 rfl (Nat.le_of_ble_eq_true rfl) rfl dL_time_4 ⟨⟨Nat.le_of_ble_eq_true rfl, Nat.le_of_ble_eq_true rfl⟩, Nat.le_of_ble_eq_true rfl, Nat.le_of_ble_eq_true rfl⟩) rfl rfl (fun r_1 _ H locs hw_2 hP hD hK hS => ?_)
  have hK : va_K D vwCl [(K, .int), (KS, .object "BarcodeWand$State"), (KL, .long)] s := hK
  have hP : va_P D vwCl ((out, .inl (KL, 1, .inr (.inl ofn))) :: (WW a K KS st hs sc)) H := hP
  have hD : va_D A ((out, .inl (KL, 1, .inr (.inl ofn))) :: (WW a K KS st hs sc)) := hD
  have hw_2 : r_1 = (rowAt 41 (nI (s_tn st)) (s_tf st) x) := hw_2
  have hw_2 := hw_2.symm
  subst hw_2
  refine k_nrm (y := (rowAt 41 (nI (s_tn st)) (s_tf st) x)) rfl ?_
  refine lv_i2l (v := (rowAt 41 (nI (s_tn st)) (s_tf st) x).toInt64) hx hb dL_time_7 rfl ?_
  refine va_last hx hb hK hP hD hS 0 2 rfl rfl (by unfold vp_in; decide) dL_time_8 (fun H locs hP hD hS => ?_)
  have hP : va_P D vwCl ((out, .inl (KL, 1, .inr (.inl (vp_updL ofn ((0 : Int32).toNatClampNeg) ((rowAt 41 (nI (s_tn st)) (s_tf st) x).toInt64))))) :: (WW a K KS st hs sc)) H := hP
  have hD : va_D A ((out, .inl (KL, 1, .inr (.inl (vp_updL ofn ((0 : Int32).toNatClampNeg) ((rowAt 41 (nI (s_tn st)) (s_tf st) x).toInt64))))) :: (WW a K KS st hs sc)) := hD
  refine lv_goto (tgt := 15) hx hb dL_time_9 (by decide) ?_
  refine lv_iconst (v := 0) hx hb dL_time_15 (by decide) ?_
  have hP9 : va_P D vwCl ((out, .inl (KL, 1, .inr (.inl (vp_updL ofn ((0 : Int32).toNatClampNeg) ((rowAt 41 (nI (s_tn st)) (s_tf st) x).toInt64))))) :: (WW a K KS st hs sc)) H := k_subP (wp := [(out, .inl (KL, 1, .inr (.inl (vp_updL ofn ((0 : Int32).toNatClampNeg) ((rowAt 41 (nI (s_tn st)) (s_tf st) x).toInt64)))))]) (wp' := [(out, .inl (KL, 1, .inr (.inl (vp_updL ofn ((0 : Int32).toNatClampNeg) ((rowAt 41 (nI (s_tn st)) (s_tf st) x).toInt64)))))]) (T := (WW a K KS st hs sc)) hP [0] rfl
  have hD9 : va_D A ((out, .inl (KL, 1, .inr (.inl (vp_updL ofn ((0 : Int32).toNatClampNeg) ((rowAt 41 (nI (s_tn st)) (s_tf st) x).toInt64))))) :: (WW a K KS st hs sc)) := k_subD (wp := [(out, .inl (KL, 1, .inr (.inl (vp_updL ofn ((0 : Int32).toNatClampNeg) ((rowAt 41 (nI (s_tn st)) (s_tf st) x).toInt64)))))]) (wp' := [(out, .inl (KL, 1, .inr (.inl (vp_updL ofn ((0 : Int32).toNatClampNeg) ((rowAt 41 (nI (s_tn st)) (s_tf st) x).toInt64)))))]) (T := (WW a K KS st hs sc)) hD [0] (by decide) rfl
  have hP9 : va_P D vwCl ((out, .inl (KL, 1, .inr (.inl (vp_updL ofn ((0 : Int32).toNatClampNeg) ((rowAt 41 (nI (s_tn st)) (s_tf st) x).toInt64))))) :: (WW a K KS st hs sc)) H := hP9
  have hD9 : va_D A ((out, .inl (KL, 1, .inr (.inl (vp_updL ofn ((0 : Int32).toNatClampNeg) ((rowAt 41 (nI (s_tn st)) (s_tf st) x).toInt64))))) :: (WW a K KS st hs sc)) := hD9
  have hK9 : va_K D vwCl [] s := hK.sub [] rfl
  exact W.iret (v := 0) hx hb hr (fun t ht9 hW9 => ⟨⟨0, ((vp_updL ofn ((0 : Int32).toNatClampNeg) ((rowAt 41 (nI (s_tn st)) (s_tf st) x).toInt64)), (rowAt 41 (nI (s_tn st)) (s_tf st) x)), rfl, by (exact ⟨rfl, rfl, pk_uLs⟩), ⟨by rw [ht9]; exact hP9, va_K.moved hW9.alike hK9, hD9⟩⟩, hS.F ht9⟩) hS.2.2 dL_time_16
set_option maxHeartbeats 4000000 in
set_option maxRecDepth 100000 in
theorem c_L_setTol (l : Launch) (D : va_G) (a : Nat → Nat) (K : ClassId) (KS : ClassId) (st : ST) (hs : HT) (sc : SCT) (x : Int32) (out : Nat) (KL : ClassId) (ofn : Nat → Int64) (hbst : bST st) (hh : okH hs) (hx1 : ¬ x < 1) (hx2 : x ≤ 8) (sz : Nat) : k_Wi (S := (Nat → Int64) × Int32) l D yL_setTolerance cL_setTolerance 4 (some .int) [(0, 9, 12, 13)] 7 0 0 149 [.ref (a 0), .int x, .ref out] ((out, .inl (KL, 1, .inr (.inl ofn))) :: (WW a K KS st hs sc)) [(K, .int), (KS, .object "BarcodeWand$State"), (KL, .long)] (fun (r : Int32) (u : (Nat → Int64) × Int32) => match u with | (og, rv) => r = 0 ∧ rv = (s_tol st) ∧ og 0 = rv.toInt64) (fun u => match u with | (og, rv) => ((out, .inl (KL, 1, .inr (.inl og))) :: (WW a K KS (setL x st) (svH hs st) sc))) (fun u => match u with | (og, rv) => []) sz := by
  refine va_MetW (cc := cL_setTolerance) (maxL := 4) (ret := (some .int)) (hh := [(0, 9, 12, 13)]) (by decide) rfl ?_
  intro p e s m args below meth c s₁ B hml hv
  obtain ⟨rfl, hsz, hP, hK, hD0, hG⟩ := hv
  have hx := B.exec
  have hb := B.bytes
  have hr := B.returns
  have ht : ∀ v9 ∈ wsA, v9.before ([.ref (a 0), .int x, .ref out] : List Value).toArray s = true := fun v9 h9 => atoms_spec (ws := Cond.codeWith yL_setTolerance cL_setTolerance 4 (some .int) [(0, 9, 12, 13)] :: wsA) B.pre v9 (List.mem_cons_of_mem _ h9)
  have htab : c.exceptionTable.toList = tableOf [(0, 9, 12, 13)] := vx_table (x := yL_setTolerance) B (atoms_spec (ws := Cond.codeWith yL_setTolerance cL_setTolerance 4 (some .int) [(0, 9, 12, 13)] :: wsA) B.pre _ List.mem_cons_self)
  have hown : s.vm.findClass RL = some m.cls := findClass_of_methodNamed B.named
  have S0 : k_C p s m ([.ref (a 0), .int x, .ref out] : List Value).toArray c cL_setTolerance 4 RL := ⟨hx, hb, hml, hown, ht⟩
  have hlocks := B.notSynchronized
  subst hsz
  have hD := hD0.self (sz := s.heap.size)
  generalize hAe : va_A ((out, .inl (KL, 1, .inr (.inl ofn))) :: (WW a K KS st hs sc)) s.heap.size = A at hD hG ⊢
  have hA : ∀ q : Nat, s.heap.size ≤ q → A q := fun q h => by rw [← hAe]; exact Or.inr h
  have hS : va_S A s.heap s.heap [] := va_S.rf
  have hl := lv_entry ([.ref (a 0), .int x, .ref out]) (n := 4) (Nat.le_of_ble_eq_true rfl)
  rw [lg_entry_eq]
  generalize (lg_sl ([.ref (a 0), .int x, .ref out]) ++ List.replicate (4 - (lg_sl ([.ref (a 0), .int x, .ref out])).length) Slot.unset).toArray = ls at hl ⊢
  have hl : lv_has ls 4 [(0, .ref (a 0)), (1, .int x), (2, .ref out)] := hl
  have hP : va_P D vwCl ((out, .inl (KL, 1, .inr (.inl ofn))) :: (WW a K KS st hs sc)) s.heap := hP
  refine lv_aload_n hx hb dL_setTolerance_0 rfl (lv_at hl 2 rfl) ?_
  refine lv_iconst (v := 0) hx hb dL_setTolerance_1 (by decide) ?_
  refine lv_aload_n hx hb dL_setTolerance_2 rfl (lv_at hl 0 rfl) ?_
  refine lv_iload_n hx hb dL_setTolerance_3 rfl (lv_at hl 1 rfl) ?_
  have ct := k_cut_TT (wp := [(out, .inl (KL, 1, .inr (.inl ofn)))]) (T := (WW a K KS st hs sc)) (wc := []) (wr := [(out, .inl (KL, 1, .inr (.inl ofn)))]) (tc := [(K, .int), (KS, .object "BarcodeWand$State")]) hG hS hA hK hP hD [] [0] [0, 1] rfl rfl (by decide) (by decide) (by decide) rfl
  refine k_endi (As := [.ref (a 0), .int x]) ct (k_runV (As := [.int x]) (rest := [.int 0, .ref out]) S0 Lv_L_39 rfl (ci := 7) (q0 := 0) rfl (WW_0 a K KS st hs sc) ct (c_B_setTol l D a K KS st hs sc x (by assumption) (by assumption) (by assumption) (by assumption) s.heap.size) hl.1 rfl (Nat.le_of_ble_eq_true rfl) rfl dL_setTolerance_4 ⟨⟨Nat.le_of_ble_eq_true rfl, Nat.le_of_ble_eq_true rfl⟩, Nat.le_of_ble_eq_true rfl, Nat.le_of_ble_eq_true rfl⟩) rfl rfl (fun r_1 _ H locs hw_2 hP hD hK hS => ?_)
  have hK : va_K D vwCl [(K, .int), (KS, .object "BarcodeWand$State"), (KL, .long)] s := hK
  have hP : va_P D vwCl ((out, .inl (KL, 1, .inr (.inl ofn))) :: (WW a K KS (setL x st) (svH hs st) sc)) H := hP
  have hD : va_D A ((out, .inl (KL, 1, .inr (.inl ofn))) :: (WW a K KS (setL x st) (svH hs st) sc)) := hD
  have hw_2 : r_1 = (s_tol st) := hw_2
  have hw_2 := hw_2.symm
  subst hw_2
  refine k_nrm (y := (s_tol st)) rfl ?_
  refine lv_i2l (v := (s_tol st).toInt64) hx hb dL_setTolerance_7 rfl ?_
  refine va_last hx hb hK hP hD hS 0 2 rfl rfl (by unfold vp_in; decide) dL_setTolerance_8 (fun H locs hP hD hS => ?_)
  have hP : va_P D vwCl ((out, .inl (KL, 1, .inr (.inl (vp_updL ofn ((0 : Int32).toNatClampNeg) ((s_tol st).toInt64))))) :: (WW a K KS (setL x st) (svH hs st) sc)) H := hP
  have hD : va_D A ((out, .inl (KL, 1, .inr (.inl (vp_updL ofn ((0 : Int32).toNatClampNeg) ((s_tol st).toInt64))))) :: (WW a K KS (setL x st) (svH hs st) sc)) := hD
  refine lv_goto (tgt := 15) hx hb dL_setTolerance_9 (by decide) ?_
  refine lv_iconst (v := 0) hx hb dL_setTolerance_15 (by decide) ?_
  have hP9 : va_P D vwCl ((out, .inl (KL, 1, .inr (.inl (vp_updL ofn ((0 : Int32).toNatClampNeg) ((s_tol st).toInt64))))) :: (WW a K KS (setL x st) (svH hs st) sc)) H := k_subP (wp := [(out, .inl (KL, 1, .inr (.inl (vp_updL ofn ((0 : Int32).toNatClampNeg) ((s_tol st).toInt64)))))]) (wp' := [(out, .inl (KL, 1, .inr (.inl (vp_updL ofn ((0 : Int32).toNatClampNeg) ((s_tol st).toInt64)))))]) (T := (WW a K KS (setL x st) (svH hs st) sc)) hP [0] rfl
  have hD9 : va_D A ((out, .inl (KL, 1, .inr (.inl (vp_updL ofn ((0 : Int32).toNatClampNeg) ((s_tol st).toInt64))))) :: (WW a K KS (setL x st) (svH hs st) sc)) := k_subD (wp := [(out, .inl (KL, 1, .inr (.inl (vp_updL ofn ((0 : Int32).toNatClampNeg) ((s_tol st).toInt64)))))]) (wp' := [(out, .inl (KL, 1, .inr (.inl (vp_updL ofn ((0 : Int32).toNatClampNeg) ((s_tol st).toInt64)))))]) (T := (WW a K KS (setL x st) (svH hs st) sc)) hD [0] (by decide) rfl
  have hP9 : va_P D vwCl ((out, .inl (KL, 1, .inr (.inl (vp_updL ofn ((0 : Int32).toNatClampNeg) ((s_tol st).toInt64))))) :: (WW a K KS (setL x st) (svH hs st) sc)) H := hP9
  have hD9 : va_D A ((out, .inl (KL, 1, .inr (.inl (vp_updL ofn ((0 : Int32).toNatClampNeg) ((s_tol st).toInt64))))) :: (WW a K KS (setL x st) (svH hs st) sc)) := hD9
  have hK9 : va_K D vwCl [] s := hK.sub [] rfl
  exact W.iret (v := 0) hx hb hr (fun t ht9 hW9 => ⟨⟨0, ((vp_updL ofn ((0 : Int32).toNatClampNeg) ((s_tol st).toInt64)), (s_tol st)), rfl, by (exact ⟨rfl, rfl, pk_uLs⟩), ⟨by rw [ht9]; exact hP9, va_K.moved hW9.alike hK9, hD9⟩⟩, hS.F ht9⟩) hS.2.2 dL_setTolerance_16
set_option maxHeartbeats 4000000 in
set_option maxRecDepth 100000 in
theorem c_L_digit (l : Launch) (D : va_G) (a : Nat → Nat) (K : ClassId) (KS : ClassId) (st : ST) (hs : HT) (sc : SCT) (x : Nat) (out : Nat) (KL : ClassId) (ofn : Nat → Int64) (hbst : bST st) (hx9 : x < 9) (sz : Nat) : k_Wi (S := SCT × (Nat → Int64) × Int32) l D yL_digit cL_digit 4 (some .int) [(0, 9, 12, 18)] 5 0 0 123 [.ref (a 0), .int (nI x), .ref out] ((out, .inl (KL, 1, .inr (.inl ofn))) :: (WW a K KS st hs sc)) [(K, .int), (KS, .object "BarcodeWand$State"), (KL, .long)] (fun (r : Int32) (u : SCT × (Nat → Int64) × Int32) => match u with | (sc1, og, rv) => r = 0 ∧ rv = digR (s_tn st) (s_tf st) (s_tol st) x ∧ og 0 = rv.toInt64) (fun u => match u with | (sc1, og, rv) => ((out, .inl (KL, 1, .inr (.inl og))) :: (WW a K KS st hs sc1))) (fun u => match u with | (sc1, og, rv) => []) sz := by
  refine va_MetW (cc := cL_digit) (maxL := 4) (ret := (some .int)) (hh := [(0, 9, 12, 18)]) (by decide) rfl ?_
  intro p e s m args below meth c s₁ B hml hv
  obtain ⟨rfl, hsz, hP, hK, hD0, hG⟩ := hv
  have hx := B.exec
  have hb := B.bytes
  have hr := B.returns
  have ht : ∀ v9 ∈ wsA, v9.before ([.ref (a 0), .int (nI x), .ref out] : List Value).toArray s = true := fun v9 h9 => atoms_spec (ws := Cond.codeWith yL_digit cL_digit 4 (some .int) [(0, 9, 12, 18)] :: wsA) B.pre v9 (List.mem_cons_of_mem _ h9)
  have htab : c.exceptionTable.toList = tableOf [(0, 9, 12, 18)] := vx_table (x := yL_digit) B (atoms_spec (ws := Cond.codeWith yL_digit cL_digit 4 (some .int) [(0, 9, 12, 18)] :: wsA) B.pre _ List.mem_cons_self)
  have hown : s.vm.findClass RL = some m.cls := findClass_of_methodNamed B.named
  have S0 : k_C p s m ([.ref (a 0), .int (nI x), .ref out] : List Value).toArray c cL_digit 4 RL := ⟨hx, hb, hml, hown, ht⟩
  have hlocks := B.notSynchronized
  subst hsz
  have hD := hD0.self (sz := s.heap.size)
  generalize hAe : va_A ((out, .inl (KL, 1, .inr (.inl ofn))) :: (WW a K KS st hs sc)) s.heap.size = A at hD hG ⊢
  have hA : ∀ q : Nat, s.heap.size ≤ q → A q := fun q h => by rw [← hAe]; exact Or.inr h
  have hS : va_S A s.heap s.heap [] := va_S.rf
  have hl := lv_entry ([.ref (a 0), .int (nI x), .ref out]) (n := 4) (Nat.le_of_ble_eq_true rfl)
  rw [lg_entry_eq]
  generalize (lg_sl ([.ref (a 0), .int (nI x), .ref out]) ++ List.replicate (4 - (lg_sl ([.ref (a 0), .int (nI x), .ref out])).length) Slot.unset).toArray = ls at hl ⊢
  have hl : lv_has ls 4 [(0, .ref (a 0)), (1, .int (nI x)), (2, .ref out)] := hl
  have hP : va_P D vwCl ((out, .inl (KL, 1, .inr (.inl ofn))) :: (WW a K KS st hs sc)) s.heap := hP
  refine lv_aload_n hx hb dL_digit_0 rfl (lv_at hl 2 rfl) ?_
  refine lv_iconst (v := 0) hx hb dL_digit_1 (by decide) ?_
  refine lv_aload_n hx hb dL_digit_2 rfl (lv_at hl 0 rfl) ?_
  refine lv_iload_n hx hb dL_digit_3 rfl (lv_at hl 1 rfl) ?_
  have ct := k_cut_TT (wp := [(out, .inl (KL, 1, .inr (.inl ofn)))]) (T := (WW a K KS st hs sc)) (wc := []) (wr := [(out, .inl (KL, 1, .inr (.inl ofn)))]) (tc := [(K, .int), (KS, .object "BarcodeWand$State")]) hG hS hA hK hP hD [] [0] [0, 1] rfl rfl (by decide) (by decide) (by decide) rfl
  refine k_endi (As := [.ref (a 0), .int (nI x)]) ct (k_runV (As := [.int (nI x)]) (rest := [.int 0, .ref out]) S0 Lv_L_42 rfl (ci := 7) (q0 := 0) rfl (WW_0 a K KS st hs sc) ct (c_B_digit l D a K KS st hs sc x (by assumption) (by first | assumption | omega) s.heap.size) hl.1 rfl (Nat.le_of_ble_eq_true rfl) rfl dL_digit_4 ⟨⟨Nat.le_of_ble_eq_true rfl, Nat.le_of_ble_eq_true rfl⟩, Nat.le_of_ble_eq_true rfl, Nat.le_of_ble_eq_true rfl⟩) rfl rfl (fun r_1 sc1v_2 H locs hw_3 hP hD hK hS => ?_)
  have hK : va_K D vwCl [(K, .int), (KS, .object "BarcodeWand$State"), (KL, .long)] s := hK
  have hP : va_P D vwCl ((out, .inl (KL, 1, .inr (.inl ofn))) :: (WW a K KS st hs sc1v_2)) H := hP
  have hD : va_D A ((out, .inl (KL, 1, .inr (.inl ofn))) :: (WW a K KS st hs sc1v_2)) := hD
  have hw_3 : r_1 = digR (s_tn st) (s_tf st) (s_tol st) x := hw_3
  refine lv_i2l (v := r_1.toInt64) hx hb dL_digit_7 rfl ?_
  refine va_last hx hb hK hP hD hS 0 2 rfl rfl (by unfold vp_in; decide) dL_digit_8 (fun H locs hP hD hS => ?_)
  have hP : va_P D vwCl ((out, .inl (KL, 1, .inr (.inl (vp_updL ofn ((0 : Int32).toNatClampNeg) r_1.toInt64)))) :: (WW a K KS st hs sc1v_2)) H := hP
  have hD : va_D A ((out, .inl (KL, 1, .inr (.inl (vp_updL ofn ((0 : Int32).toNatClampNeg) r_1.toInt64)))) :: (WW a K KS st hs sc1v_2)) := hD
  refine lv_goto (tgt := 15) hx hb dL_digit_9 (by decide) ?_
  refine lv_iconst (v := 0) hx hb dL_digit_15 (by decide) ?_
  have hP9 : va_P D vwCl ((out, .inl (KL, 1, .inr (.inl (vp_updL ofn ((0 : Int32).toNatClampNeg) r_1.toInt64)))) :: (WW a K KS st hs sc1v_2)) H := k_subP (wp := [(out, .inl (KL, 1, .inr (.inl (vp_updL ofn ((0 : Int32).toNatClampNeg) r_1.toInt64))))]) (wp' := [(out, .inl (KL, 1, .inr (.inl (vp_updL ofn ((0 : Int32).toNatClampNeg) r_1.toInt64))))]) (T := (WW a K KS st hs sc1v_2)) hP [0] rfl
  have hD9 : va_D A ((out, .inl (KL, 1, .inr (.inl (vp_updL ofn ((0 : Int32).toNatClampNeg) r_1.toInt64)))) :: (WW a K KS st hs sc1v_2)) := k_subD (wp := [(out, .inl (KL, 1, .inr (.inl (vp_updL ofn ((0 : Int32).toNatClampNeg) r_1.toInt64))))]) (wp' := [(out, .inl (KL, 1, .inr (.inl (vp_updL ofn ((0 : Int32).toNatClampNeg) r_1.toInt64))))]) (T := (WW a K KS st hs sc1v_2)) hD [0] (by decide) rfl
  have hP9 : va_P D vwCl ((out, .inl (KL, 1, .inr (.inl (vp_updL ofn ((0 : Int32).toNatClampNeg) r_1.toInt64)))) :: (WW a K KS st hs sc1v_2)) H := hP9
  have hD9 : va_D A ((out, .inl (KL, 1, .inr (.inl (vp_updL ofn ((0 : Int32).toNatClampNeg) r_1.toInt64)))) :: (WW a K KS st hs sc1v_2)) := hD9
  have hK9 : va_K D vwCl [] s := hK.sub [] rfl
  exact W.iret (v := 0) hx hb hr (fun t ht9 hW9 => ⟨⟨0, (sc1v_2, (vp_updL ofn ((0 : Int32).toNatClampNeg) r_1.toInt64), r_1), rfl, by (exact ⟨rfl, hw_3, pk_uLs⟩), ⟨by rw [ht9]; exact hP9, va_K.moved hW9.alike hK9, hD9⟩⟩, hS.F ht9⟩) hS.2.2 dL_digit_16
set_option maxHeartbeats 4000000 in
set_option maxRecDepth 100000 in
theorem c_L_nearest (l : Launch) (D : va_G) (a : Nat → Nat) (K : ClassId) (KS : ClassId) (st : ST) (hs : HT) (sc : SCT) (x : Nat) (out : Nat) (KL : ClassId) (ofn : Nat → Int64) (hbst : bST st) (hx9 : x + 4 ≤ s_tn st) (sz : Nat) : k_Wi (S := SCT × (Nat → Int64) × Int32) l D yL_nearest cL_nearest 4 (some .int) [(0, 9, 12, 18)] 3 0 0 72 [.ref (a 0), .int (nI x), .ref out] ((out, .inl (KL, 1, .inr (.inl ofn))) :: (WW a K KS st hs sc)) [(K, .int), (KS, .object "BarcodeWand$State"), (KL, .long)] (fun (r : Int32) (u : SCT × (Nat → Int64) × Int32) => match u with | (sc1, og, rv) => r = 0 ∧ rv = (nrF (dsF (rowAt 41 (nI (s_tn st)) (s_tf st) (nI x)) (rowAt 41 (nI (s_tn st)) (s_tf st) (nI x + 1)) (rowAt 41 (nI (s_tn st)) (s_tf st) (nI x + 2)) (rowAt 41 (nI (s_tn st)) (s_tf st) (nI x + 3)) (rowAt 41 (nI (s_tn st)) (s_tf st) (nI x) + rowAt 41 (nI (s_tn st)) (s_tf st) (nI x + 1) + rowAt 41 (nI (s_tn st)) (s_tf st) (nI x + 2) + rowAt 41 (nI (s_tn st)) (s_tf st) (nI x + 3))) 0 0 10).1 ∧ og 0 = rv.toInt64) (fun u => match u with | (sc1, og, rv) => ((out, .inl (KL, 1, .inr (.inl og))) :: (WW a K KS st hs sc1))) (fun u => match u with | (sc1, og, rv) => []) sz := by
  refine va_MetW (cc := cL_nearest) (maxL := 4) (ret := (some .int)) (hh := [(0, 9, 12, 18)]) (by decide) rfl ?_
  intro p e s m args below meth c s₁ B hml hv
  obtain ⟨rfl, hsz, hP, hK, hD0, hG⟩ := hv
  have hx := B.exec
  have hb := B.bytes
  have hr := B.returns
  have ht : ∀ v9 ∈ wsA, v9.before ([.ref (a 0), .int (nI x), .ref out] : List Value).toArray s = true := fun v9 h9 => atoms_spec (ws := Cond.codeWith yL_nearest cL_nearest 4 (some .int) [(0, 9, 12, 18)] :: wsA) B.pre v9 (List.mem_cons_of_mem _ h9)
  have htab : c.exceptionTable.toList = tableOf [(0, 9, 12, 18)] := vx_table (x := yL_nearest) B (atoms_spec (ws := Cond.codeWith yL_nearest cL_nearest 4 (some .int) [(0, 9, 12, 18)] :: wsA) B.pre _ List.mem_cons_self)
  have hown : s.vm.findClass RL = some m.cls := findClass_of_methodNamed B.named
  have S0 : k_C p s m ([.ref (a 0), .int (nI x), .ref out] : List Value).toArray c cL_nearest 4 RL := ⟨hx, hb, hml, hown, ht⟩
  have hlocks := B.notSynchronized
  subst hsz
  have hD := hD0.self (sz := s.heap.size)
  generalize hAe : va_A ((out, .inl (KL, 1, .inr (.inl ofn))) :: (WW a K KS st hs sc)) s.heap.size = A at hD hG ⊢
  have hA : ∀ q : Nat, s.heap.size ≤ q → A q := fun q h => by rw [← hAe]; exact Or.inr h
  have hS : va_S A s.heap s.heap [] := va_S.rf
  have hl := lv_entry ([.ref (a 0), .int (nI x), .ref out]) (n := 4) (Nat.le_of_ble_eq_true rfl)
  rw [lg_entry_eq]
  generalize (lg_sl ([.ref (a 0), .int (nI x), .ref out]) ++ List.replicate (4 - (lg_sl ([.ref (a 0), .int (nI x), .ref out])).length) Slot.unset).toArray = ls at hl ⊢
  have hl : lv_has ls 4 [(0, .ref (a 0)), (1, .int (nI x)), (2, .ref out)] := hl
  have hP : va_P D vwCl ((out, .inl (KL, 1, .inr (.inl ofn))) :: (WW a K KS st hs sc)) s.heap := hP
  refine lv_aload_n hx hb dL_nearest_0 rfl (lv_at hl 2 rfl) ?_
  refine lv_iconst (v := 0) hx hb dL_nearest_1 (by decide) ?_
  refine lv_aload_n hx hb dL_nearest_2 rfl (lv_at hl 0 rfl) ?_
  refine lv_iload_n hx hb dL_nearest_3 rfl (lv_at hl 1 rfl) ?_
  have ct := k_cut_TT (wp := [(out, .inl (KL, 1, .inr (.inl ofn)))]) (T := (WW a K KS st hs sc)) (wc := []) (wr := [(out, .inl (KL, 1, .inr (.inl ofn)))]) (tc := [(K, .int), (KS, .object "BarcodeWand$State")]) hG hS hA hK hP hD [] [0] [0, 1] rfl rfl (by decide) (by decide) (by decide) rfl
  refine k_endi (As := [.ref (a 0), .int (nI x)]) ct (k_runV (As := [.int (nI x)]) (rest := [.int 0, .ref out]) S0 Lv_L_45 rfl (ci := 7) (q0 := 0) rfl (WW_0 a K KS st hs sc) ct (c_B_nearest l D a K KS st hs sc x (by assumption) (by assumption) s.heap.size) hl.1 rfl (Nat.le_of_ble_eq_true rfl) rfl dL_nearest_4 ⟨⟨Nat.le_of_ble_eq_true rfl, Nat.le_of_ble_eq_true rfl⟩, Nat.le_of_ble_eq_true rfl, Nat.le_of_ble_eq_true rfl⟩) rfl rfl (fun r_1 sc1v_2 H locs hw_3 hP hD hK hS => ?_)
  have hK : va_K D vwCl [(K, .int), (KS, .object "BarcodeWand$State"), (KL, .long)] s := hK
  have hP : va_P D vwCl ((out, .inl (KL, 1, .inr (.inl ofn))) :: (WW a K KS st hs sc1v_2)) H := hP
  have hD : va_D A ((out, .inl (KL, 1, .inr (.inl ofn))) :: (WW a K KS st hs sc1v_2)) := hD
  have hw_3 : r_1 = (nrF (dsF (rowAt 41 (nI (s_tn st)) (s_tf st) (nI x)) (rowAt 41 (nI (s_tn st)) (s_tf st) (nI x + 1)) (rowAt 41 (nI (s_tn st)) (s_tf st) (nI x + 2)) (rowAt 41 (nI (s_tn st)) (s_tf st) (nI x + 3)) (rowAt 41 (nI (s_tn st)) (s_tf st) (nI x) + rowAt 41 (nI (s_tn st)) (s_tf st) (nI x + 1) + rowAt 41 (nI (s_tn st)) (s_tf st) (nI x + 2) + rowAt 41 (nI (s_tn st)) (s_tf st) (nI x + 3))) 0 0 10).1 := hw_3
  have hw_3 := hw_3.symm
  subst hw_3
  refine k_nrm (y := (nrF (dsF (rowAt 41 (nI (s_tn st)) (s_tf st) (nI x)) (rowAt 41 (nI (s_tn st)) (s_tf st) (nI x + 1)) (rowAt 41 (nI (s_tn st)) (s_tf st) (nI x + 2)) (rowAt 41 (nI (s_tn st)) (s_tf st) (nI x + 3)) (rowAt 41 (nI (s_tn st)) (s_tf st) (nI x) + rowAt 41 (nI (s_tn st)) (s_tf st) (nI x + 1) + rowAt 41 (nI (s_tn st)) (s_tf st) (nI x + 2) + rowAt 41 (nI (s_tn st)) (s_tf st) (nI x + 3))) 0 0 10).1) rfl ?_
  refine lv_i2l (v := ((nrF (dsF (rowAt 41 (nI (s_tn st)) (s_tf st) (nI x)) (rowAt 41 (nI (s_tn st)) (s_tf st) (nI x + 1)) (rowAt 41 (nI (s_tn st)) (s_tf st) (nI x + 2)) (rowAt 41 (nI (s_tn st)) (s_tf st) (nI x + 3)) (rowAt 41 (nI (s_tn st)) (s_tf st) (nI x) + rowAt 41 (nI (s_tn st)) (s_tf st) (nI x + 1) + rowAt 41 (nI (s_tn st)) (s_tf st) (nI x + 2) + rowAt 41 (nI (s_tn st)) (s_tf st) (nI x + 3))) 0 0 10).1).toInt64) hx hb dL_nearest_7 rfl ?_
  refine va_last hx hb hK hP hD hS 0 2 rfl rfl (by unfold vp_in; decide) dL_nearest_8 (fun H locs hP hD hS => ?_)
  have hP : va_P D vwCl ((out, .inl (KL, 1, .inr (.inl (vp_updL ofn ((0 : Int32).toNatClampNeg) (((nrF (dsF (rowAt 41 (nI (s_tn st)) (s_tf st) (nI x)) (rowAt 41 (nI (s_tn st)) (s_tf st) (nI x + 1)) (rowAt 41 (nI (s_tn st)) (s_tf st) (nI x + 2)) (rowAt 41 (nI (s_tn st)) (s_tf st) (nI x + 3)) (rowAt 41 (nI (s_tn st)) (s_tf st) (nI x) + rowAt 41 (nI (s_tn st)) (s_tf st) (nI x + 1) + rowAt 41 (nI (s_tn st)) (s_tf st) (nI x + 2) + rowAt 41 (nI (s_tn st)) (s_tf st) (nI x + 3))) 0 0 10).1).toInt64))))) :: (WW a K KS st hs sc1v_2)) H := hP
  have hD : va_D A ((out, .inl (KL, 1, .inr (.inl (vp_updL ofn ((0 : Int32).toNatClampNeg) (((nrF (dsF (rowAt 41 (nI (s_tn st)) (s_tf st) (nI x)) (rowAt 41 (nI (s_tn st)) (s_tf st) (nI x + 1)) (rowAt 41 (nI (s_tn st)) (s_tf st) (nI x + 2)) (rowAt 41 (nI (s_tn st)) (s_tf st) (nI x + 3)) (rowAt 41 (nI (s_tn st)) (s_tf st) (nI x) + rowAt 41 (nI (s_tn st)) (s_tf st) (nI x + 1) + rowAt 41 (nI (s_tn st)) (s_tf st) (nI x + 2) + rowAt 41 (nI (s_tn st)) (s_tf st) (nI x + 3))) 0 0 10).1).toInt64))))) :: (WW a K KS st hs sc1v_2)) := hD
  refine lv_goto (tgt := 15) hx hb dL_nearest_9 (by decide) ?_
  refine lv_iconst (v := 0) hx hb dL_nearest_15 (by decide) ?_
  have hP9 : va_P D vwCl ((out, .inl (KL, 1, .inr (.inl (vp_updL ofn ((0 : Int32).toNatClampNeg) (((nrF (dsF (rowAt 41 (nI (s_tn st)) (s_tf st) (nI x)) (rowAt 41 (nI (s_tn st)) (s_tf st) (nI x + 1)) (rowAt 41 (nI (s_tn st)) (s_tf st) (nI x + 2)) (rowAt 41 (nI (s_tn st)) (s_tf st) (nI x + 3)) (rowAt 41 (nI (s_tn st)) (s_tf st) (nI x) + rowAt 41 (nI (s_tn st)) (s_tf st) (nI x + 1) + rowAt 41 (nI (s_tn st)) (s_tf st) (nI x + 2) + rowAt 41 (nI (s_tn st)) (s_tf st) (nI x + 3))) 0 0 10).1).toInt64))))) :: (WW a K KS st hs sc1v_2)) H := k_subP (wp := [(out, .inl (KL, 1, .inr (.inl (vp_updL ofn ((0 : Int32).toNatClampNeg) (((nrF (dsF (rowAt 41 (nI (s_tn st)) (s_tf st) (nI x)) (rowAt 41 (nI (s_tn st)) (s_tf st) (nI x + 1)) (rowAt 41 (nI (s_tn st)) (s_tf st) (nI x + 2)) (rowAt 41 (nI (s_tn st)) (s_tf st) (nI x + 3)) (rowAt 41 (nI (s_tn st)) (s_tf st) (nI x) + rowAt 41 (nI (s_tn st)) (s_tf st) (nI x + 1) + rowAt 41 (nI (s_tn st)) (s_tf st) (nI x + 2) + rowAt 41 (nI (s_tn st)) (s_tf st) (nI x + 3))) 0 0 10).1).toInt64)))))]) (wp' := [(out, .inl (KL, 1, .inr (.inl (vp_updL ofn ((0 : Int32).toNatClampNeg) (((nrF (dsF (rowAt 41 (nI (s_tn st)) (s_tf st) (nI x)) (rowAt 41 (nI (s_tn st)) (s_tf st) (nI x + 1)) (rowAt 41 (nI (s_tn st)) (s_tf st) (nI x + 2)) (rowAt 41 (nI (s_tn st)) (s_tf st) (nI x + 3)) (rowAt 41 (nI (s_tn st)) (s_tf st) (nI x) + rowAt 41 (nI (s_tn st)) (s_tf st) (nI x + 1) + rowAt 41 (nI (s_tn st)) (s_tf st) (nI x + 2) + rowAt 41 (nI (s_tn st)) (s_tf st) (nI x + 3))) 0 0 10).1).toInt64)))))]) (T := (WW a K KS st hs sc1v_2)) hP [0] rfl
  have hD9 : va_D A ((out, .inl (KL, 1, .inr (.inl (vp_updL ofn ((0 : Int32).toNatClampNeg) (((nrF (dsF (rowAt 41 (nI (s_tn st)) (s_tf st) (nI x)) (rowAt 41 (nI (s_tn st)) (s_tf st) (nI x + 1)) (rowAt 41 (nI (s_tn st)) (s_tf st) (nI x + 2)) (rowAt 41 (nI (s_tn st)) (s_tf st) (nI x + 3)) (rowAt 41 (nI (s_tn st)) (s_tf st) (nI x) + rowAt 41 (nI (s_tn st)) (s_tf st) (nI x + 1) + rowAt 41 (nI (s_tn st)) (s_tf st) (nI x + 2) + rowAt 41 (nI (s_tn st)) (s_tf st) (nI x + 3))) 0 0 10).1).toInt64))))) :: (WW a K KS st hs sc1v_2)) := k_subD (wp := [(out, .inl (KL, 1, .inr (.inl (vp_updL ofn ((0 : Int32).toNatClampNeg) (((nrF (dsF (rowAt 41 (nI (s_tn st)) (s_tf st) (nI x)) (rowAt 41 (nI (s_tn st)) (s_tf st) (nI x + 1)) (rowAt 41 (nI (s_tn st)) (s_tf st) (nI x + 2)) (rowAt 41 (nI (s_tn st)) (s_tf st) (nI x + 3)) (rowAt 41 (nI (s_tn st)) (s_tf st) (nI x) + rowAt 41 (nI (s_tn st)) (s_tf st) (nI x + 1) + rowAt 41 (nI (s_tn st)) (s_tf st) (nI x + 2) + rowAt 41 (nI (s_tn st)) (s_tf st) (nI x + 3))) 0 0 10).1).toInt64)))))]) (wp' := [(out, .inl (KL, 1, .inr (.inl (vp_updL ofn ((0 : Int32).toNatClampNeg) (((nrF (dsF (rowAt 41 (nI (s_tn st)) (s_tf st) (nI x)) (rowAt 41 (nI (s_tn st)) (s_tf st) (nI x + 1)) (rowAt 41 (nI (s_tn st)) (s_tf st) (nI x + 2)) (rowAt 41 (nI (s_tn st)) (s_tf st) (nI x + 3)) (rowAt 41 (nI (s_tn st)) (s_tf st) (nI x) + rowAt 41 (nI (s_tn st)) (s_tf st) (nI x + 1) + rowAt 41 (nI (s_tn st)) (s_tf st) (nI x + 2) + rowAt 41 (nI (s_tn st)) (s_tf st) (nI x + 3))) 0 0 10).1).toInt64)))))]) (T := (WW a K KS st hs sc1v_2)) hD [0] (by decide) rfl
  have hP9 : va_P D vwCl ((out, .inl (KL, 1, .inr (.inl (vp_updL ofn ((0 : Int32).toNatClampNeg) (((nrF (dsF (rowAt 41 (nI (s_tn st)) (s_tf st) (nI x)) (rowAt 41 (nI (s_tn st)) (s_tf st) (nI x + 1)) (rowAt 41 (nI (s_tn st)) (s_tf st) (nI x + 2)) (rowAt 41 (nI (s_tn st)) (s_tf st) (nI x + 3)) (rowAt 41 (nI (s_tn st)) (s_tf st) (nI x) + rowAt 41 (nI (s_tn st)) (s_tf st) (nI x + 1) + rowAt 41 (nI (s_tn st)) (s_tf st) (nI x + 2) + rowAt 41 (nI (s_tn st)) (s_tf st) (nI x + 3))) 0 0 10).1).toInt64))))) :: (WW a K KS st hs sc1v_2)) H := hP9
  have hD9 : va_D A ((out, .inl (KL, 1, .inr (.inl (vp_updL ofn ((0 : Int32).toNatClampNeg) (((nrF (dsF (rowAt 41 (nI (s_tn st)) (s_tf st) (nI x)) (rowAt 41 (nI (s_tn st)) (s_tf st) (nI x + 1)) (rowAt 41 (nI (s_tn st)) (s_tf st) (nI x + 2)) (rowAt 41 (nI (s_tn st)) (s_tf st) (nI x + 3)) (rowAt 41 (nI (s_tn st)) (s_tf st) (nI x) + rowAt 41 (nI (s_tn st)) (s_tf st) (nI x + 1) + rowAt 41 (nI (s_tn st)) (s_tf st) (nI x + 2) + rowAt 41 (nI (s_tn st)) (s_tf st) (nI x + 3))) 0 0 10).1).toInt64))))) :: (WW a K KS st hs sc1v_2)) := hD9
  have hK9 : va_K D vwCl [] s := hK.sub [] rfl
  exact W.iret (v := 0) hx hb hr (fun t ht9 hW9 => ⟨⟨0, (sc1v_2, (vp_updL ofn ((0 : Int32).toNatClampNeg) (((nrF (dsF (rowAt 41 (nI (s_tn st)) (s_tf st) (nI x)) (rowAt 41 (nI (s_tn st)) (s_tf st) (nI x + 1)) (rowAt 41 (nI (s_tn st)) (s_tf st) (nI x + 2)) (rowAt 41 (nI (s_tn st)) (s_tf st) (nI x + 3)) (rowAt 41 (nI (s_tn st)) (s_tf st) (nI x) + rowAt 41 (nI (s_tn st)) (s_tf st) (nI x + 1) + rowAt 41 (nI (s_tn st)) (s_tf st) (nI x + 2) + rowAt 41 (nI (s_tn st)) (s_tf st) (nI x + 3))) 0 0 10).1).toInt64)), ((nrF (dsF (rowAt 41 (nI (s_tn st)) (s_tf st) (nI x)) (rowAt 41 (nI (s_tn st)) (s_tf st) (nI x + 1)) (rowAt 41 (nI (s_tn st)) (s_tf st) (nI x + 2)) (rowAt 41 (nI (s_tn st)) (s_tf st) (nI x + 3)) (rowAt 41 (nI (s_tn st)) (s_tf st) (nI x) + rowAt 41 (nI (s_tn st)) (s_tf st) (nI x + 1) + rowAt 41 (nI (s_tn st)) (s_tf st) (nI x + 2) + rowAt 41 (nI (s_tn st)) (s_tf st) (nI x + 3))) 0 0 10).1)), rfl, by (exact ⟨rfl, rfl, pk_uLs⟩), ⟨by rw [ht9]; exact hP9, va_K.moved hW9.alike hK9, hD9⟩⟩, hS.F ht9⟩) hS.2.2 dL_nearest_16
set_option maxHeartbeats 4000000 in
set_option maxRecDepth 100000 in
theorem c_L_code (l : Launch) (D : va_G) (a : Nat → Nat) (K : ClassId) (KS : ClassId) (st : ST) (hs : HT) (sc : SCT) (x : Int32) (out : Nat) (KL : ClassId) (ofn : Nat → Int64) (hxi : inR x (nI (s_k st)) = 1) (sz : Nat) : k_Wi (S := (Nat → Int64) × Int32) l D yL_code cL_code 4 (some .int) [(0, 9, 12, 18)] 3 0 0 63 [.ref (a 0), .int x, .ref out] ((out, .inl (KL, 1, .inr (.inl ofn))) :: (WW a K KS st hs sc)) [(K, .int), (KS, .object "BarcodeWand$State"), (KL, .long)] (fun (r : Int32) (u : (Nat → Int64) × Int32) => match u with | (og, rv) => r = 0 ∧ rv = (rowAt 10 (nI (s_k st)) (s_f st) x) ∧ og 0 = rv.toInt64) (fun u => match u with | (og, rv) => ((out, .inl (KL, 1, .inr (.inl og))) :: (WW a K KS st hs sc))) (fun u => match u with | (og, rv) => []) sz := by
  refine va_MetW (cc := cL_code) (maxL := 4) (ret := (some .int)) (hh := [(0, 9, 12, 18)]) (by decide) rfl ?_
  intro p e s m args below meth c s₁ B hml hv
  obtain ⟨rfl, hsz, hP, hK, hD0, hG⟩ := hv
  have hx := B.exec
  have hb := B.bytes
  have hr := B.returns
  have ht : ∀ v9 ∈ wsA, v9.before ([.ref (a 0), .int x, .ref out] : List Value).toArray s = true := fun v9 h9 => atoms_spec (ws := Cond.codeWith yL_code cL_code 4 (some .int) [(0, 9, 12, 18)] :: wsA) B.pre v9 (List.mem_cons_of_mem _ h9)
  have htab : c.exceptionTable.toList = tableOf [(0, 9, 12, 18)] := vx_table (x := yL_code) B (atoms_spec (ws := Cond.codeWith yL_code cL_code 4 (some .int) [(0, 9, 12, 18)] :: wsA) B.pre _ List.mem_cons_self)
  have hown : s.vm.findClass RL = some m.cls := findClass_of_methodNamed B.named
  have S0 : k_C p s m ([.ref (a 0), .int x, .ref out] : List Value).toArray c cL_code 4 RL := ⟨hx, hb, hml, hown, ht⟩
  have hlocks := B.notSynchronized
  subst hsz
  have hD := hD0.self (sz := s.heap.size)
  generalize hAe : va_A ((out, .inl (KL, 1, .inr (.inl ofn))) :: (WW a K KS st hs sc)) s.heap.size = A at hD hG ⊢
  have hA : ∀ q : Nat, s.heap.size ≤ q → A q := fun q h => by rw [← hAe]; exact Or.inr h
  have hS : va_S A s.heap s.heap [] := va_S.rf
  have hl := lv_entry ([.ref (a 0), .int x, .ref out]) (n := 4) (Nat.le_of_ble_eq_true rfl)
  rw [lg_entry_eq]
  generalize (lg_sl ([.ref (a 0), .int x, .ref out]) ++ List.replicate (4 - (lg_sl ([.ref (a 0), .int x, .ref out])).length) Slot.unset).toArray = ls at hl ⊢
  have hl : lv_has ls 4 [(0, .ref (a 0)), (1, .int x), (2, .ref out)] := hl
  have hP : va_P D vwCl ((out, .inl (KL, 1, .inr (.inl ofn))) :: (WW a K KS st hs sc)) s.heap := hP
  refine lv_aload_n hx hb dL_code_0 rfl (lv_at hl 2 rfl) ?_
  refine lv_iconst (v := 0) hx hb dL_code_1 (by decide) ?_
  refine lv_aload_n hx hb dL_code_2 rfl (lv_at hl 0 rfl) ?_
  refine lv_iload_n hx hb dL_code_3 rfl (lv_at hl 1 rfl) ?_
  have ct := k_cut_TT (wp := [(out, .inl (KL, 1, .inr (.inl ofn)))]) (T := (WW a K KS st hs sc)) (wc := []) (wr := [(out, .inl (KL, 1, .inr (.inl ofn)))]) (tc := [(K, .int), (KS, .object "BarcodeWand$State")]) hG hS hA hK hP hD [] [0] [0, 1] rfl rfl (by decide) (by decide) (by decide) rfl
  refine k_endi (As := [.ref (a 0), .int x]) ct (k_runV (As := [.int x]) (rest := [.int 0, .ref out]) S0 Lv_L_48 rfl (ci := 7) (q0 := 0) rfl (WW_0 a K KS st hs sc) ct (c_B_code l D a K KS st hs sc x (by assumption) s.heap.size) hl.1 rfl (Nat.le_of_ble_eq_true rfl) rfl dL_code_4 ⟨⟨Nat.le_of_ble_eq_true rfl, Nat.le_of_ble_eq_true rfl⟩, Nat.le_of_ble_eq_true rfl, Nat.le_of_ble_eq_true rfl⟩) rfl rfl (fun r_1 _ H locs hw_2 hP hD hK hS => ?_)
  have hK : va_K D vwCl [(K, .int), (KS, .object "BarcodeWand$State"), (KL, .long)] s := hK
  have hP : va_P D vwCl ((out, .inl (KL, 1, .inr (.inl ofn))) :: (WW a K KS st hs sc)) H := hP
  have hD : va_D A ((out, .inl (KL, 1, .inr (.inl ofn))) :: (WW a K KS st hs sc)) := hD
  have hw_2 : r_1 = (rowAt 10 (nI (s_k st)) (s_f st) x) := hw_2
  have hw_2 := hw_2.symm
  subst hw_2
  refine k_nrm (y := (rowAt 10 (nI (s_k st)) (s_f st) x)) rfl ?_
  refine lv_i2l (v := (rowAt 10 (nI (s_k st)) (s_f st) x).toInt64) hx hb dL_code_7 rfl ?_
  refine va_last hx hb hK hP hD hS 0 2 rfl rfl (by unfold vp_in; decide) dL_code_8 (fun H locs hP hD hS => ?_)
  have hP : va_P D vwCl ((out, .inl (KL, 1, .inr (.inl (vp_updL ofn ((0 : Int32).toNatClampNeg) ((rowAt 10 (nI (s_k st)) (s_f st) x).toInt64))))) :: (WW a K KS st hs sc)) H := hP
  have hD : va_D A ((out, .inl (KL, 1, .inr (.inl (vp_updL ofn ((0 : Int32).toNatClampNeg) ((rowAt 10 (nI (s_k st)) (s_f st) x).toInt64))))) :: (WW a K KS st hs sc)) := hD
  refine lv_goto (tgt := 15) hx hb dL_code_9 (by decide) ?_
  refine lv_iconst (v := 0) hx hb dL_code_15 (by decide) ?_
  have hP9 : va_P D vwCl ((out, .inl (KL, 1, .inr (.inl (vp_updL ofn ((0 : Int32).toNatClampNeg) ((rowAt 10 (nI (s_k st)) (s_f st) x).toInt64))))) :: (WW a K KS st hs sc)) H := k_subP (wp := [(out, .inl (KL, 1, .inr (.inl (vp_updL ofn ((0 : Int32).toNatClampNeg) ((rowAt 10 (nI (s_k st)) (s_f st) x).toInt64)))))]) (wp' := [(out, .inl (KL, 1, .inr (.inl (vp_updL ofn ((0 : Int32).toNatClampNeg) ((rowAt 10 (nI (s_k st)) (s_f st) x).toInt64)))))]) (T := (WW a K KS st hs sc)) hP [0] rfl
  have hD9 : va_D A ((out, .inl (KL, 1, .inr (.inl (vp_updL ofn ((0 : Int32).toNatClampNeg) ((rowAt 10 (nI (s_k st)) (s_f st) x).toInt64))))) :: (WW a K KS st hs sc)) := k_subD (wp := [(out, .inl (KL, 1, .inr (.inl (vp_updL ofn ((0 : Int32).toNatClampNeg) ((rowAt 10 (nI (s_k st)) (s_f st) x).toInt64)))))]) (wp' := [(out, .inl (KL, 1, .inr (.inl (vp_updL ofn ((0 : Int32).toNatClampNeg) ((rowAt 10 (nI (s_k st)) (s_f st) x).toInt64)))))]) (T := (WW a K KS st hs sc)) hD [0] (by decide) rfl
  have hP9 : va_P D vwCl ((out, .inl (KL, 1, .inr (.inl (vp_updL ofn ((0 : Int32).toNatClampNeg) ((rowAt 10 (nI (s_k st)) (s_f st) x).toInt64))))) :: (WW a K KS st hs sc)) H := hP9
  have hD9 : va_D A ((out, .inl (KL, 1, .inr (.inl (vp_updL ofn ((0 : Int32).toNatClampNeg) ((rowAt 10 (nI (s_k st)) (s_f st) x).toInt64))))) :: (WW a K KS st hs sc)) := hD9
  have hK9 : va_K D vwCl [] s := hK.sub [] rfl
  exact W.iret (v := 0) hx hb hr (fun t ht9 hW9 => ⟨⟨0, ((vp_updL ofn ((0 : Int32).toNatClampNeg) ((rowAt 10 (nI (s_k st)) (s_f st) x).toInt64)), (rowAt 10 (nI (s_k st)) (s_f st) x)), rfl, by (exact ⟨rfl, rfl, pk_uLs⟩), ⟨by rw [ht9]; exact hP9, va_K.moved hW9.alike hK9, hD9⟩⟩, hS.F ht9⟩) hS.2.2 dL_code_16
set_option maxHeartbeats 4000000 in
set_option maxRecDepth 100000 in
theorem c_L_codeLength (l : Launch) (D : va_G) (a : Nat → Nat) (K : ClassId) (KS : ClassId) (st : ST) (hs : HT) (sc : SCT) (x : Int32) (out : Nat) (KL : ClassId) (ofn : Nat → Int64) (hxi : inR x (nI (s_k st)) = 1) (sz : Nat) : k_Wi (S := (Nat → Int64) × Int32) l D yL_codeLength cL_codeLength 4 (some .int) [(0, 9, 12, 18)] 3 0 0 63 [.ref (a 0), .int x, .ref out] ((out, .inl (KL, 1, .inr (.inl ofn))) :: (WW a K KS st hs sc)) [(K, .int), (KS, .object "BarcodeWand$State"), (KL, .long)] (fun (r : Int32) (u : (Nat → Int64) × Int32) => match u with | (og, rv) => r = 0 ∧ rv = (rowAt 10 (nI (s_k st)) (s_g st) x) ∧ og 0 = rv.toInt64) (fun u => match u with | (og, rv) => ((out, .inl (KL, 1, .inr (.inl og))) :: (WW a K KS st hs sc))) (fun u => match u with | (og, rv) => []) sz := by
  refine va_MetW (cc := cL_codeLength) (maxL := 4) (ret := (some .int)) (hh := [(0, 9, 12, 18)]) (by decide) rfl ?_
  intro p e s m args below meth c s₁ B hml hv
  obtain ⟨rfl, hsz, hP, hK, hD0, hG⟩ := hv
  have hx := B.exec
  have hb := B.bytes
  have hr := B.returns
  have ht : ∀ v9 ∈ wsA, v9.before ([.ref (a 0), .int x, .ref out] : List Value).toArray s = true := fun v9 h9 => atoms_spec (ws := Cond.codeWith yL_codeLength cL_codeLength 4 (some .int) [(0, 9, 12, 18)] :: wsA) B.pre v9 (List.mem_cons_of_mem _ h9)
  have htab : c.exceptionTable.toList = tableOf [(0, 9, 12, 18)] := vx_table (x := yL_codeLength) B (atoms_spec (ws := Cond.codeWith yL_codeLength cL_codeLength 4 (some .int) [(0, 9, 12, 18)] :: wsA) B.pre _ List.mem_cons_self)
  have hown : s.vm.findClass RL = some m.cls := findClass_of_methodNamed B.named
  have S0 : k_C p s m ([.ref (a 0), .int x, .ref out] : List Value).toArray c cL_codeLength 4 RL := ⟨hx, hb, hml, hown, ht⟩
  have hlocks := B.notSynchronized
  subst hsz
  have hD := hD0.self (sz := s.heap.size)
  generalize hAe : va_A ((out, .inl (KL, 1, .inr (.inl ofn))) :: (WW a K KS st hs sc)) s.heap.size = A at hD hG ⊢
  have hA : ∀ q : Nat, s.heap.size ≤ q → A q := fun q h => by rw [← hAe]; exact Or.inr h
  have hS : va_S A s.heap s.heap [] := va_S.rf
  have hl := lv_entry ([.ref (a 0), .int x, .ref out]) (n := 4) (Nat.le_of_ble_eq_true rfl)
  rw [lg_entry_eq]
  generalize (lg_sl ([.ref (a 0), .int x, .ref out]) ++ List.replicate (4 - (lg_sl ([.ref (a 0), .int x, .ref out])).length) Slot.unset).toArray = ls at hl ⊢
  have hl : lv_has ls 4 [(0, .ref (a 0)), (1, .int x), (2, .ref out)] := hl
  have hP : va_P D vwCl ((out, .inl (KL, 1, .inr (.inl ofn))) :: (WW a K KS st hs sc)) s.heap := hP
  refine lv_aload_n hx hb dL_codeLength_0 rfl (lv_at hl 2 rfl) ?_
  refine lv_iconst (v := 0) hx hb dL_codeLength_1 (by decide) ?_
  refine lv_aload_n hx hb dL_codeLength_2 rfl (lv_at hl 0 rfl) ?_
  refine lv_iload_n hx hb dL_codeLength_3 rfl (lv_at hl 1 rfl) ?_
  have ct := k_cut_TT (wp := [(out, .inl (KL, 1, .inr (.inl ofn)))]) (T := (WW a K KS st hs sc)) (wc := []) (wr := [(out, .inl (KL, 1, .inr (.inl ofn)))]) (tc := [(K, .int), (KS, .object "BarcodeWand$State")]) hG hS hA hK hP hD [] [0] [0, 1] rfl rfl (by decide) (by decide) (by decide) rfl
  refine k_endi (As := [.ref (a 0), .int x]) ct (k_runV (As := [.int x]) (rest := [.int 0, .ref out]) S0 Lv_L_51 rfl (ci := 7) (q0 := 0) rfl (WW_0 a K KS st hs sc) ct (c_B_codeLength l D a K KS st hs sc x (by assumption) s.heap.size) hl.1 rfl (Nat.le_of_ble_eq_true rfl) rfl dL_codeLength_4 ⟨⟨Nat.le_of_ble_eq_true rfl, Nat.le_of_ble_eq_true rfl⟩, Nat.le_of_ble_eq_true rfl, Nat.le_of_ble_eq_true rfl⟩) rfl rfl (fun r_1 _ H locs hw_2 hP hD hK hS => ?_)
  have hK : va_K D vwCl [(K, .int), (KS, .object "BarcodeWand$State"), (KL, .long)] s := hK
  have hP : va_P D vwCl ((out, .inl (KL, 1, .inr (.inl ofn))) :: (WW a K KS st hs sc)) H := hP
  have hD : va_D A ((out, .inl (KL, 1, .inr (.inl ofn))) :: (WW a K KS st hs sc)) := hD
  have hw_2 : r_1 = (rowAt 10 (nI (s_k st)) (s_g st) x) := hw_2
  have hw_2 := hw_2.symm
  subst hw_2
  refine k_nrm (y := (rowAt 10 (nI (s_k st)) (s_g st) x)) rfl ?_
  refine lv_i2l (v := (rowAt 10 (nI (s_k st)) (s_g st) x).toInt64) hx hb dL_codeLength_7 rfl ?_
  refine va_last hx hb hK hP hD hS 0 2 rfl rfl (by unfold vp_in; decide) dL_codeLength_8 (fun H locs hP hD hS => ?_)
  have hP : va_P D vwCl ((out, .inl (KL, 1, .inr (.inl (vp_updL ofn ((0 : Int32).toNatClampNeg) ((rowAt 10 (nI (s_k st)) (s_g st) x).toInt64))))) :: (WW a K KS st hs sc)) H := hP
  have hD : va_D A ((out, .inl (KL, 1, .inr (.inl (vp_updL ofn ((0 : Int32).toNatClampNeg) ((rowAt 10 (nI (s_k st)) (s_g st) x).toInt64))))) :: (WW a K KS st hs sc)) := hD
  refine lv_goto (tgt := 15) hx hb dL_codeLength_9 (by decide) ?_
  refine lv_iconst (v := 0) hx hb dL_codeLength_15 (by decide) ?_
  have hP9 : va_P D vwCl ((out, .inl (KL, 1, .inr (.inl (vp_updL ofn ((0 : Int32).toNatClampNeg) ((rowAt 10 (nI (s_k st)) (s_g st) x).toInt64))))) :: (WW a K KS st hs sc)) H := k_subP (wp := [(out, .inl (KL, 1, .inr (.inl (vp_updL ofn ((0 : Int32).toNatClampNeg) ((rowAt 10 (nI (s_k st)) (s_g st) x).toInt64)))))]) (wp' := [(out, .inl (KL, 1, .inr (.inl (vp_updL ofn ((0 : Int32).toNatClampNeg) ((rowAt 10 (nI (s_k st)) (s_g st) x).toInt64)))))]) (T := (WW a K KS st hs sc)) hP [0] rfl
  have hD9 : va_D A ((out, .inl (KL, 1, .inr (.inl (vp_updL ofn ((0 : Int32).toNatClampNeg) ((rowAt 10 (nI (s_k st)) (s_g st) x).toInt64))))) :: (WW a K KS st hs sc)) := k_subD (wp := [(out, .inl (KL, 1, .inr (.inl (vp_updL ofn ((0 : Int32).toNatClampNeg) ((rowAt 10 (nI (s_k st)) (s_g st) x).toInt64)))))]) (wp' := [(out, .inl (KL, 1, .inr (.inl (vp_updL ofn ((0 : Int32).toNatClampNeg) ((rowAt 10 (nI (s_k st)) (s_g st) x).toInt64)))))]) (T := (WW a K KS st hs sc)) hD [0] (by decide) rfl
  have hP9 : va_P D vwCl ((out, .inl (KL, 1, .inr (.inl (vp_updL ofn ((0 : Int32).toNatClampNeg) ((rowAt 10 (nI (s_k st)) (s_g st) x).toInt64))))) :: (WW a K KS st hs sc)) H := hP9
  have hD9 : va_D A ((out, .inl (KL, 1, .inr (.inl (vp_updL ofn ((0 : Int32).toNatClampNeg) ((rowAt 10 (nI (s_k st)) (s_g st) x).toInt64))))) :: (WW a K KS st hs sc)) := hD9
  have hK9 : va_K D vwCl [] s := hK.sub [] rfl
  exact W.iret (v := 0) hx hb hr (fun t ht9 hW9 => ⟨⟨0, ((vp_updL ofn ((0 : Int32).toNatClampNeg) ((rowAt 10 (nI (s_k st)) (s_g st) x).toInt64)), (rowAt 10 (nI (s_k st)) (s_g st) x)), rfl, by (exact ⟨rfl, rfl, pk_uLs⟩), ⟨by rw [ht9]; exact hP9, va_K.moved hW9.alike hK9, hD9⟩⟩, hS.F ht9⟩) hS.2.2 dL_codeLength_16
set_option maxHeartbeats 4000000 in
set_option maxRecDepth 100000 in
theorem c_L_count (l : Launch) (D : va_G) (a : Nat → Nat) (K : ClassId) (KS : ClassId) (st : ST) (hs : HT) (sc : SCT) (x : Int32) (out : Nat) (KL : ClassId) (ofn : Nat → Int64) (hxi : inR x (nI (s_k st)) = 1) (sz : Nat) : k_Wi (S := (Nat → Int64) × Int32) l D yL_count cL_count 4 (some .int) [(0, 9, 12, 18)] 3 0 0 63 [.ref (a 0), .int x, .ref out] ((out, .inl (KL, 1, .inr (.inl ofn))) :: (WW a K KS st hs sc)) [(K, .int), (KS, .object "BarcodeWand$State"), (KL, .long)] (fun (r : Int32) (u : (Nat → Int64) × Int32) => match u with | (og, rv) => r = 0 ∧ rv = (rowAt 10 (nI (s_k st)) (s_c st) x) ∧ og 0 = rv.toInt64) (fun u => match u with | (og, rv) => ((out, .inl (KL, 1, .inr (.inl og))) :: (WW a K KS st hs sc))) (fun u => match u with | (og, rv) => []) sz := by
  refine va_MetW (cc := cL_count) (maxL := 4) (ret := (some .int)) (hh := [(0, 9, 12, 18)]) (by decide) rfl ?_
  intro p e s m args below meth c s₁ B hml hv
  obtain ⟨rfl, hsz, hP, hK, hD0, hG⟩ := hv
  have hx := B.exec
  have hb := B.bytes
  have hr := B.returns
  have ht : ∀ v9 ∈ wsA, v9.before ([.ref (a 0), .int x, .ref out] : List Value).toArray s = true := fun v9 h9 => atoms_spec (ws := Cond.codeWith yL_count cL_count 4 (some .int) [(0, 9, 12, 18)] :: wsA) B.pre v9 (List.mem_cons_of_mem _ h9)
  have htab : c.exceptionTable.toList = tableOf [(0, 9, 12, 18)] := vx_table (x := yL_count) B (atoms_spec (ws := Cond.codeWith yL_count cL_count 4 (some .int) [(0, 9, 12, 18)] :: wsA) B.pre _ List.mem_cons_self)
  have hown : s.vm.findClass RL = some m.cls := findClass_of_methodNamed B.named
  have S0 : k_C p s m ([.ref (a 0), .int x, .ref out] : List Value).toArray c cL_count 4 RL := ⟨hx, hb, hml, hown, ht⟩
  have hlocks := B.notSynchronized
  subst hsz
  have hD := hD0.self (sz := s.heap.size)
  generalize hAe : va_A ((out, .inl (KL, 1, .inr (.inl ofn))) :: (WW a K KS st hs sc)) s.heap.size = A at hD hG ⊢
  have hA : ∀ q : Nat, s.heap.size ≤ q → A q := fun q h => by rw [← hAe]; exact Or.inr h
  have hS : va_S A s.heap s.heap [] := va_S.rf
  have hl := lv_entry ([.ref (a 0), .int x, .ref out]) (n := 4) (Nat.le_of_ble_eq_true rfl)
  rw [lg_entry_eq]
  generalize (lg_sl ([.ref (a 0), .int x, .ref out]) ++ List.replicate (4 - (lg_sl ([.ref (a 0), .int x, .ref out])).length) Slot.unset).toArray = ls at hl ⊢
  have hl : lv_has ls 4 [(0, .ref (a 0)), (1, .int x), (2, .ref out)] := hl
  have hP : va_P D vwCl ((out, .inl (KL, 1, .inr (.inl ofn))) :: (WW a K KS st hs sc)) s.heap := hP
  refine lv_aload_n hx hb dL_count_0 rfl (lv_at hl 2 rfl) ?_
  refine lv_iconst (v := 0) hx hb dL_count_1 (by decide) ?_
  refine lv_aload_n hx hb dL_count_2 rfl (lv_at hl 0 rfl) ?_
  refine lv_iload_n hx hb dL_count_3 rfl (lv_at hl 1 rfl) ?_
  have ct := k_cut_TT (wp := [(out, .inl (KL, 1, .inr (.inl ofn)))]) (T := (WW a K KS st hs sc)) (wc := []) (wr := [(out, .inl (KL, 1, .inr (.inl ofn)))]) (tc := [(K, .int), (KS, .object "BarcodeWand$State")]) hG hS hA hK hP hD [] [0] [0, 1] rfl rfl (by decide) (by decide) (by decide) rfl
  refine k_endi (As := [.ref (a 0), .int x]) ct (k_runV (As := [.int x]) (rest := [.int 0, .ref out]) S0 Lv_L_54 rfl (ci := 7) (q0 := 0) rfl (WW_0 a K KS st hs sc) ct (c_B_count l D a K KS st hs sc x (by assumption) s.heap.size) hl.1 rfl (Nat.le_of_ble_eq_true rfl) rfl dL_count_4 ⟨⟨Nat.le_of_ble_eq_true rfl, Nat.le_of_ble_eq_true rfl⟩, Nat.le_of_ble_eq_true rfl, Nat.le_of_ble_eq_true rfl⟩) rfl rfl (fun r_1 _ H locs hw_2 hP hD hK hS => ?_)
  have hK : va_K D vwCl [(K, .int), (KS, .object "BarcodeWand$State"), (KL, .long)] s := hK
  have hP : va_P D vwCl ((out, .inl (KL, 1, .inr (.inl ofn))) :: (WW a K KS st hs sc)) H := hP
  have hD : va_D A ((out, .inl (KL, 1, .inr (.inl ofn))) :: (WW a K KS st hs sc)) := hD
  have hw_2 : r_1 = (rowAt 10 (nI (s_k st)) (s_c st) x) := hw_2
  have hw_2 := hw_2.symm
  subst hw_2
  refine k_nrm (y := (rowAt 10 (nI (s_k st)) (s_c st) x)) rfl ?_
  refine lv_i2l (v := (rowAt 10 (nI (s_k st)) (s_c st) x).toInt64) hx hb dL_count_7 rfl ?_
  refine va_last hx hb hK hP hD hS 0 2 rfl rfl (by unfold vp_in; decide) dL_count_8 (fun H locs hP hD hS => ?_)
  have hP : va_P D vwCl ((out, .inl (KL, 1, .inr (.inl (vp_updL ofn ((0 : Int32).toNatClampNeg) ((rowAt 10 (nI (s_k st)) (s_c st) x).toInt64))))) :: (WW a K KS st hs sc)) H := hP
  have hD : va_D A ((out, .inl (KL, 1, .inr (.inl (vp_updL ofn ((0 : Int32).toNatClampNeg) ((rowAt 10 (nI (s_k st)) (s_c st) x).toInt64))))) :: (WW a K KS st hs sc)) := hD
  refine lv_goto (tgt := 15) hx hb dL_count_9 (by decide) ?_
  refine lv_iconst (v := 0) hx hb dL_count_15 (by decide) ?_
  have hP9 : va_P D vwCl ((out, .inl (KL, 1, .inr (.inl (vp_updL ofn ((0 : Int32).toNatClampNeg) ((rowAt 10 (nI (s_k st)) (s_c st) x).toInt64))))) :: (WW a K KS st hs sc)) H := k_subP (wp := [(out, .inl (KL, 1, .inr (.inl (vp_updL ofn ((0 : Int32).toNatClampNeg) ((rowAt 10 (nI (s_k st)) (s_c st) x).toInt64)))))]) (wp' := [(out, .inl (KL, 1, .inr (.inl (vp_updL ofn ((0 : Int32).toNatClampNeg) ((rowAt 10 (nI (s_k st)) (s_c st) x).toInt64)))))]) (T := (WW a K KS st hs sc)) hP [0] rfl
  have hD9 : va_D A ((out, .inl (KL, 1, .inr (.inl (vp_updL ofn ((0 : Int32).toNatClampNeg) ((rowAt 10 (nI (s_k st)) (s_c st) x).toInt64))))) :: (WW a K KS st hs sc)) := k_subD (wp := [(out, .inl (KL, 1, .inr (.inl (vp_updL ofn ((0 : Int32).toNatClampNeg) ((rowAt 10 (nI (s_k st)) (s_c st) x).toInt64)))))]) (wp' := [(out, .inl (KL, 1, .inr (.inl (vp_updL ofn ((0 : Int32).toNatClampNeg) ((rowAt 10 (nI (s_k st)) (s_c st) x).toInt64)))))]) (T := (WW a K KS st hs sc)) hD [0] (by decide) rfl
  have hP9 : va_P D vwCl ((out, .inl (KL, 1, .inr (.inl (vp_updL ofn ((0 : Int32).toNatClampNeg) ((rowAt 10 (nI (s_k st)) (s_c st) x).toInt64))))) :: (WW a K KS st hs sc)) H := hP9
  have hD9 : va_D A ((out, .inl (KL, 1, .inr (.inl (vp_updL ofn ((0 : Int32).toNatClampNeg) ((rowAt 10 (nI (s_k st)) (s_c st) x).toInt64))))) :: (WW a K KS st hs sc)) := hD9
  have hK9 : va_K D vwCl [] s := hK.sub [] rfl
  exact W.iret (v := 0) hx hb hr (fun t ht9 hW9 => ⟨⟨0, ((vp_updL ofn ((0 : Int32).toNatClampNeg) ((rowAt 10 (nI (s_k st)) (s_c st) x).toInt64)), (rowAt 10 (nI (s_k st)) (s_c st) x)), rfl, by (exact ⟨rfl, rfl, pk_uLs⟩), ⟨by rw [ht9]; exact hP9, va_K.moved hW9.alike hK9, hD9⟩⟩, hS.F ht9⟩) hS.2.2 dL_count_16
set_option maxHeartbeats 4000000 in
set_option maxRecDepth 100000 in
theorem c_L_ifDrawn (l : Launch) (D : va_G) (a : Nat → Nat) (K : ClassId) (KS : ClassId) (st : ST) (hs : HT) (sc : SCT) (lf : Int32) (rt : Int32) (b : Int32) (out : Nat) (KL : ClassId) (ofn : Nat → Int64) (hbst : bST st) (hp : k_per lf rt) (hne : ¬ s_ns st = 0) (sz : Nat) : k_Wi (S := SCT × (Nat → Int64) × Int32) l D yL_ifDrawn cL_ifDrawn 6 (some .int) [(0, 12, 15, 13), (0, 12, 19, 31)] 6 0 0 140 [.ref (a 0), .int lf, .int rt, .int b, .ref out] ((out, .inl (KL, 1, .inr (.inl ofn))) :: (WW a K KS st hs sc)) [(K, .int), (KS, .object "BarcodeWand$State"), (KL, .long)] (fun (r : Int32) (u : SCT × (Nat → Int64) × Int32) => match u with | (sc1, og, rv) => r = 0 ∧ rv = resF (s_ns st) (s_drw st lf rt b) (s_tol st) ∧ og 0 = rv.toInt64) (fun u => match u with | (sc1, og, rv) => ((out, .inl (KL, 1, .inr (.inl og))) :: (WW a K KS st hs sc1))) (fun u => match u with | (sc1, og, rv) => []) sz := by
  refine va_MetW (cc := cL_ifDrawn) (maxL := 6) (ret := (some .int)) (hh := [(0, 12, 15, 13), (0, 12, 19, 31)]) (by decide) rfl ?_
  intro p e s m args below meth c s₁ B hml hv
  obtain ⟨rfl, hsz, hP, hK, hD0, hG⟩ := hv
  have hx := B.exec
  have hb := B.bytes
  have hr := B.returns
  have ht : ∀ v9 ∈ wsA, v9.before ([.ref (a 0), .int lf, .int rt, .int b, .ref out] : List Value).toArray s = true := fun v9 h9 => atoms_spec (ws := Cond.codeWith yL_ifDrawn cL_ifDrawn 6 (some .int) [(0, 12, 15, 13), (0, 12, 19, 31)] :: wsA) B.pre v9 (List.mem_cons_of_mem _ h9)
  have htab : c.exceptionTable.toList = tableOf [(0, 12, 15, 13), (0, 12, 19, 31)] := vx_table (x := yL_ifDrawn) B (atoms_spec (ws := Cond.codeWith yL_ifDrawn cL_ifDrawn 6 (some .int) [(0, 12, 15, 13), (0, 12, 19, 31)] :: wsA) B.pre _ List.mem_cons_self)
  have hown : s.vm.findClass RL = some m.cls := findClass_of_methodNamed B.named
  have S0 : k_C p s m ([.ref (a 0), .int lf, .int rt, .int b, .ref out] : List Value).toArray c cL_ifDrawn 6 RL := ⟨hx, hb, hml, hown, ht⟩
  have hlocks := B.notSynchronized
  subst hsz
  have hD := hD0.self (sz := s.heap.size)
  generalize hAe : va_A ((out, .inl (KL, 1, .inr (.inl ofn))) :: (WW a K KS st hs sc)) s.heap.size = A at hD hG ⊢
  have hA : ∀ q : Nat, s.heap.size ≤ q → A q := fun q h => by rw [← hAe]; exact Or.inr h
  have hS : va_S A s.heap s.heap [] := va_S.rf
  have hl := lv_entry ([.ref (a 0), .int lf, .int rt, .int b, .ref out]) (n := 6) (Nat.le_of_ble_eq_true rfl)
  rw [lg_entry_eq]
  generalize (lg_sl ([.ref (a 0), .int lf, .int rt, .int b, .ref out]) ++ List.replicate (6 - (lg_sl ([.ref (a 0), .int lf, .int rt, .int b, .ref out])).length) Slot.unset).toArray = ls at hl ⊢
  have hl : lv_has ls 6 [(0, .ref (a 0)), (1, .int lf), (2, .int rt), (3, .int b), (4, .ref out)] := hl
  have hP : va_P D vwCl ((out, .inl (KL, 1, .inr (.inl ofn))) :: (WW a K KS st hs sc)) s.heap := hP
  refine lv_aload hx hb dL_ifDrawn_0 (lv_at hl 4 rfl) ?_
  refine lv_iconst (v := 0) hx hb dL_ifDrawn_2 (by decide) ?_
  refine lv_aload_n hx hb dL_ifDrawn_3 rfl (lv_at hl 0 rfl) ?_
  refine lv_iload_n hx hb dL_ifDrawn_4 rfl (lv_at hl 1 rfl) ?_
  refine lv_iload_n hx hb dL_ifDrawn_5 rfl (lv_at hl 2 rfl) ?_
  refine lv_iload_n hx hb dL_ifDrawn_6 rfl (lv_at hl 3 rfl) ?_
  have ct := k_cut_TT (wp := [(out, .inl (KL, 1, .inr (.inl ofn)))]) (T := (WW a K KS st hs sc)) (wc := []) (wr := [(out, .inl (KL, 1, .inr (.inl ofn)))]) (tc := [(K, .int), (KS, .object "BarcodeWand$State")]) hG hS hA hK hP hD [] [0] [0, 1] rfl rfl (by decide) (by decide) (by decide) rfl
  refine k_endi (As := [.ref (a 0), .int lf, .int rt, .int b]) ct (k_runV (As := [.int lf, .int rt, .int b]) (rest := [.int 0, .ref out]) S0 Lv_L_57 rfl (ci := 7) (q0 := 0) rfl (WW_0 a K KS st hs sc) ct (c_B_ifDrawn l D a K KS st hs sc lf rt b (by assumption) (by assumption) (by assumption) s.heap.size) hl.1 rfl (Nat.le_of_ble_eq_true rfl) rfl dL_ifDrawn_7 ⟨⟨Nat.le_of_ble_eq_true rfl, Nat.le_of_ble_eq_true rfl⟩, Nat.le_of_ble_eq_true rfl, Nat.le_of_ble_eq_true rfl⟩) rfl rfl (fun r_1 sc1v_2 H locs hw_3 hP hD hK hS => ?_)
  have hK : va_K D vwCl [(K, .int), (KS, .object "BarcodeWand$State"), (KL, .long)] s := hK
  have hP : va_P D vwCl ((out, .inl (KL, 1, .inr (.inl ofn))) :: (WW a K KS st hs sc1v_2)) H := hP
  have hD : va_D A ((out, .inl (KL, 1, .inr (.inl ofn))) :: (WW a K KS st hs sc1v_2)) := hD
  have hw_3 : r_1 = resF (s_ns st) (s_drw st lf rt b) (s_tol st) := hw_3
  refine lv_i2l (v := r_1.toInt64) hx hb dL_ifDrawn_10 rfl ?_
  refine va_last hx hb hK hP hD hS 0 2 rfl rfl (by unfold vp_in; decide) dL_ifDrawn_11 (fun H locs hP hD hS => ?_)
  have hP : va_P D vwCl ((out, .inl (KL, 1, .inr (.inl (vp_updL ofn ((0 : Int32).toNatClampNeg) r_1.toInt64)))) :: (WW a K KS st hs sc1v_2)) H := hP
  have hD : va_D A ((out, .inl (KL, 1, .inr (.inl (vp_updL ofn ((0 : Int32).toNatClampNeg) r_1.toInt64)))) :: (WW a K KS st hs sc1v_2)) := hD
  refine lv_goto (tgt := 23) hx hb dL_ifDrawn_12 (by decide) ?_
  refine lv_iconst (v := 0) hx hb dL_ifDrawn_23 (by decide) ?_
  have hP9 : va_P D vwCl ((out, .inl (KL, 1, .inr (.inl (vp_updL ofn ((0 : Int32).toNatClampNeg) r_1.toInt64)))) :: (WW a K KS st hs sc1v_2)) H := k_subP (wp := [(out, .inl (KL, 1, .inr (.inl (vp_updL ofn ((0 : Int32).toNatClampNeg) r_1.toInt64))))]) (wp' := [(out, .inl (KL, 1, .inr (.inl (vp_updL ofn ((0 : Int32).toNatClampNeg) r_1.toInt64))))]) (T := (WW a K KS st hs sc1v_2)) hP [0] rfl
  have hD9 : va_D A ((out, .inl (KL, 1, .inr (.inl (vp_updL ofn ((0 : Int32).toNatClampNeg) r_1.toInt64)))) :: (WW a K KS st hs sc1v_2)) := k_subD (wp := [(out, .inl (KL, 1, .inr (.inl (vp_updL ofn ((0 : Int32).toNatClampNeg) r_1.toInt64))))]) (wp' := [(out, .inl (KL, 1, .inr (.inl (vp_updL ofn ((0 : Int32).toNatClampNeg) r_1.toInt64))))]) (T := (WW a K KS st hs sc1v_2)) hD [0] (by decide) rfl
  have hP9 : va_P D vwCl ((out, .inl (KL, 1, .inr (.inl (vp_updL ofn ((0 : Int32).toNatClampNeg) r_1.toInt64)))) :: (WW a K KS st hs sc1v_2)) H := hP9
  have hD9 : va_D A ((out, .inl (KL, 1, .inr (.inl (vp_updL ofn ((0 : Int32).toNatClampNeg) r_1.toInt64)))) :: (WW a K KS st hs sc1v_2)) := hD9
  have hK9 : va_K D vwCl [] s := hK.sub [] rfl
  exact W.iret (v := 0) hx hb hr (fun t ht9 hW9 => ⟨⟨0, (sc1v_2, (vp_updL ofn ((0 : Int32).toNatClampNeg) r_1.toInt64), r_1), rfl, by (exact ⟨rfl, hw_3, pk_uLs⟩), ⟨by rw [ht9]; exact hP9, va_K.moved hW9.alike hK9, hD9⟩⟩, hS.F ht9⟩) hS.2.2 dL_ifDrawn_24
set_option maxHeartbeats 4000000 in
set_option maxRecDepth 100000 in
theorem c_L_greatest (l : Launch) (D : va_G) (a : Nat → Nat) (K : ClassId) (KS : ClassId) (st : ST) (hs : HT) (sc : SCT) (en : Nat) (out : Nat) (KL : ClassId) (ofn : Nat → Int64) (hbst : bST st) (hen : en < s_ns st) (sz : Nat) : k_Wi (S := SCT × (Nat → Int64) × Int32) l D yL_greatestSmudge cL_greatestSmudge 4 (some .int) [(0, 9, 12, 18)] 6 0 0 141 [.ref (a 0), .int (nI en), .ref out] ((out, .inl (KL, 1, .inr (.inl ofn))) :: (WW a K KS st hs sc)) [(K, .int), (KS, .object "BarcodeWand$State"), (KL, .long)] (fun (r : Int32) (u : SCT × (Nat → Int64) × Int32) => match u with | (sc1, og, rv) => r = 0 ∧ (GS st en rv) ∧ og 0 = rv.toInt64) (fun u => match u with | (sc1, og, rv) => ((out, .inl (KL, 1, .inr (.inl og))) :: (WW a K KS st hs sc1))) (fun u => match u with | (sc1, og, rv) => []) sz := by
  refine va_MetW (cc := cL_greatestSmudge) (maxL := 4) (ret := (some .int)) (hh := [(0, 9, 12, 18)]) (by decide) rfl ?_
  intro p e s m args below meth c s₁ B hml hv
  obtain ⟨rfl, hsz, hP, hK, hD0, hG⟩ := hv
  have hx := B.exec
  have hb := B.bytes
  have hr := B.returns
  have ht : ∀ v9 ∈ wsA, v9.before ([.ref (a 0), .int (nI en), .ref out] : List Value).toArray s = true := fun v9 h9 => atoms_spec (ws := Cond.codeWith yL_greatestSmudge cL_greatestSmudge 4 (some .int) [(0, 9, 12, 18)] :: wsA) B.pre v9 (List.mem_cons_of_mem _ h9)
  have htab : c.exceptionTable.toList = tableOf [(0, 9, 12, 18)] := vx_table (x := yL_greatestSmudge) B (atoms_spec (ws := Cond.codeWith yL_greatestSmudge cL_greatestSmudge 4 (some .int) [(0, 9, 12, 18)] :: wsA) B.pre _ List.mem_cons_self)
  have hown : s.vm.findClass RL = some m.cls := findClass_of_methodNamed B.named
  have S0 : k_C p s m ([.ref (a 0), .int (nI en), .ref out] : List Value).toArray c cL_greatestSmudge 4 RL := ⟨hx, hb, hml, hown, ht⟩
  have hlocks := B.notSynchronized
  subst hsz
  have hD := hD0.self (sz := s.heap.size)
  generalize hAe : va_A ((out, .inl (KL, 1, .inr (.inl ofn))) :: (WW a K KS st hs sc)) s.heap.size = A at hD hG ⊢
  have hA : ∀ q : Nat, s.heap.size ≤ q → A q := fun q h => by rw [← hAe]; exact Or.inr h
  have hS : va_S A s.heap s.heap [] := va_S.rf
  have hl := lv_entry ([.ref (a 0), .int (nI en), .ref out]) (n := 4) (Nat.le_of_ble_eq_true rfl)
  rw [lg_entry_eq]
  generalize (lg_sl ([.ref (a 0), .int (nI en), .ref out]) ++ List.replicate (4 - (lg_sl ([.ref (a 0), .int (nI en), .ref out])).length) Slot.unset).toArray = ls at hl ⊢
  have hl : lv_has ls 4 [(0, .ref (a 0)), (1, .int (nI en)), (2, .ref out)] := hl
  have hP : va_P D vwCl ((out, .inl (KL, 1, .inr (.inl ofn))) :: (WW a K KS st hs sc)) s.heap := hP
  refine lv_aload_n hx hb dL_greatestSmudge_0 rfl (lv_at hl 2 rfl) ?_
  refine lv_iconst (v := 0) hx hb dL_greatestSmudge_1 (by decide) ?_
  refine lv_aload_n hx hb dL_greatestSmudge_2 rfl (lv_at hl 0 rfl) ?_
  refine lv_iload_n hx hb dL_greatestSmudge_3 rfl (lv_at hl 1 rfl) ?_
  have ct := k_cut_TT (wp := [(out, .inl (KL, 1, .inr (.inl ofn)))]) (T := (WW a K KS st hs sc)) (wc := []) (wr := [(out, .inl (KL, 1, .inr (.inl ofn)))]) (tc := [(K, .int), (KS, .object "BarcodeWand$State")]) hG hS hA hK hP hD [] [0] [0, 1] rfl rfl (by decide) (by decide) (by decide) rfl
  refine k_endi (As := [.ref (a 0), .int (nI en)]) ct (k_runV (As := [.int (nI en)]) (rest := [.int 0, .ref out]) S0 Lv_L_60 rfl (ci := 7) (q0 := 0) rfl (WW_0 a K KS st hs sc) ct (c_B_greatest l D a K KS st hs sc en (by assumption) (by assumption) s.heap.size) hl.1 rfl (Nat.le_of_ble_eq_true rfl) rfl dL_greatestSmudge_4 ⟨⟨Nat.le_of_ble_eq_true rfl, Nat.le_of_ble_eq_true rfl⟩, Nat.le_of_ble_eq_true rfl, Nat.le_of_ble_eq_true rfl⟩) rfl rfl (fun r_1 sc1v_2 H locs hw_3 hP hD hK hS => ?_)
  have hK : va_K D vwCl [(K, .int), (KS, .object "BarcodeWand$State"), (KL, .long)] s := hK
  have hP : va_P D vwCl ((out, .inl (KL, 1, .inr (.inl ofn))) :: (WW a K KS st hs sc1v_2)) H := hP
  have hD : va_D A ((out, .inl (KL, 1, .inr (.inl ofn))) :: (WW a K KS st hs sc1v_2)) := hD
  have hw_3 : GS st en r_1 := hw_3
  refine lv_i2l (v := r_1.toInt64) hx hb dL_greatestSmudge_7 rfl ?_
  refine va_last hx hb hK hP hD hS 0 2 rfl rfl (by unfold vp_in; decide) dL_greatestSmudge_8 (fun H locs hP hD hS => ?_)
  have hP : va_P D vwCl ((out, .inl (KL, 1, .inr (.inl (vp_updL ofn ((0 : Int32).toNatClampNeg) r_1.toInt64)))) :: (WW a K KS st hs sc1v_2)) H := hP
  have hD : va_D A ((out, .inl (KL, 1, .inr (.inl (vp_updL ofn ((0 : Int32).toNatClampNeg) r_1.toInt64)))) :: (WW a K KS st hs sc1v_2)) := hD
  refine lv_goto (tgt := 15) hx hb dL_greatestSmudge_9 (by decide) ?_
  refine lv_iconst (v := 0) hx hb dL_greatestSmudge_15 (by decide) ?_
  have hP9 : va_P D vwCl ((out, .inl (KL, 1, .inr (.inl (vp_updL ofn ((0 : Int32).toNatClampNeg) r_1.toInt64)))) :: (WW a K KS st hs sc1v_2)) H := k_subP (wp := [(out, .inl (KL, 1, .inr (.inl (vp_updL ofn ((0 : Int32).toNatClampNeg) r_1.toInt64))))]) (wp' := [(out, .inl (KL, 1, .inr (.inl (vp_updL ofn ((0 : Int32).toNatClampNeg) r_1.toInt64))))]) (T := (WW a K KS st hs sc1v_2)) hP [0] rfl
  have hD9 : va_D A ((out, .inl (KL, 1, .inr (.inl (vp_updL ofn ((0 : Int32).toNatClampNeg) r_1.toInt64)))) :: (WW a K KS st hs sc1v_2)) := k_subD (wp := [(out, .inl (KL, 1, .inr (.inl (vp_updL ofn ((0 : Int32).toNatClampNeg) r_1.toInt64))))]) (wp' := [(out, .inl (KL, 1, .inr (.inl (vp_updL ofn ((0 : Int32).toNatClampNeg) r_1.toInt64))))]) (T := (WW a K KS st hs sc1v_2)) hD [0] (by decide) rfl
  have hP9 : va_P D vwCl ((out, .inl (KL, 1, .inr (.inl (vp_updL ofn ((0 : Int32).toNatClampNeg) r_1.toInt64)))) :: (WW a K KS st hs sc1v_2)) H := hP9
  have hD9 : va_D A ((out, .inl (KL, 1, .inr (.inl (vp_updL ofn ((0 : Int32).toNatClampNeg) r_1.toInt64)))) :: (WW a K KS st hs sc1v_2)) := hD9
  have hK9 : va_K D vwCl [] s := hK.sub [] rfl
  exact W.iret (v := 0) hx hb hr (fun t ht9 hW9 => ⟨⟨0, (sc1v_2, (vp_updL ofn ((0 : Int32).toNatClampNeg) r_1.toInt64), r_1), rfl, by (exact ⟨rfl, hw_3, pk_uLs⟩), ⟨by rw [ht9]; exact hP9, va_K.moved hW9.alike hK9, hD9⟩⟩, hS.F ht9⟩) hS.2.2 dL_greatestSmudge_16
set_option maxHeartbeats 4000000 in
set_option maxRecDepth 100000 in
theorem c_L_append (l : Launch) (D : va_G) (a : Nat → Nat) (K : ClassId) (KS : ClassId) (st : ST) (hs : HT) (sc : SCT) (ty : Nat) (bf : Nat → Int32) (cx : Int32) (out : Nat) (KL : ClassId) (ofn : Nat → Int64) (hx1 : ¬ cx < 33) (hx2 : cx ≤ 126) (h60 : ty < 60) (sz : Nat) : k_Wi (S := (Nat → Int64) × Int32) l D yL_append cL_append 4 (some .int) [(0, 9, 12, 13), (0, 9, 15, 31)] 2 0 0 42 [.ref (a 0), .int cx, .ref out] ((out, .inl (KL, 1, .inr (.inl ofn))) :: ((a 25), .inr (4, [.ref (a 26), .int (nI ty)])) :: ((a 26), .inl (K, 60, .inl bf)) :: (WW a K KS st hs sc)) [(K, .int), (KS, .object "BarcodeWand$State"), (KL, .long)] (fun (r : Int32) (u : (Nat → Int64) × Int32) => match u with | (og, rv) => r = 0 ∧ rv = (nI (ty + 1)) ∧ og 0 = rv.toInt64) (fun u => match u with | (og, rv) => ((out, .inl (KL, 1, .inr (.inl og))) :: ((a 25), .inr (4, [.ref (a 26), .int (nI (ty + 1))])) :: ((a 26), .inl (K, 60, .inl (upd bf ty cx))) :: (WW a K KS st hs sc))) (fun u => match u with | (og, rv) => []) sz := by
  refine va_MetW (cc := cL_append) (maxL := 4) (ret := (some .int)) (hh := [(0, 9, 12, 13), (0, 9, 15, 31)]) (by decide) rfl ?_
  intro p e s m args below meth c s₁ B hml hv
  obtain ⟨rfl, hsz, hP, hK, hD0, hG⟩ := hv
  have hx := B.exec
  have hb := B.bytes
  have hr := B.returns
  have ht : ∀ v9 ∈ wsA, v9.before ([.ref (a 0), .int cx, .ref out] : List Value).toArray s = true := fun v9 h9 => atoms_spec (ws := Cond.codeWith yL_append cL_append 4 (some .int) [(0, 9, 12, 13), (0, 9, 15, 31)] :: wsA) B.pre v9 (List.mem_cons_of_mem _ h9)
  have htab : c.exceptionTable.toList = tableOf [(0, 9, 12, 13), (0, 9, 15, 31)] := vx_table (x := yL_append) B (atoms_spec (ws := Cond.codeWith yL_append cL_append 4 (some .int) [(0, 9, 12, 13), (0, 9, 15, 31)] :: wsA) B.pre _ List.mem_cons_self)
  have hown : s.vm.findClass RL = some m.cls := findClass_of_methodNamed B.named
  have S0 : k_C p s m ([.ref (a 0), .int cx, .ref out] : List Value).toArray c cL_append 4 RL := ⟨hx, hb, hml, hown, ht⟩
  have hlocks := B.notSynchronized
  subst hsz
  have hD := hD0.self (sz := s.heap.size)
  generalize hAe : va_A ((out, .inl (KL, 1, .inr (.inl ofn))) :: ((a 25), .inr (4, [.ref (a 26), .int (nI ty)])) :: ((a 26), .inl (K, 60, .inl bf)) :: (WW a K KS st hs sc)) s.heap.size = A at hD hG ⊢
  have hA : ∀ q : Nat, s.heap.size ≤ q → A q := fun q h => by rw [← hAe]; exact Or.inr h
  have hS : va_S A s.heap s.heap [] := va_S.rf
  have hl := lv_entry ([.ref (a 0), .int cx, .ref out]) (n := 4) (Nat.le_of_ble_eq_true rfl)
  rw [lg_entry_eq]
  generalize (lg_sl ([.ref (a 0), .int cx, .ref out]) ++ List.replicate (4 - (lg_sl ([.ref (a 0), .int cx, .ref out])).length) Slot.unset).toArray = ls at hl ⊢
  have hl : lv_has ls 4 [(0, .ref (a 0)), (1, .int cx), (2, .ref out)] := hl
  have hP : va_P D vwCl ((out, .inl (KL, 1, .inr (.inl ofn))) :: ((a 25), .inr (4, [.ref (a 26), .int (nI ty)])) :: ((a 26), .inl (K, 60, .inl bf)) :: (WW a K KS st hs sc)) s.heap := hP
  refine lv_aload_n hx hb dL_append_0 rfl (lv_at hl 2 rfl) ?_
  refine lv_iconst (v := 0) hx hb dL_append_1 (by decide) ?_
  refine lv_aload_n hx hb dL_append_2 rfl (lv_at hl 0 rfl) ?_
  refine lv_iload_n hx hb dL_append_3 rfl (lv_at hl 1 rfl) ?_
  have ct := k_cut_TT (wp := [(out, .inl (KL, 1, .inr (.inl ofn))), ((a 25), .inr (4, [.ref (a 26), .int (nI ty)])), ((a 26), .inl (K, 60, .inl bf))]) (T := (WW a K KS st hs sc)) (wc := [((a 25), .inr (4, [.ref (a 26), .int (nI ty)])), ((a 26), .inl (K, 60, .inl bf))]) (wr := [(out, .inl (KL, 1, .inr (.inl ofn)))]) (tc := [(K, .int), (KS, .object "BarcodeWand$State")]) hG hS hA hK hP hD [1, 2] [0] [0, 1] rfl rfl (by decide) (by decide) (by decide) rfl
  refine k_endi (As := [.ref (a 0), .int cx]) ct (k_runV (As := [.int cx]) (rest := [.int 0, .ref out]) S0 Lv_L_63 rfl (ci := 7) (q0 := 2) rfl (WW_0 a K KS st hs sc) ct (c_B_append l D a K KS st hs sc ty bf cx (by assumption) (by assumption) (by assumption) s.heap.size) hl.1 rfl (Nat.le_of_ble_eq_true rfl) rfl dL_append_4 ⟨⟨Nat.le_of_ble_eq_true rfl, Nat.le_of_ble_eq_true rfl⟩, Nat.le_of_ble_eq_true rfl, Nat.le_of_ble_eq_true rfl⟩) rfl rfl (fun r_1 _ H locs hw_2 hP hD hK hS => ?_)
  have hK : va_K D vwCl [(K, .int), (KS, .object "BarcodeWand$State"), (KL, .long)] s := hK
  have hP : va_P D vwCl ((out, .inl (KL, 1, .inr (.inl ofn))) :: ((a 25), .inr (4, [.ref (a 26), .int (nI (ty + 1))])) :: ((a 26), .inl (K, 60, .inl (upd bf ty cx))) :: (WW a K KS st hs sc)) H := hP
  have hD : va_D A ((out, .inl (KL, 1, .inr (.inl ofn))) :: ((a 25), .inr (4, [.ref (a 26), .int (nI (ty + 1))])) :: ((a 26), .inl (K, 60, .inl (upd bf ty cx))) :: (WW a K KS st hs sc)) := hD
  have hw_2 : r_1 = (nI (ty + 1)) := hw_2
  have hw_2 := hw_2.symm
  subst hw_2
  refine k_nrm (y := (nI (ty + 1))) rfl ?_
  refine lv_i2l (v := (nI (ty + 1)).toInt64) hx hb dL_append_7 rfl ?_
  refine va_last hx hb hK hP hD hS 0 2 rfl rfl (by unfold vp_in; decide) dL_append_8 (fun H locs hP hD hS => ?_)
  have hP : va_P D vwCl ((out, .inl (KL, 1, .inr (.inl (vp_updL ofn ((0 : Int32).toNatClampNeg) ((nI (ty + 1)).toInt64))))) :: ((a 25), .inr (4, [.ref (a 26), .int (nI (ty + 1))])) :: ((a 26), .inl (K, 60, .inl (upd bf ty cx))) :: (WW a K KS st hs sc)) H := hP
  have hD : va_D A ((out, .inl (KL, 1, .inr (.inl (vp_updL ofn ((0 : Int32).toNatClampNeg) ((nI (ty + 1)).toInt64))))) :: ((a 25), .inr (4, [.ref (a 26), .int (nI (ty + 1))])) :: ((a 26), .inl (K, 60, .inl (upd bf ty cx))) :: (WW a K KS st hs sc)) := hD
  refine lv_goto (tgt := 18) hx hb dL_append_9 (by decide) ?_
  refine lv_iconst (v := 0) hx hb dL_append_18 (by decide) ?_
  have hP9 : va_P D vwCl ((out, .inl (KL, 1, .inr (.inl (vp_updL ofn ((0 : Int32).toNatClampNeg) ((nI (ty + 1)).toInt64))))) :: ((a 25), .inr (4, [.ref (a 26), .int (nI (ty + 1))])) :: ((a 26), .inl (K, 60, .inl (upd bf ty cx))) :: (WW a K KS st hs sc)) H := k_subP (wp := [(out, .inl (KL, 1, .inr (.inl (vp_updL ofn ((0 : Int32).toNatClampNeg) ((nI (ty + 1)).toInt64))))), ((a 25), .inr (4, [.ref (a 26), .int (nI (ty + 1))])), ((a 26), .inl (K, 60, .inl (upd bf ty cx)))]) (wp' := [(out, .inl (KL, 1, .inr (.inl (vp_updL ofn ((0 : Int32).toNatClampNeg) ((nI (ty + 1)).toInt64))))), ((a 25), .inr (4, [.ref (a 26), .int (nI (ty + 1))])), ((a 26), .inl (K, 60, .inl (upd bf ty cx)))]) (T := (WW a K KS st hs sc)) hP [0, 1, 2] rfl
  have hD9 : va_D A ((out, .inl (KL, 1, .inr (.inl (vp_updL ofn ((0 : Int32).toNatClampNeg) ((nI (ty + 1)).toInt64))))) :: ((a 25), .inr (4, [.ref (a 26), .int (nI (ty + 1))])) :: ((a 26), .inl (K, 60, .inl (upd bf ty cx))) :: (WW a K KS st hs sc)) := k_subD (wp := [(out, .inl (KL, 1, .inr (.inl (vp_updL ofn ((0 : Int32).toNatClampNeg) ((nI (ty + 1)).toInt64))))), ((a 25), .inr (4, [.ref (a 26), .int (nI (ty + 1))])), ((a 26), .inl (K, 60, .inl (upd bf ty cx)))]) (wp' := [(out, .inl (KL, 1, .inr (.inl (vp_updL ofn ((0 : Int32).toNatClampNeg) ((nI (ty + 1)).toInt64))))), ((a 25), .inr (4, [.ref (a 26), .int (nI (ty + 1))])), ((a 26), .inl (K, 60, .inl (upd bf ty cx)))]) (T := (WW a K KS st hs sc)) hD [0, 1, 2] (by decide) rfl
  have hP9 : va_P D vwCl ((out, .inl (KL, 1, .inr (.inl (vp_updL ofn ((0 : Int32).toNatClampNeg) ((nI (ty + 1)).toInt64))))) :: ((a 25), .inr (4, [.ref (a 26), .int (nI (ty + 1))])) :: ((a 26), .inl (K, 60, .inl (upd bf ty cx))) :: (WW a K KS st hs sc)) H := hP9
  have hD9 : va_D A ((out, .inl (KL, 1, .inr (.inl (vp_updL ofn ((0 : Int32).toNatClampNeg) ((nI (ty + 1)).toInt64))))) :: ((a 25), .inr (4, [.ref (a 26), .int (nI (ty + 1))])) :: ((a 26), .inl (K, 60, .inl (upd bf ty cx))) :: (WW a K KS st hs sc)) := hD9
  have hK9 : va_K D vwCl [] s := hK.sub [] rfl
  exact W.iret (v := 0) hx hb hr (fun t ht9 hW9 => ⟨⟨0, ((vp_updL ofn ((0 : Int32).toNatClampNeg) ((nI (ty + 1)).toInt64)), (nI (ty + 1))), rfl, by (exact ⟨rfl, rfl, pk_uLs⟩), ⟨by rw [ht9]; exact hP9, va_K.moved hW9.alike hK9, hD9⟩⟩, hS.F ht9⟩) hS.2.2 dL_append_19
set_option maxHeartbeats 4000000 in
set_option maxRecDepth 100000 in
theorem c_L_run (l : Launch) (D : va_G) (a : Nat → Nat) (K : ClassId) (KS : ClassId) (st : ST) (hs : HT) (sc : SCT) (ty : Nat) (bf : Nat → Int32) (pk : Int32) (pf : Int32) (ps : Int32) (pn : Int32) (pp : Int32) (pm : Int32) (out : Nat) (KL : ClassId) (ofn : Nat → Int64) (hbst : bST st) (hh : okH hs) (hty : ty ≤ 60) (hm : pm = 0 ∨ pm = 1) (hco : COM bf ty g0) (sz : Nat) : k_Wi (S := ST × SCT × Int32 × Int32 × Int32 × Int32 × Int32 × Int32 × (Nat → Int64) × Int32) l D yL_run cL_run 3 (some .int) [(0, 8, 11, 13)] 7 0 0 167 [.ref (a 0), .ref out] ((out, .inl (KL, 1, .inr (.inl ofn))) :: ((a 25), .inr (4, [.ref (a 26), .int (nI ty)])) :: ((a 26), .inl (K, 60, .inl bf)) :: ((a 27), .inr (1, [.int pk, .int pf, .int ps, .int pn, .int pp, .int pm])) :: (WW a K KS st hs sc)) [(K, .int), (KS, .object "BarcodeWand$State"), (KL, .long)] (fun (r : Int32) (u : ST × SCT × Int32 × Int32 × Int32 × Int32 × Int32 × Int32 × (Nat → Int64) × Int32) => match u with | (st1, sc1, k1, f1, s1, n1, p1, m1, og, rv) => r = 0 ∧ (RUN bf ty st rv st1 ∧ m01 (k1, f1, s1, n1, p1, m1)) ∧ og 0 = rv.toInt64) (fun u => match u with | (st1, sc1, k1, f1, s1, n1, p1, m1, og, rv) => ((out, .inl (KL, 1, .inr (.inl og))) :: ((a 25), .inr (4, [.ref (a 26), .int (nI 0)])) :: ((a 26), .inl (K, 60, .inl bf)) :: ((a 27), .inr (1, [.int k1, .int f1, .int s1, .int n1, .int p1, .int m1])) :: (WW a K KS st1 (svH hs st) sc1))) (fun u => match u with | (st1, sc1, k1, f1, s1, n1, p1, m1, og, rv) => []) sz := by
  refine va_MetW (cc := cL_run) (maxL := 3) (ret := (some .int)) (hh := [(0, 8, 11, 13)]) (by decide) rfl ?_
  intro p e s m args below meth c s₁ B hml hv
  obtain ⟨rfl, hsz, hP, hK, hD0, hG⟩ := hv
  have hx := B.exec
  have hb := B.bytes
  have hr := B.returns
  have ht : ∀ v9 ∈ wsA, v9.before ([.ref (a 0), .ref out] : List Value).toArray s = true := fun v9 h9 => atoms_spec (ws := Cond.codeWith yL_run cL_run 3 (some .int) [(0, 8, 11, 13)] :: wsA) B.pre v9 (List.mem_cons_of_mem _ h9)
  have htab : c.exceptionTable.toList = tableOf [(0, 8, 11, 13)] := vx_table (x := yL_run) B (atoms_spec (ws := Cond.codeWith yL_run cL_run 3 (some .int) [(0, 8, 11, 13)] :: wsA) B.pre _ List.mem_cons_self)
  have hown : s.vm.findClass RL = some m.cls := findClass_of_methodNamed B.named
  have S0 : k_C p s m ([.ref (a 0), .ref out] : List Value).toArray c cL_run 3 RL := ⟨hx, hb, hml, hown, ht⟩
  have hlocks := B.notSynchronized
  subst hsz
  have hD := hD0.self (sz := s.heap.size)
  generalize hAe : va_A ((out, .inl (KL, 1, .inr (.inl ofn))) :: ((a 25), .inr (4, [.ref (a 26), .int (nI ty)])) :: ((a 26), .inl (K, 60, .inl bf)) :: ((a 27), .inr (1, [.int pk, .int pf, .int ps, .int pn, .int pp, .int pm])) :: (WW a K KS st hs sc)) s.heap.size = A at hD hG ⊢
  have hA : ∀ q : Nat, s.heap.size ≤ q → A q := fun q h => by rw [← hAe]; exact Or.inr h
  have hS : va_S A s.heap s.heap [] := va_S.rf
  have hl := lv_entry ([.ref (a 0), .ref out]) (n := 3) (Nat.le_of_ble_eq_true rfl)
  rw [lg_entry_eq]
  generalize (lg_sl ([.ref (a 0), .ref out]) ++ List.replicate (3 - (lg_sl ([.ref (a 0), .ref out])).length) Slot.unset).toArray = ls at hl ⊢
  have hl : lv_has ls 3 [(0, .ref (a 0)), (1, .ref out)] := hl
  have hP : va_P D vwCl ((out, .inl (KL, 1, .inr (.inl ofn))) :: ((a 25), .inr (4, [.ref (a 26), .int (nI ty)])) :: ((a 26), .inl (K, 60, .inl bf)) :: ((a 27), .inr (1, [.int pk, .int pf, .int ps, .int pn, .int pp, .int pm])) :: (WW a K KS st hs sc)) s.heap := hP
  refine lv_aload_n hx hb dL_run_0 rfl (lv_at hl 1 rfl) ?_
  refine lv_iconst (v := 0) hx hb dL_run_1 (by decide) ?_
  refine lv_aload_n hx hb dL_run_2 rfl (lv_at hl 0 rfl) ?_
  have ct := k_cut_TT (wp := [(out, .inl (KL, 1, .inr (.inl ofn))), ((a 25), .inr (4, [.ref (a 26), .int (nI ty)])), ((a 26), .inl (K, 60, .inl bf)), ((a 27), .inr (1, [.int pk, .int pf, .int ps, .int pn, .int pp, .int pm]))]) (T := (WW a K KS st hs sc)) (wc := [((a 25), .inr (4, [.ref (a 26), .int (nI ty)])), ((a 26), .inl (K, 60, .inl bf)), ((a 27), .inr (1, [.int pk, .int pf, .int ps, .int pn, .int pp, .int pm]))]) (wr := [(out, .inl (KL, 1, .inr (.inl ofn)))]) (tc := [(K, .int), (KS, .object "BarcodeWand$State")]) hG hS hA hK hP hD [1, 2, 3] [0] [0, 1] rfl rfl (by decide) (by decide) (by decide) rfl
  refine k_endi (As := [.ref (a 0)]) ct (k_runV (As := []) (rest := [.int 0, .ref out]) S0 Lv_L_66 rfl (ci := 7) (q0 := 3) rfl (WW_0 a K KS st hs sc) ct (c_B_run l D a K KS st hs sc ty bf pk pf ps pn pp pm (by assumption) (by assumption) (by first | assumption | omega) (by assumption) (by assumption) s.heap.size) hl.1 rfl (Nat.le_of_ble_eq_true rfl) rfl dL_run_3 ⟨⟨Nat.le_of_ble_eq_true rfl, Nat.le_of_ble_eq_true rfl⟩, Nat.le_of_ble_eq_true rfl, Nat.le_of_ble_eq_true rfl⟩) rfl rfl (fun r_1 u H locs hw_10 hP hD hK hS => ?_)
  obtain ⟨st1v_2, sc1v_3, k1v_4, f1v_5, s1v_6, n1v_7, p1v_8, m1v_9⟩ := u
  have hK : va_K D vwCl [(K, .int), (KS, .object "BarcodeWand$State"), (KL, .long)] s := hK
  have hP : va_P D vwCl ((out, .inl (KL, 1, .inr (.inl ofn))) :: ((a 25), .inr (4, [.ref (a 26), .int (nI 0)])) :: ((a 26), .inl (K, 60, .inl bf)) :: ((a 27), .inr (1, [.int k1v_4, .int f1v_5, .int s1v_6, .int n1v_7, .int p1v_8, .int m1v_9])) :: (WW a K KS st1v_2 (svH hs st) sc1v_3)) H := hP
  have hD : va_D A ((out, .inl (KL, 1, .inr (.inl ofn))) :: ((a 25), .inr (4, [.ref (a 26), .int (nI 0)])) :: ((a 26), .inl (K, 60, .inl bf)) :: ((a 27), .inr (1, [.int k1v_4, .int f1v_5, .int s1v_6, .int n1v_7, .int p1v_8, .int m1v_9])) :: (WW a K KS st1v_2 (svH hs st) sc1v_3)) := hD
  have hw_10 : RUN bf ty st r_1 st1v_2 ∧ m01 (k1v_4, f1v_5, s1v_6, n1v_7, p1v_8, m1v_9) := hw_10
  refine lv_i2l (v := r_1.toInt64) hx hb dL_run_6 rfl ?_
  refine va_last hx hb hK hP hD hS 0 2 rfl rfl (by unfold vp_in; decide) dL_run_7 (fun H locs hP hD hS => ?_)
  have hP : va_P D vwCl ((out, .inl (KL, 1, .inr (.inl (vp_updL ofn ((0 : Int32).toNatClampNeg) r_1.toInt64)))) :: ((a 25), .inr (4, [.ref (a 26), .int (nI 0)])) :: ((a 26), .inl (K, 60, .inl bf)) :: ((a 27), .inr (1, [.int k1v_4, .int f1v_5, .int s1v_6, .int n1v_7, .int p1v_8, .int m1v_9])) :: (WW a K KS st1v_2 (svH hs st) sc1v_3)) H := hP
  have hD : va_D A ((out, .inl (KL, 1, .inr (.inl (vp_updL ofn ((0 : Int32).toNatClampNeg) r_1.toInt64)))) :: ((a 25), .inr (4, [.ref (a 26), .int (nI 0)])) :: ((a 26), .inl (K, 60, .inl bf)) :: ((a 27), .inr (1, [.int k1v_4, .int f1v_5, .int s1v_6, .int n1v_7, .int p1v_8, .int m1v_9])) :: (WW a K KS st1v_2 (svH hs st) sc1v_3)) := hD
  refine lv_goto (tgt := 14) hx hb dL_run_8 (by decide) ?_
  refine lv_iconst (v := 0) hx hb dL_run_14 (by decide) ?_
  have hP9 : va_P D vwCl ((out, .inl (KL, 1, .inr (.inl (vp_updL ofn ((0 : Int32).toNatClampNeg) r_1.toInt64)))) :: ((a 25), .inr (4, [.ref (a 26), .int (nI 0)])) :: ((a 26), .inl (K, 60, .inl bf)) :: ((a 27), .inr (1, [.int k1v_4, .int f1v_5, .int s1v_6, .int n1v_7, .int p1v_8, .int m1v_9])) :: (WW a K KS st1v_2 (svH hs st) sc1v_3)) H := k_subP (wp := [(out, .inl (KL, 1, .inr (.inl (vp_updL ofn ((0 : Int32).toNatClampNeg) r_1.toInt64)))), ((a 25), .inr (4, [.ref (a 26), .int (nI 0)])), ((a 26), .inl (K, 60, .inl bf)), ((a 27), .inr (1, [.int k1v_4, .int f1v_5, .int s1v_6, .int n1v_7, .int p1v_8, .int m1v_9]))]) (wp' := [(out, .inl (KL, 1, .inr (.inl (vp_updL ofn ((0 : Int32).toNatClampNeg) r_1.toInt64)))), ((a 25), .inr (4, [.ref (a 26), .int (nI 0)])), ((a 26), .inl (K, 60, .inl bf)), ((a 27), .inr (1, [.int k1v_4, .int f1v_5, .int s1v_6, .int n1v_7, .int p1v_8, .int m1v_9]))]) (T := (WW a K KS st1v_2 (svH hs st) sc1v_3)) hP [0, 1, 2, 3] rfl
  have hD9 : va_D A ((out, .inl (KL, 1, .inr (.inl (vp_updL ofn ((0 : Int32).toNatClampNeg) r_1.toInt64)))) :: ((a 25), .inr (4, [.ref (a 26), .int (nI 0)])) :: ((a 26), .inl (K, 60, .inl bf)) :: ((a 27), .inr (1, [.int k1v_4, .int f1v_5, .int s1v_6, .int n1v_7, .int p1v_8, .int m1v_9])) :: (WW a K KS st1v_2 (svH hs st) sc1v_3)) := k_subD (wp := [(out, .inl (KL, 1, .inr (.inl (vp_updL ofn ((0 : Int32).toNatClampNeg) r_1.toInt64)))), ((a 25), .inr (4, [.ref (a 26), .int (nI 0)])), ((a 26), .inl (K, 60, .inl bf)), ((a 27), .inr (1, [.int k1v_4, .int f1v_5, .int s1v_6, .int n1v_7, .int p1v_8, .int m1v_9]))]) (wp' := [(out, .inl (KL, 1, .inr (.inl (vp_updL ofn ((0 : Int32).toNatClampNeg) r_1.toInt64)))), ((a 25), .inr (4, [.ref (a 26), .int (nI 0)])), ((a 26), .inl (K, 60, .inl bf)), ((a 27), .inr (1, [.int k1v_4, .int f1v_5, .int s1v_6, .int n1v_7, .int p1v_8, .int m1v_9]))]) (T := (WW a K KS st1v_2 (svH hs st) sc1v_3)) hD [0, 1, 2, 3] (by decide) rfl
  have hP9 : va_P D vwCl ((out, .inl (KL, 1, .inr (.inl (vp_updL ofn ((0 : Int32).toNatClampNeg) r_1.toInt64)))) :: ((a 25), .inr (4, [.ref (a 26), .int (nI 0)])) :: ((a 26), .inl (K, 60, .inl bf)) :: ((a 27), .inr (1, [.int k1v_4, .int f1v_5, .int s1v_6, .int n1v_7, .int p1v_8, .int m1v_9])) :: (WW a K KS st1v_2 (svH hs st) sc1v_3)) H := hP9
  have hD9 : va_D A ((out, .inl (KL, 1, .inr (.inl (vp_updL ofn ((0 : Int32).toNatClampNeg) r_1.toInt64)))) :: ((a 25), .inr (4, [.ref (a 26), .int (nI 0)])) :: ((a 26), .inl (K, 60, .inl bf)) :: ((a 27), .inr (1, [.int k1v_4, .int f1v_5, .int s1v_6, .int n1v_7, .int p1v_8, .int m1v_9])) :: (WW a K KS st1v_2 (svH hs st) sc1v_3)) := hD9
  have hK9 : va_K D vwCl [] s := hK.sub [] rfl
  exact W.iret (v := 0) hx hb hr (fun t ht9 hW9 => ⟨⟨0, (st1v_2, sc1v_3, k1v_4, f1v_5, s1v_6, n1v_7, p1v_8, m1v_9, (vp_updL ofn ((0 : Int32).toNatClampNeg) r_1.toInt64), r_1), rfl, by (exact ⟨rfl, hw_10, pk_uLs⟩), ⟨by rw [ht9]; exact hP9, va_K.moved hW9.alike hK9, hD9⟩⟩, hS.F ht9⟩) hS.2.2 dL_run_15
set_option maxHeartbeats 4000000 in
set_option maxRecDepth 100000 in
theorem c_L_undo (l : Launch) (D : va_G) (a : Nat → Nat) (K : ClassId) (KS : ClassId) (st : ST) (hs : HT) (sc : SCT) (out : Nat) (KL : ClassId) (ofn : Nat → Int64) (hbst : bST st) (hh : okH hs) (hk0 : 1 ≤ h_kp hs) (sz : Nat) : k_Wi (S := ST × (Nat → Int64) × Int32) l D yL_undo cL_undo 3 (some .int) [(0, 8, 11, 31)] 7 0 0 147 [.ref (a 0), .ref out] ((out, .inl (KL, 1, .inr (.inl ofn))) :: (WW a K KS st hs sc)) [(K, .int), (KS, .object "BarcodeWand$State"), (KL, .long)] (fun (r : Int32) (u : ST × (Nat → Int64) × Int32) => match u with | (st1, og, rv) => r = 0 ∧ rv = (nI (h_kp hs - 1)) ∧ st1 = rsS hs st ∧ og 0 = rv.toInt64) (fun u => match u with | (st1, og, rv) => ((out, .inl (KL, 1, .inr (.inl og))) :: (WW a K KS st1 (rsH hs) sc))) (fun u => match u with | (st1, og, rv) => []) sz := by
  refine va_MetW (cc := cL_undo) (maxL := 3) (ret := (some .int)) (hh := [(0, 8, 11, 31)]) (by decide) rfl ?_
  intro p e s m args below meth c s₁ B hml hv
  obtain ⟨rfl, hsz, hP, hK, hD0, hG⟩ := hv
  have hx := B.exec
  have hb := B.bytes
  have hr := B.returns
  have ht : ∀ v9 ∈ wsA, v9.before ([.ref (a 0), .ref out] : List Value).toArray s = true := fun v9 h9 => atoms_spec (ws := Cond.codeWith yL_undo cL_undo 3 (some .int) [(0, 8, 11, 31)] :: wsA) B.pre v9 (List.mem_cons_of_mem _ h9)
  have htab : c.exceptionTable.toList = tableOf [(0, 8, 11, 31)] := vx_table (x := yL_undo) B (atoms_spec (ws := Cond.codeWith yL_undo cL_undo 3 (some .int) [(0, 8, 11, 31)] :: wsA) B.pre _ List.mem_cons_self)
  have hown : s.vm.findClass RL = some m.cls := findClass_of_methodNamed B.named
  have S0 : k_C p s m ([.ref (a 0), .ref out] : List Value).toArray c cL_undo 3 RL := ⟨hx, hb, hml, hown, ht⟩
  have hlocks := B.notSynchronized
  subst hsz
  have hD := hD0.self (sz := s.heap.size)
  generalize hAe : va_A ((out, .inl (KL, 1, .inr (.inl ofn))) :: (WW a K KS st hs sc)) s.heap.size = A at hD hG ⊢
  have hA : ∀ q : Nat, s.heap.size ≤ q → A q := fun q h => by rw [← hAe]; exact Or.inr h
  have hS : va_S A s.heap s.heap [] := va_S.rf
  have hl := lv_entry ([.ref (a 0), .ref out]) (n := 3) (Nat.le_of_ble_eq_true rfl)
  rw [lg_entry_eq]
  generalize (lg_sl ([.ref (a 0), .ref out]) ++ List.replicate (3 - (lg_sl ([.ref (a 0), .ref out])).length) Slot.unset).toArray = ls at hl ⊢
  have hl : lv_has ls 3 [(0, .ref (a 0)), (1, .ref out)] := hl
  have hP : va_P D vwCl ((out, .inl (KL, 1, .inr (.inl ofn))) :: (WW a K KS st hs sc)) s.heap := hP
  refine lv_aload_n hx hb dL_undo_0 rfl (lv_at hl 1 rfl) ?_
  refine lv_iconst (v := 0) hx hb dL_undo_1 (by decide) ?_
  refine lv_aload_n hx hb dL_undo_2 rfl (lv_at hl 0 rfl) ?_
  have ct := k_cut_TT (wp := [(out, .inl (KL, 1, .inr (.inl ofn)))]) (T := (WW a K KS st hs sc)) (wc := []) (wr := [(out, .inl (KL, 1, .inr (.inl ofn)))]) (tc := [(K, .int), (KS, .object "BarcodeWand$State")]) hG hS hA hK hP hD [] [0] [0, 1] rfl rfl (by decide) (by decide) (by decide) rfl
  refine k_endi (As := [.ref (a 0)]) ct (k_runV (As := []) (rest := [.int 0, .ref out]) S0 Lv_L_70 rfl (ci := 7) (q0 := 0) rfl (WW_0 a K KS st hs sc) ct (c_B_undo l D a K KS st hs sc (by assumption) (by assumption) (by assumption) s.heap.size) hl.1 rfl (Nat.le_of_ble_eq_true rfl) rfl dL_undo_3 ⟨⟨Nat.le_of_ble_eq_true rfl, Nat.le_of_ble_eq_true rfl⟩, Nat.le_of_ble_eq_true rfl, Nat.le_of_ble_eq_true rfl⟩) rfl rfl (fun r_1 st1v_2 H locs hw_3 hP hD hK hS => ?_)
  have hK : va_K D vwCl [(K, .int), (KS, .object "BarcodeWand$State"), (KL, .long)] s := hK
  have hP : va_P D vwCl ((out, .inl (KL, 1, .inr (.inl ofn))) :: (WW a K KS st1v_2 (rsH hs) sc)) H := hP
  have hD : va_D A ((out, .inl (KL, 1, .inr (.inl ofn))) :: (WW a K KS st1v_2 (rsH hs) sc)) := hD
  have hw_3 : r_1 = (nI (h_kp hs - 1)) ∧ st1v_2 = rsS hs st := hw_3
  refine lv_i2l (v := r_1.toInt64) hx hb dL_undo_6 rfl ?_
  refine va_last hx hb hK hP hD hS 0 2 rfl rfl (by unfold vp_in; decide) dL_undo_7 (fun H locs hP hD hS => ?_)
  have hP : va_P D vwCl ((out, .inl (KL, 1, .inr (.inl (vp_updL ofn ((0 : Int32).toNatClampNeg) r_1.toInt64)))) :: (WW a K KS st1v_2 (rsH hs) sc)) H := hP
  have hD : va_D A ((out, .inl (KL, 1, .inr (.inl (vp_updL ofn ((0 : Int32).toNatClampNeg) r_1.toInt64)))) :: (WW a K KS st1v_2 (rsH hs) sc)) := hD
  refine lv_goto (tgt := 14) hx hb dL_undo_8 (by decide) ?_
  refine lv_iconst (v := 0) hx hb dL_undo_14 (by decide) ?_
  have hP9 : va_P D vwCl ((out, .inl (KL, 1, .inr (.inl (vp_updL ofn ((0 : Int32).toNatClampNeg) r_1.toInt64)))) :: (WW a K KS st1v_2 (rsH hs) sc)) H := k_subP (wp := [(out, .inl (KL, 1, .inr (.inl (vp_updL ofn ((0 : Int32).toNatClampNeg) r_1.toInt64))))]) (wp' := [(out, .inl (KL, 1, .inr (.inl (vp_updL ofn ((0 : Int32).toNatClampNeg) r_1.toInt64))))]) (T := (WW a K KS st1v_2 (rsH hs) sc)) hP [0] rfl
  have hD9 : va_D A ((out, .inl (KL, 1, .inr (.inl (vp_updL ofn ((0 : Int32).toNatClampNeg) r_1.toInt64)))) :: (WW a K KS st1v_2 (rsH hs) sc)) := k_subD (wp := [(out, .inl (KL, 1, .inr (.inl (vp_updL ofn ((0 : Int32).toNatClampNeg) r_1.toInt64))))]) (wp' := [(out, .inl (KL, 1, .inr (.inl (vp_updL ofn ((0 : Int32).toNatClampNeg) r_1.toInt64))))]) (T := (WW a K KS st1v_2 (rsH hs) sc)) hD [0] (by decide) rfl
  have hP9 : va_P D vwCl ((out, .inl (KL, 1, .inr (.inl (vp_updL ofn ((0 : Int32).toNatClampNeg) r_1.toInt64)))) :: (WW a K KS st1v_2 (rsH hs) sc)) H := hP9
  have hD9 : va_D A ((out, .inl (KL, 1, .inr (.inl (vp_updL ofn ((0 : Int32).toNatClampNeg) r_1.toInt64)))) :: (WW a K KS st1v_2 (rsH hs) sc)) := hD9
  have hK9 : va_K D vwCl [] s := hK.sub [] rfl
  exact W.iret (v := 0) hx hb hr (fun t ht9 hW9 => ⟨⟨0, (st1v_2, (vp_updL ofn ((0 : Int32).toNatClampNeg) r_1.toInt64), r_1), rfl, by (exact ⟨rfl, hw_3.1, hw_3.2, pk_uLs⟩), ⟨by rw [ht9]; exact hP9, va_K.moved hW9.alike hK9, hD9⟩⟩, hS.F ht9⟩) hS.2.2 dL_undo_15
