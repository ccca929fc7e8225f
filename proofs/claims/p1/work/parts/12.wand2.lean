theorem lf_X7_87 : Cond.fieldLink RX7 87 "BarcodeWand$Label" "smudges" "LBarcodeWand$Row;" ∈ wsA := mA 57 rfl rfl
set_option maxRecDepth 20000 in
theorem lk_X4_has : Cond.code yX4_has cX4_has 2 (some .boolean) ∈ wsA := mA 483 rfl rfl
theorem ly_X4_has : k_y yX4_has 1 := ⟨by decide +kernel, by decide +kernel, by decide +kernel⟩
set_option maxRecDepth 20000 in
theorem lm_X4_has : Cond.instanceMethod yX4_has ∈ wsA := mA 481 rfl rfl
set_option maxRecDepth 20000 in
theorem le_X4_has : Cond.selects (yX4_has).cls yX4_has yX4_has ∈ wsA := mA 482 rfl rfl
set_option maxRecDepth 20000 in
theorem Lv_X7_100 : k_LV RX7 100 yX4_has cX4_has 2 (some .boolean) 1 := ⟨mA 480 rfl rfl, lm_X4_has, le_X4_has, li_BarcodeWand_Row, lk_X4_has, ly_X4_has⟩
theorem lh_X7_108 : (∀ w ∈ (vx_atS RX7 108 "java/lang/IndexOutOfBoundsException" ["java/lang/RuntimeException", "java/lang/Exception"]).filter goodWord, w ∈ lw_tbl) ∧ (∀ w ∈ (vx_atS RX7 108 "java/lang/IndexOutOfBoundsException" ["java/lang/RuntimeException", "java/lang/Exception"]).filter (fun w => !goodWord w), w ∈ tables_1.filter k_isNX) ∧ (∀ w ∈ Cond.classLink RX7 104 "java/lang/IndexOutOfBoundsException" :: Cond.initialized "java/lang/IndexOutOfBoundsException" :: vx_atS RX7 108 "java/lang/IndexOutOfBoundsException" ["java/lang/RuntimeException", "java/lang/Exception"], vx_ot w = true) := ⟨by decide +kernel, by decide +kernel, by decide +kernel⟩
set_option maxRecDepth 20000 in
theorem lc_X7_104 : Cond.classLink RX7 104 "java/lang/IndexOutOfBoundsException" ∈ wsA := mA 484 rfl rfl
theorem li_java_lang_IndexOutOfBoundsException : Cond.initialized "java/lang/IndexOutOfBoundsException" ∈ wsA := mA 15 rfl rfl
set_option maxRecDepth 20000 in
theorem lk_X7_requireElement : Cond.code yX7_requireElement cX7_requireElement 2 none ∈ wsA := mA 479 rfl rfl
theorem ly_X7_requireElement : k_y yX7_requireElement 1 := ⟨by decide +kernel, by decide +kernel, by decide +kernel⟩
set_option maxRecDepth 20000 in
theorem lm_X7_requireElement : Cond.instanceMethod yX7_requireElement ∈ wsA := mA 478 rfl rfl
theorem le_X7_requireElement : Cond.selects (yX7_requireElement).cls yX7_requireElement yX7_requireElement ∈ wsA := mS 16 rfl rfl
set_option maxRecDepth 20000 in
theorem Lv_X7_82 : k_LV RX7 82 yX7_requireElement cX7_requireElement 2 none 1 := ⟨mA 476 rfl rfl, lm_X7_requireElement, le_X7_requireElement, li_BarcodeWand, lk_X7_requireElement, ly_X7_requireElement⟩
theorem lf_X7_76 : Cond.fieldLink RX7 76 "BarcodeWand$Label" "digits" "LBarcodeWand$Row;" ∈ wsA := mA 55 rfl rfl
set_option maxRecDepth 20000 in
theorem lk_X7_requireCode : Cond.code yX7_requireCode cX7_requireCode 2 none ∈ wsA := mA 715 rfl rfl
theorem ly_X7_requireCode : k_y yX7_requireCode 1 := ⟨by decide +kernel, by decide +kernel, by decide +kernel⟩
set_option maxRecDepth 20000 in
theorem lm_X7_requireCode : Cond.instanceMethod yX7_requireCode ∈ wsA := mA 714 rfl rfl
theorem le_X7_requireCode : Cond.selects (yX7_requireCode).cls yX7_requireCode yX7_requireCode ∈ wsA := mS 19 rfl rfl
set_option maxRecDepth 20000 in
theorem Lv_X7_180 : k_LV RX7 180 yX7_requireCode cX7_requireCode 2 none 1 := ⟨mA 712 rfl rfl, lm_X7_requireCode, le_X7_requireCode, li_BarcodeWand, lk_X7_requireCode, ly_X7_requireCode⟩
theorem lh_X7_132 : (∀ w ∈ (vx_atS RX7 132 "java/lang/IllegalStateException" ["java/lang/RuntimeException", "java/lang/Exception"]).filter goodWord, w ∈ lw_tbl) ∧ (∀ w ∈ (vx_atS RX7 132 "java/lang/IllegalStateException" ["java/lang/RuntimeException", "java/lang/Exception"]).filter (fun w => !goodWord w), w ∈ tables_1.filter k_isNX) ∧ (∀ w ∈ Cond.classLink RX7 128 "java/lang/IllegalStateException" :: Cond.initialized "java/lang/IllegalStateException" :: vx_atS RX7 132 "java/lang/IllegalStateException" ["java/lang/RuntimeException", "java/lang/Exception"], vx_ot w = true) := ⟨by decide +kernel, by decide +kernel, by decide +kernel⟩
set_option maxRecDepth 20000 in
theorem lc_X7_128 : Cond.classLink RX7 128 "java/lang/IllegalStateException" ∈ wsA := mA 645 rfl rfl
theorem li_java_lang_IllegalStateException : Cond.initialized "java/lang/IllegalStateException" ∈ wsA := mA 16 rfl rfl
set_option maxRecDepth 20000 in
theorem lk_X1_isAtEndOfCommand : Cond.code yX1_isAtEndOfCommand cX1_isAtEndOfCommand 2 (some .boolean) ∈ wsA := mA 442 rfl rfl
theorem ly_X1_isAtEndOfCommand : k_y yX1_isAtEndOfCommand 0 := ⟨by decide +kernel, by decide +kernel, by decide +kernel⟩
set_option maxRecDepth 20000 in
theorem lm_X1_isAtEndOfCommand : Cond.instanceMethod yX1_isAtEndOfCommand ∈ wsA := mA 440 rfl rfl
set_option maxRecDepth 20000 in
theorem le_X1_isAtEndOfCommand : Cond.selects (yX1_isAtEndOfCommand).cls yX1_isAtEndOfCommand yX1_isAtEndOfCommand ∈ wsA := mA 441 rfl rfl
set_option maxRecDepth 20000 in
theorem Lv_X7_209 : k_LV RX7 209 yX1_isAtEndOfCommand cX1_isAtEndOfCommand 2 (some .boolean) 0 := ⟨mA 758 rfl rfl, lm_X1_isAtEndOfCommand, le_X1_isAtEndOfCommand, li_BarcodeWand_CommandParser, lk_X1_isAtEndOfCommand, ly_X1_isAtEndOfCommand⟩
theorem lh_X7_53 : (∀ w ∈ (vx_atS RX7 53 "java/lang/IllegalArgumentException" ["java/lang/RuntimeException", "java/lang/Exception"]).filter goodWord, w ∈ lw_tbl) ∧ (∀ w ∈ (vx_atS RX7 53 "java/lang/IllegalArgumentException" ["java/lang/RuntimeException", "java/lang/Exception"]).filter (fun w => !goodWord w), w ∈ tables_1.filter k_isNX) ∧ (∀ w ∈ Cond.classLink RX7 49 "java/lang/IllegalArgumentException" :: Cond.initialized "java/lang/IllegalArgumentException" :: vx_atS RX7 53 "java/lang/IllegalArgumentException" ["java/lang/RuntimeException", "java/lang/Exception"], vx_ot w = true) := ⟨by decide +kernel, by decide +kernel, by decide +kernel⟩
set_option maxRecDepth 20000 in
theorem lc_X7_49 : Cond.classLink RX7 49 "java/lang/IllegalArgumentException" ∈ wsA := mA 578 rfl rfl
theorem li_java_lang_IllegalArgumentException : Cond.initialized "java/lang/IllegalArgumentException" ∈ wsA := mA 14 rfl rfl
set_option maxRecDepth 20000 in
theorem lk_X7_requireDrawing : Cond.code yX7_requireDrawing cX7_requireDrawing 3 none ∈ wsA := mA 643 rfl rfl
theorem ly_X7_requireDrawing : k_y yX7_requireDrawing 2 := ⟨by decide +kernel, by decide +kernel, by decide +kernel⟩
set_option maxRecDepth 20000 in
theorem lm_X7_requireDrawing : Cond.instanceMethod yX7_requireDrawing ∈ wsA := mA 642 rfl rfl
theorem le_X7_requireDrawing : Cond.selects (yX7_requireDrawing).cls yX7_requireDrawing yX7_requireDrawing ∈ wsA := mS 18 rfl rfl
set_option maxRecDepth 20000 in
theorem Lv_X7_109 : k_LV RX7 109 yX7_requireDrawing cX7_requireDrawing 3 none 2 := ⟨mA 640 rfl rfl, lm_X7_requireDrawing, le_X7_requireDrawing, li_BarcodeWand, lk_X7_requireDrawing, ly_X7_requireDrawing⟩
set_option maxRecDepth 20000 in
theorem lk_X4_isFull : Cond.code yX4_isFull cX4_isFull 1 (some .boolean) ∈ wsA := mA 351 rfl rfl
theorem ly_X4_isFull : k_y yX4_isFull 0 := ⟨by decide +kernel, by decide +kernel, by decide +kernel⟩
set_option maxRecDepth 20000 in
theorem lm_X4_isFull : Cond.instanceMethod yX4_isFull ∈ wsA := mA 349 rfl rfl
set_option maxRecDepth 20000 in
theorem le_X4_isFull : Cond.selects (yX4_isFull).cls yX4_isFull yX4_isFull ∈ wsA := mA 350 rfl rfl
set_option maxRecDepth 20000 in
theorem Lv_X7_124 : k_LV RX7 124 yX4_isFull cX4_isFull 1 (some .boolean) 0 := ⟨mA 669 rfl rfl, lm_X4_isFull, le_X4_isFull, li_BarcodeWand_Row, lk_X4_isFull, ly_X4_isFull⟩
set_option maxRecDepth 20000 in
theorem Lv_X7_133 : k_LV RX7 133 yX4_add cX4_add 2 none 1 := ⟨mA 671 rfl rfl, lm_X4_add, le_X4_add, li_BarcodeWand_Row, lk_X4_add, ly_X4_add⟩
theorem dX7_requireElement_0 : decode cX7_requireElement 0 = .ok (.aload_n 0, 1) := by decide +kernel
theorem dX7_requireElement_1 : decode cX7_requireElement 1 = .ok (.getfield 10, 3) := by decide +kernel
theorem dX7_requireElement_4 : decode cX7_requireElement 4 = .ok (.getfield 66, 3) := by decide +kernel
theorem dX7_requireElement_7 : decode cX7_requireElement 7 = .ok (.getfield 87, 3) := by decide +kernel
theorem dX7_requireElement_10 : decode cX7_requireElement 10 = .ok (.iload_n 1, 1) := by decide +kernel
theorem dX7_requireElement_11 : decode cX7_requireElement 11 = .ok (.invokevirtual 100, 3) := by decide +kernel
theorem dX7_requireElement_14 : decode cX7_requireElement 14 = .ok (.ifCond .ne 14, 3) := by decide +kernel
theorem dX7_requireElement_17 : decode cX7_requireElement 17 = .ok (.new 104, 3) := by decide +kernel
theorem dX7_requireElement_20 : decode cX7_requireElement 20 = .ok (.dup, 1) := by decide +kernel
theorem dX7_requireElement_21 : decode cX7_requireElement 21 = .ok (.ldc_w 259, 3) := by decide +kernel
theorem dX7_requireElement_24 : decode cX7_requireElement 24 = .ok (.invokespecial 108, 3) := by decide +kernel
theorem dX7_requireElement_27 : decode cX7_requireElement 27 = .ok (.athrow, 1) := by decide +kernel
theorem dX7_requireElement_28 : decode cX7_requireElement 28 = .ok (.return_, 1) := by decide +kernel
theorem dX7_requireCode_0 : decode cX7_requireCode 0 = .ok (.aload_n 0, 1) := by decide +kernel
theorem dX7_requireCode_1 : decode cX7_requireCode 1 = .ok (.getfield 10, 3) := by decide +kernel
theorem dX7_requireCode_4 : decode cX7_requireCode 4 = .ok (.getfield 171, 3) := by decide +kernel
theorem dX7_requireCode_7 : decode cX7_requireCode 7 = .ok (.getfield 175, 3) := by decide +kernel
theorem dX7_requireCode_10 : decode cX7_requireCode 10 = .ok (.iload_n 1, 1) := by decide +kernel
theorem dX7_requireCode_11 : decode cX7_requireCode 11 = .ok (.invokevirtual 100, 3) := by decide +kernel
theorem dX7_requireCode_14 : decode cX7_requireCode 14 = .ok (.ifCond .ne 14, 3) := by decide +kernel
theorem dX7_requireCode_17 : decode cX7_requireCode 17 = .ok (.new 104, 3) := by decide +kernel
theorem dX7_requireCode_20 : decode cX7_requireCode 20 = .ok (.dup, 1) := by decide +kernel
theorem dX7_requireCode_21 : decode cX7_requireCode 21 = .ok (.ldc_w 261, 3) := by decide +kernel
theorem dX7_requireCode_24 : decode cX7_requireCode 24 = .ok (.invokespecial 108, 3) := by decide +kernel
theorem dX7_requireCode_27 : decode cX7_requireCode 27 = .ok (.athrow, 1) := by decide +kernel
theorem dX7_requireCode_28 : decode cX7_requireCode 28 = .ok (.return_, 1) := by decide +kernel
theorem dX7_width_0 : decode cX7_width 0 = .ok (.aload_n 0, 1) := by decide +kernel
theorem dX7_width_1 : decode cX7_width 1 = .ok (.iload_n 1, 1) := by decide +kernel
theorem dX7_width_2 : decode cX7_width 2 = .ok (.invokevirtual 82, 3) := by decide +kernel
theorem dX7_width_5 : decode cX7_width 5 = .ok (.aload_n 0, 1) := by decide +kernel
theorem dX7_width_6 : decode cX7_width 6 = .ok (.getfield 10, 3) := by decide +kernel
theorem dX7_width_9 : decode cX7_width 9 = .ok (.getfield 66, 3) := by decide +kernel
theorem dX7_width_12 : decode cX7_width 12 = .ok (.iload_n 1, 1) := by decide +kernel
theorem dX7_width_13 : decode cX7_width 13 = .ok (.invokevirtual 97, 3) := by decide +kernel
theorem dX7_width_16 : decode cX7_width 16 = .ok (.ireturn, 1) := by decide +kernel
theorem dX7_smudge_0 : decode cX7_smudge 0 = .ok (.aload_n 0, 1) := by decide +kernel
theorem dX7_smudge_1 : decode cX7_smudge 1 = .ok (.iload_n 1, 1) := by decide +kernel
theorem dX7_smudge_2 : decode cX7_smudge 2 = .ok (.invokevirtual 82, 3) := by decide +kernel
theorem dX7_smudge_5 : decode cX7_smudge 5 = .ok (.iload_n 2, 1) := by decide +kernel
theorem dX7_smudge_6 : decode cX7_smudge 6 = .ok (.bipush (-9), 2) := by decide +kernel
theorem dX7_smudge_8 : decode cX7_smudge 8 = .ok (.if_icmp .lt 9, 3) := by decide +kernel
theorem dX7_smudge_11 : decode cX7_smudge 11 = .ok (.iload_n 2, 1) := by decide +kernel
theorem dX7_smudge_12 : decode cX7_smudge 12 = .ok (.bipush 9, 2) := by decide +kernel
theorem dX7_smudge_14 : decode cX7_smudge 14 = .ok (.if_icmp .le 13, 3) := by decide +kernel
theorem dX7_smudge_17 : decode cX7_smudge 17 = .ok (.new 49, 3) := by decide +kernel
theorem dX7_smudge_20 : decode cX7_smudge 20 = .ok (.dup, 1) := by decide +kernel
theorem dX7_smudge_21 : decode cX7_smudge 21 = .ok (.ldc 85, 2) := by decide +kernel
theorem dX7_smudge_23 : decode cX7_smudge 23 = .ok (.invokespecial 53, 3) := by decide +kernel
theorem dX7_smudge_26 : decode cX7_smudge 26 = .ok (.athrow, 1) := by decide +kernel
theorem dX7_smudge_27 : decode cX7_smudge 27 = .ok (.aload_n 0, 1) := by decide +kernel
theorem dX7_smudge_28 : decode cX7_smudge 28 = .ok (.getfield 19, 3) := by decide +kernel
theorem dX7_smudge_31 : decode cX7_smudge 31 = .ok (.aload_n 0, 1) := by decide +kernel
theorem dX7_smudge_32 : decode cX7_smudge 32 = .ok (.getfield 10, 3) := by decide +kernel
theorem dX7_smudge_35 : decode cX7_smudge 35 = .ok (.invokevirtual 62, 3) := by decide +kernel
theorem dX7_smudge_38 : decode cX7_smudge 38 = .ok (.aload_n 0, 1) := by decide +kernel
theorem dX7_smudge_39 : decode cX7_smudge 39 = .ok (.getfield 10, 3) := by decide +kernel
theorem dX7_smudge_42 : decode cX7_smudge 42 = .ok (.getfield 66, 3) := by decide +kernel
theorem dX7_smudge_45 : decode cX7_smudge 45 = .ok (.getfield 87, 3) := by decide +kernel
theorem dX7_smudge_48 : decode cX7_smudge 48 = .ok (.iload_n 1, 1) := by decide +kernel
theorem dX7_smudge_49 : decode cX7_smudge 49 = .ok (.invokevirtual 79, 3) := by decide +kernel
theorem dX7_smudge_52 : decode cX7_smudge 52 = .ok (.istore_n 3, 1) := by decide +kernel
theorem dX7_smudge_53 : decode cX7_smudge 53 = .ok (.aload_n 0, 1) := by decide +kernel
theorem dX7_smudge_54 : decode cX7_smudge 54 = .ok (.getfield 10, 3) := by decide +kernel
theorem dX7_smudge_57 : decode cX7_smudge 57 = .ok (.getfield 66, 3) := by decide +kernel
theorem dX7_smudge_60 : decode cX7_smudge 60 = .ok (.getfield 87, 3) := by decide +kernel
theorem dX7_smudge_63 : decode cX7_smudge 63 = .ok (.iload_n 1, 1) := by decide +kernel
theorem dX7_smudge_64 : decode cX7_smudge 64 = .ok (.iload_n 2, 1) := by decide +kernel
theorem dX7_smudge_65 : decode cX7_smudge 65 = .ok (.invokevirtual 90, 3) := by decide +kernel
theorem dX7_smudge_68 : decode cX7_smudge 68 = .ok (.iload_n 3, 1) := by decide +kernel
theorem dX7_smudge_69 : decode cX7_smudge 69 = .ok (.ireturn, 1) := by decide +kernel
theorem dX7_labelDigit_0 : decode cX7_labelDigit 0 = .ok (.aload_n 0, 1) := by decide +kernel
theorem dX7_labelDigit_1 : decode cX7_labelDigit 1 = .ok (.getfield 10, 3) := by decide +kernel
theorem dX7_labelDigit_4 : decode cX7_labelDigit 4 = .ok (.getfield 66, 3) := by decide +kernel
theorem dX7_labelDigit_7 : decode cX7_labelDigit 7 = .ok (.getfield 76, 3) := by decide +kernel
theorem dX7_labelDigit_10 : decode cX7_labelDigit 10 = .ok (.iload_n 1, 1) := by decide +kernel
theorem dX7_labelDigit_11 : decode cX7_labelDigit 11 = .ok (.invokevirtual 100, 3) := by decide +kernel
theorem dX7_labelDigit_14 : decode cX7_labelDigit 14 = .ok (.ifCond .ne 13, 3) := by decide +kernel
theorem dX7_labelDigit_17 : decode cX7_labelDigit 17 = .ok (.new 104, 3) := by decide +kernel
theorem dX7_labelDigit_20 : decode cX7_labelDigit 20 = .ok (.dup, 1) := by decide +kernel
theorem dX7_labelDigit_21 : decode cX7_labelDigit 21 = .ok (.ldc 106, 2) := by decide +kernel
theorem dX7_labelDigit_23 : decode cX7_labelDigit 23 = .ok (.invokespecial 108, 3) := by decide +kernel
theorem dX7_labelDigit_26 : decode cX7_labelDigit 26 = .ok (.athrow, 1) := by decide +kernel
theorem dX7_labelDigit_27 : decode cX7_labelDigit 27 = .ok (.aload_n 0, 1) := by decide +kernel
theorem dX7_labelDigit_28 : decode cX7_labelDigit 28 = .ok (.getfield 10, 3) := by decide +kernel
theorem dX7_labelDigit_31 : decode cX7_labelDigit 31 = .ok (.getfield 66, 3) := by decide +kernel
theorem dX7_labelDigit_34 : decode cX7_labelDigit 34 = .ok (.getfield 76, 3) := by decide +kernel
theorem dX7_labelDigit_37 : decode cX7_labelDigit 37 = .ok (.iload_n 1, 1) := by decide +kernel
theorem dX7_labelDigit_38 : decode cX7_labelDigit 38 = .ok (.invokevirtual 79, 3) := by decide +kernel
theorem dX7_labelDigit_41 : decode cX7_labelDigit 41 = .ok (.ireturn, 1) := by decide +kernel
theorem dX7_time_0 : decode cX7_time 0 = .ok (.aload_n 0, 1) := by decide +kernel
theorem dX7_time_1 : decode cX7_time 1 = .ok (.getfield 10, 3) := by decide +kernel
theorem dX7_time_4 : decode cX7_time 4 = .ok (.getfield 112, 3) := by decide +kernel
theorem dX7_time_7 : decode cX7_time 7 = .ok (.iload_n 1, 1) := by decide +kernel
theorem dX7_time_8 : decode cX7_time 8 = .ok (.invokevirtual 100, 3) := by decide +kernel
theorem dX7_time_11 : decode cX7_time 11 = .ok (.ifCond .ne 13, 3) := by decide +kernel
theorem dX7_time_14 : decode cX7_time 14 = .ok (.new 104, 3) := by decide +kernel
theorem dX7_time_17 : decode cX7_time 17 = .ok (.dup, 1) := by decide +kernel
theorem dX7_time_18 : decode cX7_time 18 = .ok (.ldc 140, 2) := by decide +kernel
theorem dX7_time_20 : decode cX7_time 20 = .ok (.invokespecial 108, 3) := by decide +kernel
theorem dX7_time_23 : decode cX7_time 23 = .ok (.athrow, 1) := by decide +kernel
theorem dX7_time_24 : decode cX7_time 24 = .ok (.aload_n 0, 1) := by decide +kernel
theorem dX7_time_25 : decode cX7_time 25 = .ok (.getfield 10, 3) := by decide +kernel
theorem dX7_time_28 : decode cX7_time 28 = .ok (.getfield 112, 3) := by decide +kernel
theorem dX7_time_31 : decode cX7_time 31 = .ok (.iload_n 1, 1) := by decide +kernel
theorem dX7_time_32 : decode cX7_time 32 = .ok (.invokevirtual 79, 3) := by decide +kernel
theorem dX7_time_35 : decode cX7_time 35 = .ok (.ireturn, 1) := by decide +kernel
theorem dX7_nearest_0 : decode cX7_nearest 0 = .ok (.iload_n 1, 1) := by decide +kernel
theorem dX7_nearest_1 : decode cX7_nearest 1 = .ok (.ifCond .lt 19, 3) := by decide +kernel
theorem dX7_nearest_4 : decode cX7_nearest 4 = .ok (.iload_n 1, 1) := by decide +kernel
theorem dX7_nearest_5 : decode cX7_nearest 5 = .ok (.aload_n 0, 1) := by decide +kernel
theorem dX7_nearest_6 : decode cX7_nearest 6 = .ok (.getfield 10, 3) := by decide +kernel
theorem dX7_nearest_9 : decode cX7_nearest 9 = .ok (.getfield 112, 3) := by decide +kernel
theorem dX7_nearest_12 : decode cX7_nearest 12 = .ok (.invokevirtual 136, 3) := by decide +kernel
theorem dX7_nearest_15 : decode cX7_nearest 15 = .ok (.iconst 4, 1) := by decide +kernel
theorem dX7_nearest_16 : decode cX7_nearest 16 = .ok (.isub, 1) := by decide +kernel
theorem dX7_nearest_17 : decode cX7_nearest 17 = .ok (.if_icmp .le 13, 3) := by decide +kernel
theorem dX7_nearest_20 : decode cX7_nearest 20 = .ok (.new 104, 3) := by decide +kernel
theorem dX7_nearest_23 : decode cX7_nearest 23 = .ok (.dup, 1) := by decide +kernel
theorem dX7_nearest_24 : decode cX7_nearest 24 = .ok (.ldc 162, 2) := by decide +kernel
theorem dX7_nearest_26 : decode cX7_nearest 26 = .ok (.invokespecial 108, 3) := by decide +kernel
theorem dX7_nearest_29 : decode cX7_nearest 29 = .ok (.athrow, 1) := by decide +kernel
theorem dX7_nearest_30 : decode cX7_nearest 30 = .ok (.aload_n 0, 1) := by decide +kernel
theorem dX7_nearest_31 : decode cX7_nearest 31 = .ok (.getfield 26, 3) := by decide +kernel
theorem dX7_nearest_34 : decode cX7_nearest 34 = .ok (.aload_n 0, 1) := by decide +kernel
theorem dX7_nearest_35 : decode cX7_nearest 35 = .ok (.getfield 10, 3) := by decide +kernel
theorem dX7_nearest_38 : decode cX7_nearest 38 = .ok (.getfield 112, 3) := by decide +kernel
theorem dX7_nearest_41 : decode cX7_nearest 41 = .ok (.iload_n 1, 1) := by decide +kernel
theorem dX7_nearest_42 : decode cX7_nearest 42 = .ok (.invokevirtual 164, 3) := by decide +kernel
theorem dX7_nearest_45 : decode cX7_nearest 45 = .ok (.aload_n 0, 1) := by decide +kernel
theorem dX7_nearest_46 : decode cX7_nearest 46 = .ok (.getfield 26, 3) := by decide +kernel
theorem dX7_nearest_49 : decode cX7_nearest 49 = .ok (.getfield 168, 3) := by decide +kernel
theorem dX7_nearest_52 : decode cX7_nearest 52 = .ok (.ireturn, 1) := by decide +kernel
theorem dX7_code_0 : decode cX7_code 0 = .ok (.aload_n 0, 1) := by decide +kernel
theorem dX7_code_1 : decode cX7_code 1 = .ok (.iload_n 1, 1) := by decide +kernel
theorem dX7_code_2 : decode cX7_code 2 = .ok (.invokevirtual 180, 3) := by decide +kernel
theorem dX7_code_5 : decode cX7_code 5 = .ok (.aload_n 0, 1) := by decide +kernel
theorem dX7_code_6 : decode cX7_code 6 = .ok (.getfield 10, 3) := by decide +kernel
theorem dX7_code_9 : decode cX7_code 9 = .ok (.getfield 171, 3) := by decide +kernel
theorem dX7_code_12 : decode cX7_code 12 = .ok (.getfield 175, 3) := by decide +kernel
theorem dX7_code_15 : decode cX7_code 15 = .ok (.iload_n 1, 1) := by decide +kernel
theorem dX7_code_16 : decode cX7_code 16 = .ok (.invokevirtual 79, 3) := by decide +kernel
theorem dX7_code_19 : decode cX7_code 19 = .ok (.ireturn, 1) := by decide +kernel
theorem dX7_codeLength_0 : decode cX7_codeLength 0 = .ok (.aload_n 0, 1) := by decide +kernel
theorem dX7_codeLength_1 : decode cX7_codeLength 1 = .ok (.iload_n 1, 1) := by decide +kernel
theorem dX7_codeLength_2 : decode cX7_codeLength 2 = .ok (.invokevirtual 180, 3) := by decide +kernel
theorem dX7_codeLength_5 : decode cX7_codeLength 5 = .ok (.aload_n 0, 1) := by decide +kernel
theorem dX7_codeLength_6 : decode cX7_codeLength 6 = .ok (.getfield 10, 3) := by decide +kernel
theorem dX7_codeLength_9 : decode cX7_codeLength 9 = .ok (.getfield 171, 3) := by decide +kernel
theorem dX7_codeLength_12 : decode cX7_codeLength 12 = .ok (.getfield 183, 3) := by decide +kernel
theorem dX7_codeLength_15 : decode cX7_codeLength 15 = .ok (.iload_n 1, 1) := by decide +kernel
theorem dX7_codeLength_16 : decode cX7_codeLength 16 = .ok (.invokevirtual 79, 3) := by decide +kernel
theorem dX7_codeLength_19 : decode cX7_codeLength 19 = .ok (.ireturn, 1) := by decide +kernel
theorem dX7_count_0 : decode cX7_count 0 = .ok (.aload_n 0, 1) := by decide +kernel
theorem dX7_count_1 : decode cX7_count 1 = .ok (.iload_n 1, 1) := by decide +kernel
theorem dX7_count_2 : decode cX7_count 2 = .ok (.invokevirtual 180, 3) := by decide +kernel
theorem dX7_count_5 : decode cX7_count 5 = .ok (.aload_n 0, 1) := by decide +kernel
theorem dX7_count_6 : decode cX7_count 6 = .ok (.getfield 10, 3) := by decide +kernel
theorem dX7_count_9 : decode cX7_count 9 = .ok (.getfield 171, 3) := by decide +kernel
theorem dX7_count_12 : decode cX7_count 12 = .ok (.getfield 186, 3) := by decide +kernel
theorem dX7_count_15 : decode cX7_count 15 = .ok (.iload_n 1, 1) := by decide +kernel
theorem dX7_count_16 : decode cX7_count 16 = .ok (.invokevirtual 79, 3) := by decide +kernel
theorem dX7_count_19 : decode cX7_count 19 = .ok (.ireturn, 1) := by decide +kernel
theorem dX7_greatestSmudge_0 : decode cX7_greatestSmudge 0 = .ok (.aload_n 0, 1) := by decide +kernel
theorem dX7_greatestSmudge_1 : decode cX7_greatestSmudge 1 = .ok (.iload_n 1, 1) := by decide +kernel
theorem dX7_greatestSmudge_2 : decode cX7_greatestSmudge 2 = .ok (.invokevirtual 82, 3) := by decide +kernel
theorem dX7_greatestSmudge_5 : decode cX7_greatestSmudge 5 = .ok (.aload_n 0, 1) := by decide +kernel
theorem dX7_greatestSmudge_6 : decode cX7_greatestSmudge 6 = .ok (.getfield 10, 3) := by decide +kernel
theorem dX7_greatestSmudge_9 : decode cX7_greatestSmudge 9 = .ok (.getfield 66, 3) := by decide +kernel
theorem dX7_greatestSmudge_12 : decode cX7_greatestSmudge 12 = .ok (.aload_n 0, 1) := by decide +kernel
theorem dX7_greatestSmudge_13 : decode cX7_greatestSmudge 13 = .ok (.getfield 35, 3) := by decide +kernel
theorem dX7_greatestSmudge_16 : decode cX7_greatestSmudge 16 = .ok (.bipush 20, 2) := by decide +kernel
theorem dX7_greatestSmudge_18 : decode cX7_greatestSmudge 18 = .ok (.bipush 20, 2) := by decide +kernel
theorem dX7_greatestSmudge_20 : decode cX7_greatestSmudge 20 = .ok (.iconst 0, 1) := by decide +kernel
theorem dX7_greatestSmudge_21 : decode cX7_greatestSmudge 21 = .ok (.invokevirtual 115, 3) := by decide +kernel
theorem dX7_greatestSmudge_24 : decode cX7_greatestSmudge 24 = .ok (.bipush 9, 2) := by decide +kernel
theorem dX7_greatestSmudge_26 : decode cX7_greatestSmudge 26 = .ok (.istore_n 2, 1) := by decide +kernel
theorem dX7_greatestSmudge_27 : decode cX7_greatestSmudge 27 = .ok (.iload_n 2, 1) := by decide +kernel
theorem dX7_greatestSmudge_28 : decode cX7_greatestSmudge 28 = .ok (.bipush (-9), 2) := by decide +kernel
theorem dX7_greatestSmudge_30 : decode cX7_greatestSmudge 30 = .ok (.if_icmp .lt 79, 3) := by decide +kernel
theorem dX7_greatestSmudge_33 : decode cX7_greatestSmudge 33 = .ok (.aload_n 0, 1) := by decide +kernel
theorem dX7_greatestSmudge_34 : decode cX7_greatestSmudge 34 = .ok (.getfield 10, 3) := by decide +kernel
theorem dX7_greatestSmudge_37 : decode cX7_greatestSmudge 37 = .ok (.getfield 66, 3) := by decide +kernel
theorem dX7_greatestSmudge_40 : decode cX7_greatestSmudge 40 = .ok (.iload_n 1, 1) := by decide +kernel
theorem dX7_greatestSmudge_41 : decode cX7_greatestSmudge 41 = .ok (.iload_n 2, 1) := by decide +kernel
theorem dX7_greatestSmudge_42 : decode cX7_greatestSmudge 42 = .ok (.bipush 20, 2) := by decide +kernel
theorem dX7_greatestSmudge_44 : decode cX7_greatestSmudge 44 = .ok (.bipush 20, 2) := by decide +kernel
theorem dX7_greatestSmudge_46 : decode cX7_greatestSmudge 46 = .ok (.invokevirtual 195, 3) := by decide +kernel
theorem dX7_greatestSmudge_49 : decode cX7_greatestSmudge 49 = .ok (.istore_n 3, 1) := by decide +kernel
theorem dX7_greatestSmudge_50 : decode cX7_greatestSmudge 50 = .ok (.aload_n 0, 1) := by decide +kernel
theorem dX7_greatestSmudge_51 : decode cX7_greatestSmudge 51 = .ok (.getfield 35, 3) := by decide +kernel
theorem dX7_greatestSmudge_54 : decode cX7_greatestSmudge 54 = .ok (.iload_n 1, 1) := by decide +kernel
theorem dX7_greatestSmudge_55 : decode cX7_greatestSmudge 55 = .ok (.iload_n 3, 1) := by decide +kernel
theorem dX7_greatestSmudge_56 : decode cX7_greatestSmudge 56 = .ok (.invokevirtual 90, 3) := by decide +kernel
theorem dX7_greatestSmudge_59 : decode cX7_greatestSmudge 59 = .ok (.aload_n 0, 1) := by decide +kernel
theorem dX7_greatestSmudge_60 : decode cX7_greatestSmudge 60 = .ok (.getfield 26, 3) := by decide +kernel
theorem dX7_greatestSmudge_63 : decode cX7_greatestSmudge 63 = .ok (.aload_n 0, 1) := by decide +kernel
theorem dX7_greatestSmudge_64 : decode cX7_greatestSmudge 64 = .ok (.getfield 35, 3) := by decide +kernel
theorem dX7_greatestSmudge_67 : decode cX7_greatestSmudge 67 = .ok (.iconst 0, 1) := by decide +kernel
theorem dX7_greatestSmudge_68 : decode cX7_greatestSmudge 68 = .ok (.aload_n 0, 1) := by decide +kernel
theorem dX7_greatestSmudge_69 : decode cX7_greatestSmudge 69 = .ok (.getfield 10, 3) := by decide +kernel
theorem dX7_greatestSmudge_72 : decode cX7_greatestSmudge 72 = .ok (.getfield 144, 3) := by decide +kernel
theorem dX7_greatestSmudge_75 : decode cX7_greatestSmudge 75 = .ok (.invokevirtual 152, 3) := by decide +kernel
theorem dX7_greatestSmudge_78 : decode cX7_greatestSmudge 78 = .ok (.istore 4, 2) := by decide +kernel
theorem dX7_greatestSmudge_80 : decode cX7_greatestSmudge 80 = .ok (.iload 4, 2) := by decide +kernel
theorem dX7_greatestSmudge_82 : decode cX7_greatestSmudge 82 = .ok (.ifCond .ne 8, 3) := by decide +kernel
theorem dX7_greatestSmudge_85 : decode cX7_greatestSmudge 85 = .ok (.bipush 100, 2) := by decide +kernel
theorem dX7_greatestSmudge_87 : decode cX7_greatestSmudge 87 = .ok (.iload_n 2, 1) := by decide +kernel
theorem dX7_greatestSmudge_88 : decode cX7_greatestSmudge 88 = .ok (.iadd, 1) := by decide +kernel
theorem dX7_greatestSmudge_89 : decode cX7_greatestSmudge 89 = .ok (.ireturn, 1) := by decide +kernel
theorem dX7_greatestSmudge_90 : decode cX7_greatestSmudge 90 = .ok (.aload_n 0, 1) := by decide +kernel
theorem dX7_greatestSmudge_91 : decode cX7_greatestSmudge 91 = .ok (.getfield 26, 3) := by decide +kernel
theorem dX7_greatestSmudge_94 : decode cX7_greatestSmudge 94 = .ok (.iload_n 1, 1) := by decide +kernel
theorem dX7_greatestSmudge_95 : decode cX7_greatestSmudge 95 = .ok (.invokevirtual 199, 3) := by decide +kernel
theorem dX7_greatestSmudge_98 : decode cX7_greatestSmudge 98 = .ok (.ifCond .ne 5, 3) := by decide +kernel
theorem dX7_greatestSmudge_101 : decode cX7_greatestSmudge 101 = .ok (.iconst (-1), 1) := by decide +kernel
theorem dX7_greatestSmudge_102 : decode cX7_greatestSmudge 102 = .ok (.ireturn, 1) := by decide +kernel
theorem dX7_greatestSmudge_103 : decode cX7_greatestSmudge 103 = .ok (.iinc 2 (-1), 3) := by decide +kernel
theorem dX7_greatestSmudge_106 : decode cX7_greatestSmudge 106 = .ok (.goto (-79), 3) := by decide +kernel
theorem dX7_greatestSmudge_109 : decode cX7_greatestSmudge 109 = .ok (.iconst (-1), 1) := by decide +kernel
theorem dX7_greatestSmudge_110 : decode cX7_greatestSmudge 110 = .ok (.ireturn, 1) := by decide +kernel
theorem dX7_undo_0 : decode cX7_undo 0 = .ok (.aload_n 0, 1) := by decide +kernel
theorem dX7_undo_1 : decode cX7_undo 1 = .ok (.getfield 19, 3) := by decide +kernel
theorem dX7_undo_4 : decode cX7_undo 4 = .ok (.invokevirtual 223, 3) := by decide +kernel
theorem dX7_undo_7 : decode cX7_undo 7 = .ok (.ifCond .ne 13, 3) := by decide +kernel
theorem dX7_undo_10 : decode cX7_undo 10 = .ok (.new 128, 3) := by decide +kernel
theorem dX7_undo_13 : decode cX7_undo 13 = .ok (.dup, 1) := by decide +kernel
theorem dX7_undo_14 : decode cX7_undo 14 = .ok (.ldc 224, 2) := by decide +kernel
theorem dX7_undo_16 : decode cX7_undo 16 = .ok (.invokespecial 132, 3) := by decide +kernel
theorem dX7_undo_19 : decode cX7_undo 19 = .ok (.athrow, 1) := by decide +kernel
theorem dX7_undo_20 : decode cX7_undo 20 = .ok (.aload_n 0, 1) := by decide +kernel
theorem dX7_undo_21 : decode cX7_undo 21 = .ok (.getfield 19, 3) := by decide +kernel
theorem dX7_undo_24 : decode cX7_undo 24 = .ok (.aload_n 0, 1) := by decide +kernel
theorem dX7_undo_25 : decode cX7_undo 25 = .ok (.getfield 10, 3) := by decide +kernel
theorem dX7_undo_28 : decode cX7_undo 28 = .ok (.invokevirtual 226, 3) := by decide +kernel
theorem dX7_undo_31 : decode cX7_undo 31 = .ok (.aload_n 0, 1) := by decide +kernel
theorem dX7_undo_32 : decode cX7_undo 32 = .ok (.getfield 19, 3) := by decide +kernel
theorem dX7_undo_35 : decode cX7_undo 35 = .ok (.invokevirtual 223, 3) := by decide +kernel
theorem dX7_undo_38 : decode cX7_undo 38 = .ok (.ireturn, 1) := by decide +kernel
theorem dX7_run_0 : decode cX7_run 0 = .ok (.aload_n 0, 1) := by decide +kernel
theorem dX7_run_1 : decode cX7_run 1 = .ok (.invokevirtual 206, 3) := by decide +kernel
theorem dX7_run_4 : decode cX7_run 4 = .ok (.aload_n 0, 1) := by decide +kernel
theorem dX7_run_5 : decode cX7_run 5 = .ok (.getfield 39, 3) := by decide +kernel
theorem dX7_run_8 : decode cX7_run 8 = .ok (.invokevirtual 136, 3) := by decide +kernel
theorem dX7_run_11 : decode cX7_run 11 = .ok (.if_icmp .ge 7, 3) := by decide +kernel
theorem dX7_run_14 : decode cX7_run 14 = .ok (.iconst 1, 1) := by decide +kernel
theorem dX7_run_15 : decode cX7_run 15 = .ok (.goto 4, 3) := by decide +kernel
theorem dX7_run_18 : decode cX7_run 18 = .ok (.iconst 0, 1) := by decide +kernel
theorem dX7_run_19 : decode cX7_run 19 = .ok (.istore_n 1, 1) := by decide +kernel
theorem dX7_run_20 : decode cX7_run 20 = .ok (.iload_n 1, 1) := by decide +kernel
theorem dX7_run_21 : decode cX7_run 21 = .ok (.ifCond .ne 13, 3) := by decide +kernel
theorem dX7_run_24 : decode cX7_run 24 = .ok (.aload_n 0, 1) := by decide +kernel
theorem dX7_run_25 : decode cX7_run 25 = .ok (.getfield 45, 3) := by decide +kernel
theorem dX7_run_28 : decode cX7_run 28 = .ok (.invokevirtual 209, 3) := by decide +kernel
theorem dX7_run_31 : decode cX7_run 31 = .ok (.ifCond .ne 13, 3) := by decide +kernel
theorem dX7_run_34 : decode cX7_run 34 = .ok (.new 49, 3) := by decide +kernel
theorem dX7_run_37 : decode cX7_run 37 = .ok (.dup, 1) := by decide +kernel
theorem dX7_run_38 : decode cX7_run 38 = .ok (.ldc 212, 2) := by decide +kernel
theorem dX7_run_40 : decode cX7_run 40 = .ok (.invokespecial 53, 3) := by decide +kernel
theorem dX7_run_43 : decode cX7_run 43 = .ok (.athrow, 1) := by decide +kernel
theorem dX7_run_44 : decode cX7_run 44 = .ok (.aload_n 0, 1) := by decide +kernel
theorem dX7_run_45 : decode cX7_run 45 = .ok (.getfield 19, 3) := by decide +kernel
theorem dX7_run_48 : decode cX7_run 48 = .ok (.aload_n 0, 1) := by decide +kernel
theorem dX7_run_49 : decode cX7_run 49 = .ok (.getfield 10, 3) := by decide +kernel
theorem dX7_run_52 : decode cX7_run 52 = .ok (.invokevirtual 62, 3) := by decide +kernel
theorem dX7_run_55 : decode cX7_run 55 = .ok (.iconst 0, 1) := by decide +kernel
theorem dX7_run_56 : decode cX7_run 56 = .ok (.istore_n 2, 1) := by decide +kernel
theorem dX7_run_57 : decode cX7_run 57 = .ok (.iconst 1, 1) := by decide +kernel
theorem dX7_run_58 : decode cX7_run 58 = .ok (.istore_n 3, 1) := by decide +kernel
theorem dX7_run_59 : decode cX7_run 59 = .ok (.aload_n 0, 1) := by decide +kernel
theorem dX7_run_60 : decode cX7_run 60 = .ok (.getfield 45, 3) := by decide +kernel
theorem dX7_run_63 : decode cX7_run 63 = .ok (.invokevirtual 214, 3) := by decide +kernel
theorem dX7_run_66 : decode cX7_run 66 = .ok (.iconst 0, 1) := by decide +kernel
theorem dX7_run_67 : decode cX7_run 67 = .ok (.istore 4, 2) := by decide +kernel
theorem dX7_run_69 : decode cX7_run 69 = .ok (.iload_n 3, 1) := by decide +kernel
theorem dX7_run_70 : decode cX7_run 70 = .ok (.ifCond .eq 83, 3) := by decide +kernel
theorem dX7_run_73 : decode cX7_run 73 = .ok (.iload 4, 2) := by decide +kernel
theorem dX7_run_75 : decode cX7_run 75 = .ok (.aload_n 0, 1) := by decide +kernel
theorem dX7_run_76 : decode cX7_run 76 = .ok (.getfield 39, 3) := by decide +kernel
theorem dX7_run_79 : decode cX7_run 79 = .ok (.invokevirtual 136, 3) := by decide +kernel
theorem dX7_run_82 : decode cX7_run 82 = .ok (.if_icmp .ge 71, 3) := by decide +kernel
theorem dX7_run_85 : decode cX7_run 85 = .ok (.aload_n 0, 1) := by decide +kernel
theorem dX7_run_86 : decode cX7_run 86 = .ok (.getfield 45, 3) := by decide +kernel
theorem dX7_run_89 : decode cX7_run 89 = .ok (.aload_n 0, 1) := by decide +kernel
theorem dX7_run_90 : decode cX7_run 90 = .ok (.getfield 39, 3) := by decide +kernel
theorem dX7_run_93 : decode cX7_run 93 = .ok (.iload 4, 2) := by decide +kernel
theorem dX7_run_95 : decode cX7_run 95 = .ok (.invokevirtual 79, 3) := by decide +kernel
theorem dX7_run_98 : decode cX7_run 98 = .ok (.invokevirtual 217, 3) := by decide +kernel
theorem dX7_run_101 : decode cX7_run 101 = .ok (.pop, 1) := by decide +kernel
theorem dX7_run_102 : decode cX7_run 102 = .ok (.iload 4, 2) := by decide +kernel
theorem dX7_run_104 : decode cX7_run 104 = .ok (.aload_n 0, 1) := by decide +kernel
theorem dX7_run_105 : decode cX7_run 105 = .ok (.getfield 39, 3) := by decide +kernel
theorem dX7_run_108 : decode cX7_run 108 = .ok (.invokevirtual 136, 3) := by decide +kernel
theorem dX7_run_111 : decode cX7_run 111 = .ok (.iconst 1, 1) := by decide +kernel
theorem dX7_run_112 : decode cX7_run 112 = .ok (.isub, 1) := by decide +kernel
theorem dX7_run_113 : decode cX7_run 113 = .ok (.if_icmp .eq 17, 3) := by decide +kernel
theorem dX7_run_116 : decode cX7_run 116 = .ok (.aload_n 0, 1) := by decide +kernel
theorem dX7_run_117 : decode cX7_run 117 = .ok (.getfield 39, 3) := by decide +kernel
theorem dX7_run_120 : decode cX7_run 120 = .ok (.iload 4, 2) := by decide +kernel
theorem dX7_run_122 : decode cX7_run 122 = .ok (.invokevirtual 79, 3) := by decide +kernel
theorem dX7_run_125 : decode cX7_run 125 = .ok (.bipush 59, 2) := by decide +kernel
theorem dX7_run_127 : decode cX7_run 127 = .ok (.if_icmp .ne 20, 3) := by decide +kernel
theorem dX7_run_130 : decode cX7_run 130 = .ok (.aload_n 0, 1) := by decide +kernel
theorem dX7_run_131 : decode cX7_run 131 = .ok (.invokevirtual 220, 3) := by decide +kernel
theorem dX7_run_134 : decode cX7_run 134 = .ok (.istore_n 3, 1) := by decide +kernel
theorem dX7_run_135 : decode cX7_run 135 = .ok (.iload_n 2, 1) := by decide +kernel
theorem dX7_run_136 : decode cX7_run 136 = .ok (.iload_n 3, 1) := by decide +kernel
theorem dX7_run_137 : decode cX7_run 137 = .ok (.ifCond .eq 7, 3) := by decide +kernel
theorem dX7_run_140 : decode cX7_run 140 = .ok (.iconst 1, 1) := by decide +kernel
theorem dX7_run_141 : decode cX7_run 141 = .ok (.goto 4, 3) := by decide +kernel
theorem dX7_run_144 : decode cX7_run 144 = .ok (.iconst 0, 1) := by decide +kernel
theorem dX7_run_145 : decode cX7_run 145 = .ok (.iadd, 1) := by decide +kernel
theorem dX7_run_146 : decode cX7_run 146 = .ok (.istore_n 2, 1) := by decide +kernel
theorem dX7_run_147 : decode cX7_run 147 = .ok (.iinc 4 1, 3) := by decide +kernel
theorem dX7_run_150 : decode cX7_run 150 = .ok (.goto (-81), 3) := by decide +kernel
theorem dX7_run_153 : decode cX7_run 153 = .ok (.aload_n 0, 1) := by decide +kernel
theorem dX7_run_154 : decode cX7_run 154 = .ok (.getfield 39, 3) := by decide +kernel
theorem dX7_run_157 : decode cX7_run 157 = .ok (.invokevirtual 137, 3) := by decide +kernel
theorem dX7_run_160 : decode cX7_run 160 = .ok (.iload_n 2, 1) := by decide +kernel
theorem dX7_run_161 : decode cX7_run 161 = .ok (.ireturn, 1) := by decide +kernel
theorem dX7_requireDrawing_0 : decode cX7_requireDrawing 0 = .ok (.iload_n 1, 1) := by decide +kernel
theorem dX7_requireDrawing_1 : decode cX7_requireDrawing 1 = .ok (.iconst 1, 1) := by decide +kernel
theorem dX7_requireDrawing_2 : decode cX7_requireDrawing 2 = .ok (.if_icmp .lt 20, 3) := by decide +kernel
theorem dX7_requireDrawing_5 : decode cX7_requireDrawing 5 = .ok (.iload_n 1, 1) := by decide +kernel
theorem dX7_requireDrawing_6 : decode cX7_requireDrawing 6 = .ok (.bipush 50, 2) := by decide +kernel
theorem dX7_requireDrawing_8 : decode cX7_requireDrawing 8 = .ok (.if_icmp .gt 14, 3) := by decide +kernel
theorem dX7_requireDrawing_11 : decode cX7_requireDrawing 11 = .ok (.iload_n 2, 1) := by decide +kernel
theorem dX7_requireDrawing_12 : decode cX7_requireDrawing 12 = .ok (.iconst 1, 1) := by decide +kernel
theorem dX7_requireDrawing_13 : decode cX7_requireDrawing 13 = .ok (.if_icmp .lt 9, 3) := by decide +kernel
theorem dX7_requireDrawing_16 : decode cX7_requireDrawing 16 = .ok (.iload_n 2, 1) := by decide +kernel
theorem dX7_requireDrawing_17 : decode cX7_requireDrawing 17 = .ok (.bipush 50, 2) := by decide +kernel
theorem dX7_requireDrawing_19 : decode cX7_requireDrawing 19 = .ok (.if_icmp .le 14, 3) := by decide +kernel
theorem dX7_requireDrawing_22 : decode cX7_requireDrawing 22 = .ok (.new 49, 3) := by decide +kernel
theorem dX7_requireDrawing_25 : decode cX7_requireDrawing 25 = .ok (.dup, 1) := by decide +kernel
theorem dX7_requireDrawing_26 : decode cX7_requireDrawing 26 = .ok (.ldc_w 263, 3) := by decide +kernel
theorem dX7_requireDrawing_29 : decode cX7_requireDrawing 29 = .ok (.invokespecial 53, 3) := by decide +kernel
theorem dX7_requireDrawing_32 : decode cX7_requireDrawing 32 = .ok (.athrow, 1) := by decide +kernel
theorem dX7_requireDrawing_33 : decode cX7_requireDrawing 33 = .ok (.aload_n 0, 1) := by decide +kernel
theorem dX7_requireDrawing_34 : decode cX7_requireDrawing 34 = .ok (.getfield 10, 3) := by decide +kernel
theorem dX7_requireDrawing_37 : decode cX7_requireDrawing 37 = .ok (.getfield 66, 3) := by decide +kernel
theorem dX7_requireDrawing_40 : decode cX7_requireDrawing 40 = .ok (.invokevirtual 93, 3) := by decide +kernel
theorem dX7_requireDrawing_43 : decode cX7_requireDrawing 43 = .ok (.ifCond .ne 14, 3) := by decide +kernel
theorem dX7_requireDrawing_46 : decode cX7_requireDrawing 46 = .ok (.new 128, 3) := by decide +kernel
theorem dX7_requireDrawing_49 : decode cX7_requireDrawing 49 = .ok (.dup, 1) := by decide +kernel
theorem dX7_requireDrawing_50 : decode cX7_requireDrawing 50 = .ok (.ldc_w 265, 3) := by decide +kernel
theorem dX7_requireDrawing_53 : decode cX7_requireDrawing 53 = .ok (.invokespecial 132, 3) := by decide +kernel
theorem dX7_requireDrawing_56 : decode cX7_requireDrawing 56 = .ok (.athrow, 1) := by decide +kernel
theorem dX7_requireDrawing_57 : decode cX7_requireDrawing 57 = .ok (.return_, 1) := by decide +kernel
theorem dX7_draw_0 : decode cX7_draw 0 = .ok (.aload_n 0, 1) := by decide +kernel
theorem dX7_draw_1 : decode cX7_draw 1 = .ok (.iload_n 1, 1) := by decide +kernel
theorem dX7_draw_2 : decode cX7_draw 2 = .ok (.iload_n 2, 1) := by decide +kernel
theorem dX7_draw_3 : decode cX7_draw 3 = .ok (.invokevirtual 109, 3) := by decide +kernel
theorem dX7_draw_6 : decode cX7_draw 6 = .ok (.aload_n 0, 1) := by decide +kernel
theorem dX7_draw_7 : decode cX7_draw 7 = .ok (.getfield 19, 3) := by decide +kernel
theorem dX7_draw_10 : decode cX7_draw 10 = .ok (.aload_n 0, 1) := by decide +kernel
theorem dX7_draw_11 : decode cX7_draw 11 = .ok (.getfield 10, 3) := by decide +kernel
theorem dX7_draw_14 : decode cX7_draw 14 = .ok (.invokevirtual 62, 3) := by decide +kernel
theorem dX7_draw_17 : decode cX7_draw 17 = .ok (.aload_n 0, 1) := by decide +kernel
theorem dX7_draw_18 : decode cX7_draw 18 = .ok (.getfield 10, 3) := by decide +kernel
theorem dX7_draw_21 : decode cX7_draw 21 = .ok (.getfield 66, 3) := by decide +kernel
theorem dX7_draw_24 : decode cX7_draw 24 = .ok (.aload_n 0, 1) := by decide +kernel
theorem dX7_draw_25 : decode cX7_draw 25 = .ok (.getfield 10, 3) := by decide +kernel
theorem dX7_draw_28 : decode cX7_draw 28 = .ok (.getfield 112, 3) := by decide +kernel
theorem dX7_draw_31 : decode cX7_draw 31 = .ok (.iload_n 1, 1) := by decide +kernel
theorem dX7_draw_32 : decode cX7_draw 32 = .ok (.iload_n 2, 1) := by decide +kernel
theorem dX7_draw_33 : decode cX7_draw 33 = .ok (.iload_n 3, 1) := by decide +kernel
theorem dX7_draw_34 : decode cX7_draw 34 = .ok (.invokevirtual 115, 3) := by decide +kernel
theorem dX7_draw_37 : decode cX7_draw 37 = .ok (.aload_n 0, 1) := by decide +kernel
theorem dX7_draw_38 : decode cX7_draw 38 = .ok (.invokevirtual 119, 3) := by decide +kernel
theorem dX7_draw_41 : decode cX7_draw 41 = .ok (.ireturn, 1) := by decide +kernel
theorem dX7_ifDrawn_0 : decode cX7_ifDrawn 0 = .ok (.aload_n 0, 1) := by decide +kernel
theorem dX7_ifDrawn_1 : decode cX7_ifDrawn 1 = .ok (.iload_n 1, 1) := by decide +kernel
theorem dX7_ifDrawn_2 : decode cX7_ifDrawn 2 = .ok (.iload_n 2, 1) := by decide +kernel
theorem dX7_ifDrawn_3 : decode cX7_ifDrawn 3 = .ok (.invokevirtual 109, 3) := by decide +kernel
theorem dX7_ifDrawn_6 : decode cX7_ifDrawn 6 = .ok (.aload_n 0, 1) := by decide +kernel
theorem dX7_ifDrawn_7 : decode cX7_ifDrawn 7 = .ok (.getfield 10, 3) := by decide +kernel
theorem dX7_ifDrawn_10 : decode cX7_ifDrawn 10 = .ok (.getfield 66, 3) := by decide +kernel
theorem dX7_ifDrawn_13 : decode cX7_ifDrawn 13 = .ok (.aload_n 0, 1) := by decide +kernel
theorem dX7_ifDrawn_14 : decode cX7_ifDrawn 14 = .ok (.getfield 35, 3) := by decide +kernel
theorem dX7_ifDrawn_17 : decode cX7_ifDrawn 17 = .ok (.iload_n 1, 1) := by decide +kernel
theorem dX7_ifDrawn_18 : decode cX7_ifDrawn 18 = .ok (.iload_n 2, 1) := by decide +kernel
theorem dX7_ifDrawn_19 : decode cX7_ifDrawn 19 = .ok (.iload_n 3, 1) := by decide +kernel
theorem dX7_ifDrawn_20 : decode cX7_ifDrawn 20 = .ok (.invokevirtual 115, 3) := by decide +kernel
theorem dX7_ifDrawn_23 : decode cX7_ifDrawn 23 = .ok (.aload_n 0, 1) := by decide +kernel
theorem dX7_ifDrawn_24 : decode cX7_ifDrawn 24 = .ok (.getfield 26, 3) := by decide +kernel
theorem dX7_ifDrawn_27 : decode cX7_ifDrawn 27 = .ok (.aload_n 0, 1) := by decide +kernel
theorem dX7_ifDrawn_28 : decode cX7_ifDrawn 28 = .ok (.getfield 35, 3) := by decide +kernel
theorem dX7_ifDrawn_31 : decode cX7_ifDrawn 31 = .ok (.aload_n 0, 1) := by decide +kernel
theorem dX7_ifDrawn_32 : decode cX7_ifDrawn 32 = .ok (.getfield 10, 3) := by decide +kernel
theorem dX7_ifDrawn_35 : decode cX7_ifDrawn 35 = .ok (.getfield 144, 3) := by decide +kernel
theorem dX7_ifDrawn_38 : decode cX7_ifDrawn 38 = .ok (.invokevirtual 148, 3) := by decide +kernel
theorem dX7_ifDrawn_41 : decode cX7_ifDrawn 41 = .ok (.ireturn, 1) := by decide +kernel
theorem dX7_digit_0 : decode cX7_digit 0 = .ok (.iload_n 1, 1) := by decide +kernel
theorem dX7_digit_1 : decode cX7_digit 1 = .ok (.ifCond .lt 9, 3) := by decide +kernel
theorem dX7_digit_4 : decode cX7_digit 4 = .ok (.iload_n 1, 1) := by decide +kernel
theorem dX7_digit_5 : decode cX7_digit 5 = .ok (.bipush 9, 2) := by decide +kernel
theorem dX7_digit_7 : decode cX7_digit 7 = .ok (.if_icmp .lt 13, 3) := by decide +kernel
theorem dX7_digit_10 : decode cX7_digit 10 = .ok (.new 104, 3) := by decide +kernel
theorem dX7_digit_13 : decode cX7_digit 13 = .ok (.dup, 1) := by decide +kernel
theorem dX7_digit_14 : decode cX7_digit 14 = .ok (.ldc 156, 2) := by decide +kernel
theorem dX7_digit_16 : decode cX7_digit 16 = .ok (.invokespecial 108, 3) := by decide +kernel
theorem dX7_digit_19 : decode cX7_digit 19 = .ok (.athrow, 1) := by decide +kernel
theorem dX7_digit_20 : decode cX7_digit 20 = .ok (.aload_n 0, 1) := by decide +kernel
theorem dX7_digit_21 : decode cX7_digit 21 = .ok (.getfield 26, 3) := by decide +kernel
theorem dX7_digit_24 : decode cX7_digit 24 = .ok (.aload_n 0, 1) := by decide +kernel
theorem dX7_digit_25 : decode cX7_digit 25 = .ok (.getfield 10, 3) := by decide +kernel
theorem dX7_digit_28 : decode cX7_digit 28 = .ok (.getfield 112, 3) := by decide +kernel
theorem dX7_digit_31 : decode cX7_digit 31 = .ok (.aload_n 0, 1) := by decide +kernel
theorem dX7_digit_32 : decode cX7_digit 32 = .ok (.getfield 10, 3) := by decide +kernel
theorem dX7_digit_35 : decode cX7_digit 35 = .ok (.getfield 144, 3) := by decide +kernel
theorem dX7_digit_38 : decode cX7_digit 38 = .ok (.invokevirtual 148, 3) := by decide +kernel
theorem dX7_digit_41 : decode cX7_digit 41 = .ok (.istore_n 2, 1) := by decide +kernel
theorem dX7_digit_42 : decode cX7_digit 42 = .ok (.iload_n 2, 1) := by decide +kernel
theorem dX7_digit_43 : decode cX7_digit 43 = .ok (.invokestatic 158, 3) := by decide +kernel
theorem dX7_digit_46 : decode cX7_digit 46 = .ok (.ifCond .eq 31, 3) := by decide +kernel
theorem dX7_digit_49 : decode cX7_digit 49 = .ok (.aload_n 0, 1) := by decide +kernel
theorem dX7_digit_50 : decode cX7_digit 50 = .ok (.getfield 26, 3) := by decide +kernel
theorem dX7_digit_53 : decode cX7_digit 53 = .ok (.getfield 161, 3) := by decide +kernel
theorem dX7_digit_56 : decode cX7_digit 56 = .ok (.iload_n 1, 1) := by decide +kernel
theorem dX7_digit_57 : decode cX7_digit 57 = .ok (.invokevirtual 100, 3) := by decide +kernel
theorem dX7_digit_60 : decode cX7_digit 60 = .ok (.ifCond .eq 17, 3) := by decide +kernel
theorem dX7_digit_63 : decode cX7_digit 63 = .ok (.aload_n 0, 1) := by decide +kernel
theorem dX7_digit_64 : decode cX7_digit 64 = .ok (.getfield 26, 3) := by decide +kernel
theorem dX7_digit_67 : decode cX7_digit 67 = .ok (.getfield 161, 3) := by decide +kernel
theorem dX7_digit_70 : decode cX7_digit 70 = .ok (.iload_n 1, 1) := by decide +kernel
theorem dX7_digit_71 : decode cX7_digit 71 = .ok (.invokevirtual 79, 3) := by decide +kernel
theorem dX7_digit_74 : decode cX7_digit 74 = .ok (.goto 4, 3) := by decide +kernel
theorem dX7_digit_77 : decode cX7_digit 77 = .ok (.iconst (-1), 1) := by decide +kernel
theorem dX7_digit_78 : decode cX7_digit 78 = .ok (.ireturn, 1) := by decide +kernel
theorem dX7_measure_0 : decode cX7_measure 0 = .ok (.iload_n 1, 1) := by decide +kernel
theorem dX7_measure_1 : decode cX7_measure 1 = .ok (.iconst 1, 1) := by decide +kernel
theorem dX7_measure_2 : decode cX7_measure 2 = .ok (.if_icmp .lt 10, 3) := by decide +kernel
theorem dX7_measure_5 : decode cX7_measure 5 = .ok (.iload_n 1, 1) := by decide +kernel
theorem dX7_measure_6 : decode cX7_measure 6 = .ok (.sipush 9999, 3) := by decide +kernel
theorem dX7_measure_9 : decode cX7_measure 9 = .ok (.if_icmp .le 13, 3) := by decide +kernel
theorem dX7_measure_12 : decode cX7_measure 12 = .ok (.new 49, 3) := by decide +kernel
theorem dX7_measure_15 : decode cX7_measure 15 = .ok (.dup, 1) := by decide +kernel
theorem dX7_measure_16 : decode cX7_measure 16 = .ok (.ldc 122, 2) := by decide +kernel
theorem dX7_measure_18 : decode cX7_measure 18 = .ok (.invokespecial 53, 3) := by decide +kernel
theorem dX7_measure_21 : decode cX7_measure 21 = .ok (.athrow, 1) := by decide +kernel
theorem dX7_measure_22 : decode cX7_measure 22 = .ok (.aload_n 0, 1) := by decide +kernel
theorem dX7_measure_23 : decode cX7_measure 23 = .ok (.getfield 10, 3) := by decide +kernel
theorem dX7_measure_26 : decode cX7_measure 26 = .ok (.getfield 112, 3) := by decide +kernel
theorem dX7_measure_29 : decode cX7_measure 29 = .ok (.invokevirtual 124, 3) := by decide +kernel
theorem dX7_measure_32 : decode cX7_measure 32 = .ok (.ifCond .eq 13, 3) := by decide +kernel
theorem dX7_measure_35 : decode cX7_measure 35 = .ok (.new 128, 3) := by decide +kernel
theorem dX7_measure_38 : decode cX7_measure 38 = .ok (.dup, 1) := by decide +kernel
theorem dX7_measure_39 : decode cX7_measure 39 = .ok (.ldc 130, 2) := by decide +kernel
theorem dX7_measure_41 : decode cX7_measure 41 = .ok (.invokespecial 132, 3) := by decide +kernel
theorem dX7_measure_44 : decode cX7_measure 44 = .ok (.athrow, 1) := by decide +kernel
theorem dX7_measure_45 : decode cX7_measure 45 = .ok (.aload_n 0, 1) := by decide +kernel
theorem dX7_measure_46 : decode cX7_measure 46 = .ok (.getfield 19, 3) := by decide +kernel
theorem dX7_measure_49 : decode cX7_measure 49 = .ok (.aload_n 0, 1) := by decide +kernel
theorem dX7_measure_50 : decode cX7_measure 50 = .ok (.getfield 10, 3) := by decide +kernel
theorem dX7_measure_53 : decode cX7_measure 53 = .ok (.invokevirtual 62, 3) := by decide +kernel
theorem dX7_measure_56 : decode cX7_measure 56 = .ok (.aload_n 0, 1) := by decide +kernel
theorem dX7_measure_57 : decode cX7_measure 57 = .ok (.getfield 10, 3) := by decide +kernel
theorem dX7_measure_60 : decode cX7_measure 60 = .ok (.getfield 112, 3) := by decide +kernel
theorem dX7_measure_63 : decode cX7_measure 63 = .ok (.iload_n 1, 1) := by decide +kernel
theorem dX7_measure_64 : decode cX7_measure 64 = .ok (.invokevirtual 133, 3) := by decide +kernel
theorem dX7_measure_67 : decode cX7_measure 67 = .ok (.aload_n 0, 1) := by decide +kernel
theorem dX7_measure_68 : decode cX7_measure 68 = .ok (.getfield 10, 3) := by decide +kernel
theorem dX7_measure_71 : decode cX7_measure 71 = .ok (.getfield 112, 3) := by decide +kernel
theorem dX7_measure_74 : decode cX7_measure 74 = .ok (.invokevirtual 136, 3) := by decide +kernel
theorem dX7_measure_77 : decode cX7_measure 77 = .ok (.ireturn, 1) := by decide +kernel
theorem dX7_setTolerance_0 : decode cX7_setTolerance 0 = .ok (.iload_n 1, 1) := by decide +kernel
theorem dX7_setTolerance_1 : decode cX7_setTolerance 1 = .ok (.iconst 1, 1) := by decide +kernel
theorem dX7_setTolerance_2 : decode cX7_setTolerance 2 = .ok (.if_icmp .lt 9, 3) := by decide +kernel
theorem dX7_setTolerance_5 : decode cX7_setTolerance 5 = .ok (.iload_n 1, 1) := by decide +kernel
theorem dX7_setTolerance_6 : decode cX7_setTolerance 6 = .ok (.bipush 8, 2) := by decide +kernel
theorem dX7_setTolerance_8 : decode cX7_setTolerance 8 = .ok (.if_icmp .le 13, 3) := by decide +kernel
theorem dX7_setTolerance_11 : decode cX7_setTolerance 11 = .ok (.new 49, 3) := by decide +kernel
theorem dX7_setTolerance_14 : decode cX7_setTolerance 14 = .ok (.dup, 1) := by decide +kernel
theorem dX7_setTolerance_15 : decode cX7_setTolerance 15 = .ok (.ldc 142, 2) := by decide +kernel
theorem dX7_setTolerance_17 : decode cX7_setTolerance 17 = .ok (.invokespecial 53, 3) := by decide +kernel
theorem dX7_setTolerance_20 : decode cX7_setTolerance 20 = .ok (.athrow, 1) := by decide +kernel
theorem dX7_setTolerance_21 : decode cX7_setTolerance 21 = .ok (.aload_n 0, 1) := by decide +kernel
theorem dX7_setTolerance_22 : decode cX7_setTolerance 22 = .ok (.getfield 19, 3) := by decide +kernel
theorem dX7_setTolerance_25 : decode cX7_setTolerance 25 = .ok (.aload_n 0, 1) := by decide +kernel
theorem dX7_setTolerance_26 : decode cX7_setTolerance 26 = .ok (.getfield 10, 3) := by decide +kernel
theorem dX7_setTolerance_29 : decode cX7_setTolerance 29 = .ok (.invokevirtual 62, 3) := by decide +kernel
theorem dX7_setTolerance_32 : decode cX7_setTolerance 32 = .ok (.aload_n 0, 1) := by decide +kernel
theorem dX7_setTolerance_33 : decode cX7_setTolerance 33 = .ok (.getfield 10, 3) := by decide +kernel
theorem dX7_setTolerance_36 : decode cX7_setTolerance 36 = .ok (.getfield 144, 3) := by decide +kernel
theorem dX7_setTolerance_39 : decode cX7_setTolerance 39 = .ok (.istore_n 2, 1) := by decide +kernel
theorem dX7_setTolerance_40 : decode cX7_setTolerance 40 = .ok (.aload_n 0, 1) := by decide +kernel
theorem dX7_setTolerance_41 : decode cX7_setTolerance 41 = .ok (.getfield 10, 3) := by decide +kernel
theorem dX7_setTolerance_44 : decode cX7_setTolerance 44 = .ok (.iload_n 1, 1) := by decide +kernel
theorem dX7_setTolerance_45 : decode cX7_setTolerance 45 = .ok (.putfield 144, 3) := by decide +kernel
theorem dX7_setTolerance_48 : decode cX7_setTolerance 48 = .ok (.iload_n 2, 1) := by decide +kernel
theorem dX7_setTolerance_49 : decode cX7_setTolerance 49 = .ok (.ireturn, 1) := by decide +kernel
theorem dX7_append_0 : decode cX7_append 0 = .ok (.iload_n 1, 1) := by decide +kernel
theorem dX7_append_1 : decode cX7_append 1 = .ok (.bipush 33, 2) := by decide +kernel
theorem dX7_append_3 : decode cX7_append 3 = .ok (.if_icmp .lt 9, 3) := by decide +kernel
theorem dX7_append_6 : decode cX7_append 6 = .ok (.iload_n 1, 1) := by decide +kernel
theorem dX7_append_7 : decode cX7_append 7 = .ok (.bipush 126, 2) := by decide +kernel
theorem dX7_append_9 : decode cX7_append 9 = .ok (.if_icmp .le 13, 3) := by decide +kernel
theorem dX7_append_12 : decode cX7_append 12 = .ok (.new 49, 3) := by decide +kernel
theorem dX7_append_15 : decode cX7_append 15 = .ok (.dup, 1) := by decide +kernel
theorem dX7_append_16 : decode cX7_append 16 = .ok (.ldc 202, 2) := by decide +kernel
theorem dX7_append_18 : decode cX7_append 18 = .ok (.invokespecial 53, 3) := by decide +kernel
theorem dX7_append_21 : decode cX7_append 21 = .ok (.athrow, 1) := by decide +kernel
theorem dX7_append_22 : decode cX7_append 22 = .ok (.aload_n 0, 1) := by decide +kernel
theorem dX7_append_23 : decode cX7_append 23 = .ok (.getfield 39, 3) := by decide +kernel
theorem dX7_append_26 : decode cX7_append 26 = .ok (.invokevirtual 124, 3) := by decide +kernel
theorem dX7_append_29 : decode cX7_append 29 = .ok (.ifCond .eq 13, 3) := by decide +kernel
theorem dX7_append_32 : decode cX7_append 32 = .ok (.new 128, 3) := by decide +kernel
theorem dX7_append_35 : decode cX7_append 35 = .ok (.dup, 1) := by decide +kernel
theorem dX7_append_36 : decode cX7_append 36 = .ok (.ldc 204, 2) := by decide +kernel
theorem dX7_append_38 : decode cX7_append 38 = .ok (.invokespecial 132, 3) := by decide +kernel
theorem dX7_append_41 : decode cX7_append 41 = .ok (.athrow, 1) := by decide +kernel
theorem dX7_append_42 : decode cX7_append 42 = .ok (.aload_n 0, 1) := by decide +kernel
theorem dX7_append_43 : decode cX7_append 43 = .ok (.getfield 39, 3) := by decide +kernel
theorem dX7_append_46 : decode cX7_append 46 = .ok (.iload_n 1, 1) := by decide +kernel
theorem dX7_append_47 : decode cX7_append 47 = .ok (.invokevirtual 133, 3) := by decide +kernel
theorem dX7_append_50 : decode cX7_append 50 = .ok (.aload_n 0, 1) := by decide +kernel
theorem dX7_append_51 : decode cX7_append 51 = .ok (.getfield 39, 3) := by decide +kernel
theorem dX7_append_54 : decode cX7_append 54 = .ok (.invokevirtual 136, 3) := by decide +kernel
theorem dX7_append_57 : decode cX7_append 57 = .ok (.ireturn, 1) := by decide +kernel
theorem has0 (i : Int32) : (if i < 0 then 0 else if (0 : Int32) ≤ i then 0 else 1 : Int32) = 0 := by
  by_cases h : i < 0
  · rw [if_pos h]
  · rw [if_neg h, if_pos (fa_of_nlt h)]
def k_per (l r : Int32) : Prop := ¬ l < 1 ∧ ¬ 50 < l ∧ ¬ r < 1 ∧ r ≤ 50
def k_in9 (i : Int32) : Prop := ¬ i < 0 ∧ i < 9
def k_tim (i : Int32) : Prop := ¬ i < 1 ∧ i ≤ 9999
def k_tol (i : Int32) : Prop := ¬ i < 1 ∧ i ≤ 8
def k_chr (i : Int32) : Prop := ¬ i < 33 ∧ i ≤ 126
theorem near0 {i : Int32} (h : ¬ i < 0) : ¬ i ≤ (-4) := fun h2 => h (Int32.lt_of_le_of_lt h2 (by decide))
set_option maxHeartbeats 4000000 in
set_option maxRecDepth 100000 in
theorem c_W_reqEl (l : Launch) (hst : l.stackTraces = false) (D : va_G) (w : Nat) (st : Nat) (hi : Nat) (re : Nat) (fo : Nat) (bu : Nat) (pa : Nat) (la : Nat) (me : Nat) (li : Nat) (tol : Int32) (su : Int32) (fa : Int32) (ld : Nat) (lz : Nat) (lzA : Nat) (i : Int32) (sz : Nat) : k_Xv (S := Unit) l D yX7_requireElement cX7_requireElement 2 none 6 1 6 82 [.ref w, .int i] [(w, .inr (7, [.ref st, .ref hi, .ref re, .ref fo, .ref bu, .ref pa])), (st, .inr (6, [.ref la, .ref me, .ref li, .int tol, .int su, .int fa])), (la, .inr (2, [.ref ld, .ref lz])), (lz, .inr (4, [.ref lzA, .int 0]))] [] (fun (_ : Unit) => False) (fun _ => [(w, .inr (7, [.ref st, .ref hi, .ref re, .ref fo, .ref bu, .ref pa])), (st, .inr (6, [.ref la, .ref me, .ref li, .int tol, .int su, .int fa])), (la, .inr (2, [.ref ld, .ref lz])), (lz, .inr (4, [.ref lzA, .int 0]))]) (fun _ => []) (fun E => E = "java/lang/IndexOutOfBoundsException") sz := by
  refine vx_ofW (cc := cX7_requireElement) (maxL := 2) (ret := none) (by decide) rfl ?_
  intro p e s m args below meth c s₁ B hml htab hv
  obtain ⟨rfl, hsz, hP, hK, hD0, hG⟩ := hv
  have hx := B.exec
  have hb := B.bytes
  have hr := B.returns
  have ht : ∀ v9 ∈ wsA, v9.before ([.ref w, .int i] : List Value).toArray s = true := fun v9 h9 => atoms_spec (ws := k_ws yX7_requireElement cX7_requireElement 2 none) B.pre v9 (List.mem_cons_of_mem _ h9)
  have hown : s.vm.findClass RX7 = some m.cls := findClass_of_methodNamed B.named
  have S0 : k_C p s m ([.ref w, .int i] : List Value).toArray c cX7_requireElement 2 RX7 := ⟨hx, hb, hml, hown, ht⟩
  have hlocks := B.notSynchronized
  subst hsz
  have hD := hD0.self (sz := s.heap.size)
  unfold k_X
  generalize hAe : va_A [(w, .inr (7, [.ref st, .ref hi, .ref re, .ref fo, .ref bu, .ref pa])), (st, .inr (6, [.ref la, .ref me, .ref li, .int tol, .int su, .int fa])), (la, .inr (2, [.ref ld, .ref lz])), (lz, .inr (4, [.ref lzA, .int 0]))] s.heap.size = A at hD hG ⊢
  have hA : ∀ q : Nat, s.heap.size ≤ q → A q := fun q h => by rw [← hAe]; exact Or.inr h
  have hS : va_S A s.heap s.heap [] := va_S.rf
  have hl := lv_entry ([.ref w, .int i]) (n := 2) (Nat.le_of_ble_eq_true rfl)
  rw [lg_entry_eq]
  generalize (lg_sl ([.ref w, .int i]) ++ List.replicate (2 - (lg_sl ([.ref w, .int i])).length) Slot.unset).toArray = ls at hl ⊢
  have hl : lv_has ls 2 [(0, .ref w), (1, .int i)] := hl
  have hP : va_P D vwCl [(w, .inr (7, [.ref st, .ref hi, .ref re, .ref fo, .ref bu, .ref pa])), (st, .inr (6, [.ref la, .ref me, .ref li, .int tol, .int su, .int fa])), (la, .inr (2, [.ref ld, .ref lz])), (lz, .inr (4, [.ref lzA, .int 0]))] s.heap := hP
  refine lv_aload_n hx hb dX7_requireElement_0 rfl (lv_at hl 0 rfl) ?_
  refine va_get (D := D) (ci := 7) (v := .ref st) (C := RX7) (T := TX7) (N := 6) hx hb ht inA_X7 hown hK hP 0 rfl rfl 0 (by decide) (ht _ lf_X7_10) (fun _ h9 => h9) rfl dX7_requireElement_1 ?_
  refine va_get (D := D) (ci := 6) (v := .ref la) (C := RX6) (T := TX6) (N := 6) hx hb ht inA_X6 hown hK hP 1 rfl rfl 0 (by decide) (ht _ lf_X7_66) (fun _ h9 => h9) rfl dX7_requireElement_4 ?_
  refine va_get (D := D) (ci := 2) (v := .ref lz) (C := RX2) (T := TX2) (N := 2) hx hb ht inA_X2 hown hK hP 2 rfl rfl 1 (by decide) (ht _ lf_X7_87) (fun _ h9 => h9) rfl dX7_requireElement_7 ?_
  refine lv_iload_n hx hb dX7_requireElement_10 rfl (lv_at hl 1 rfl) ?_
  have ct := k_cut_of (wc := [(lz, .inr (4, [.ref lzA, .int 0]))]) (wr := [(w, .inr (7, [.ref st, .ref hi, .ref re, .ref fo, .ref bu, .ref pa])), (st, .inr (6, [.ref la, .ref me, .ref li, .int tol, .int su, .int fa])), (la, .inr (2, [.ref ld, .ref lz]))]) (tc := []) hG hS hA hK hP hD [3] [0, 1, 2] [] rfl rfl (by decide) (by decide) (by decide) rfl
  refine k_endi (As := [.ref lz, .int i]) ct (k_runV (As := [.int i]) (rest := []) S0 Lv_X7_100 rfl (ci := 4) (q0 := 0) rfl rfl ct (c_Row_has l D lz lzA 0 i s.heap.size) hl.1 rfl (Nat.le_of_ble_eq_true rfl) rfl dX7_requireElement_11 ⟨⟨Nat.le_of_ble_eq_true rfl, Nat.le_of_ble_eq_true rfl⟩, Nat.le_of_ble_eq_true rfl, Nat.le_of_ble_eq_true rfl⟩) rfl rfl (fun r_1 _ H locs hw_2 hP hD hK hS => ?_)
  have hK : va_K D vwCl [] s := hK
  have hP : va_P D vwCl [(w, .inr (7, [.ref st, .ref hi, .ref re, .ref fo, .ref bu, .ref pa])), (st, .inr (6, [.ref la, .ref me, .ref li, .int tol, .int su, .int fa])), (la, .inr (2, [.ref ld, .ref lz])), (lz, .inr (4, [.ref lzA, .int 0]))] H := hP
  have hD : va_D A [(w, .inr (7, [.ref st, .ref hi, .ref re, .ref fo, .ref bu, .ref pa])), (st, .inr (6, [.ref la, .ref me, .ref li, .int tol, .int su, .int fa])), (la, .inr (2, [.ref ld, .ref lz])), (lz, .inr (4, [.ref lzA, .int 0]))] := hD
  have hw_2 : r_1 = (if i < 0 then 0 else if 0 ≤ i then 0 else 1) := hw_2
  refine lv_if_ne (tgt := 28) hx hb dX7_requireElement_14 (by decide) (fun c9 => absurd (by rw [hw_2]; exact has0 i) c9) (fun c_3 => ?_)
  obtain ⟨sa, hsa⟩ := hG.2.2.2.1 (259, "the label has no such element") (by decide +kernel)
  exact vx_throwSW hx hb hst (own := RX7) (cls := "java/lang/IndexOutOfBoundsException") (text := "the label has no such element") (names := ["java/lang/RuntimeException", "java/lang/Exception"]) (ik := 104) (is := 259) (ic := 108) (sa := sa) hown (by decide +kernel) (by decide +kernel) (ht _ lc_X7_104) (ht _ li_java_lang_IndexOutOfBoundsException) hsa (vx_hat (fun w h => ht w (List.mem_filter.mpr ⟨lh_X7_108.1 w h, (List.mem_filter.mp h).2⟩)) lh_X7_108.2.1 (fun w h => va_Nw.use (k_NX_on (List.mem_filter.mp h).2) (hG.1 w (List.mem_filter.mp h).1 (List.mem_filter.mp h).2))) lh_X7_108.2.2 hG.2.1 hG.2.2.1 hS (by rw [hml]; exact hl.1) dX7_requireElement_17 dX7_requireElement_20 dX7_requireElement_21 dX7_requireElement_24 dX7_requireElement_27 (fun x h9 => (htab x h9).elim) (Nat.le_of_ble_eq_true rfl) (Nat.le_of_ble_eq_true rfl) (Nat.le_of_ble_eq_true rfl) (Nat.le_of_ble_eq_true rfl) hlocks (fun t hv9 hz9 hk9 => ⟨(), trivial, ⟨by exact rfl, (hP.sub [0, 1, 2, 3] rfl).kept (fun k q hk => hk9 _ (vx_lt (hP.sub [0, 1, 2, 3] rfl) hk)), va_K.moved hv9 (hK.sub [] rfl), hD.sub [0, 1, 2, 3] (by decide) rfl⟩, ⟨Nat.le_trans hS.1 hz9, fun q h1 h2 => (hk9 q (Nat.lt_of_lt_of_le h1 hS.1)).trans (hS.2.1 q h1 h2)⟩⟩) hS.2.2 (Nat.le_of_ble_eq_true rfl) (Nat.le_of_ble_eq_true rfl)
set_option maxHeartbeats 4000000 in
set_option maxRecDepth 100000 in
theorem c_W_reqCode (l : Launch) (hst : l.stackTraces = false) (D : va_G) (w : Nat) (st : Nat) (hi : Nat) (re : Nat) (fo : Nat) (bu : Nat) (pa : Nat) (la : Nat) (me : Nat) (li : Nat) (tol : Int32) (su : Int32) (fa : Int32) (ln : Nat) (ll : Nat) (lc : Nat) (lnA : Nat) (i : Int32) (sz : Nat) : k_Xv (S := Unit) l D yX7_requireCode cX7_requireCode 2 none 6 1 6 82 [.ref w, .int i] [(w, .inr (7, [.ref st, .ref hi, .ref re, .ref fo, .ref bu, .ref pa])), (st, .inr (6, [.ref la, .ref me, .ref li, .int tol, .int su, .int fa])), (li, .inr (0, [.ref ln, .ref ll, .ref lc])), (ln, .inr (4, [.ref lnA, .int 0]))] [] (fun (_ : Unit) => False) (fun _ => [(w, .inr (7, [.ref st, .ref hi, .ref re, .ref fo, .ref bu, .ref pa])), (st, .inr (6, [.ref la, .ref me, .ref li, .int tol, .int su, .int fa])), (li, .inr (0, [.ref ln, .ref ll, .ref lc])), (ln, .inr (4, [.ref lnA, .int 0]))]) (fun _ => []) (fun E => E = "java/lang/IndexOutOfBoundsException") sz := by
  refine vx_ofW (cc := cX7_requireCode) (maxL := 2) (ret := none) (by decide) rfl ?_
  intro p e s m args below meth c s₁ B hml htab hv
  obtain ⟨rfl, hsz, hP, hK, hD0, hG⟩ := hv
  have hx := B.exec
  have hb := B.bytes
  have hr := B.returns
  have ht : ∀ v9 ∈ wsA, v9.before ([.ref w, .int i] : List Value).toArray s = true := fun v9 h9 => atoms_spec (ws := k_ws yX7_requireCode cX7_requireCode 2 none) B.pre v9 (List.mem_cons_of_mem _ h9)
  have hown : s.vm.findClass RX7 = some m.cls := findClass_of_methodNamed B.named
  have S0 : k_C p s m ([.ref w, .int i] : List Value).toArray c cX7_requireCode 2 RX7 := ⟨hx, hb, hml, hown, ht⟩
  have hlocks := B.notSynchronized
  subst hsz
  have hD := hD0.self (sz := s.heap.size)
  unfold k_X
  generalize hAe : va_A [(w, .inr (7, [.ref st, .ref hi, .ref re, .ref fo, .ref bu, .ref pa])), (st, .inr (6, [.ref la, .ref me, .ref li, .int tol, .int su, .int fa])), (li, .inr (0, [.ref ln, .ref ll, .ref lc])), (ln, .inr (4, [.ref lnA, .int 0]))] s.heap.size = A at hD hG ⊢
  have hA : ∀ q : Nat, s.heap.size ≤ q → A q := fun q h => by rw [← hAe]; exact Or.inr h
  have hS : va_S A s.heap s.heap [] := va_S.rf
  have hl := lv_entry ([.ref w, .int i]) (n := 2) (Nat.le_of_ble_eq_true rfl)
  rw [lg_entry_eq]
  generalize (lg_sl ([.ref w, .int i]) ++ List.replicate (2 - (lg_sl ([.ref w, .int i])).length) Slot.unset).toArray = ls at hl ⊢
  have hl : lv_has ls 2 [(0, .ref w), (1, .int i)] := hl
  have hP : va_P D vwCl [(w, .inr (7, [.ref st, .ref hi, .ref re, .ref fo, .ref bu, .ref pa])), (st, .inr (6, [.ref la, .ref me, .ref li, .int tol, .int su, .int fa])), (li, .inr (0, [.ref ln, .ref ll, .ref lc])), (ln, .inr (4, [.ref lnA, .int 0]))] s.heap := hP
  refine lv_aload_n hx hb dX7_requireCode_0 rfl (lv_at hl 0 rfl) ?_
  refine va_get (D := D) (ci := 7) (v := .ref st) (C := RX7) (T := TX7) (N := 6) hx hb ht inA_X7 hown hK hP 0 rfl rfl 0 (by decide) (ht _ lf_X7_10) (fun _ h9 => h9) rfl dX7_requireCode_1 ?_
  refine va_get (D := D) (ci := 6) (v := .ref li) (C := RX6) (T := TX6) (N := 6) hx hb ht inA_X6 hown hK hP 1 rfl rfl 2 (by decide) (ht _ lf_X7_171) (fun _ h9 => h9) rfl dX7_requireCode_4 ?_
  refine va_get (D := D) (ci := 0) (v := .ref ln) (C := RX0) (T := TX0) (N := 3) hx hb ht inA_X0 hown hK hP 2 rfl rfl 0 (by decide) (ht _ lf_X7_175) (fun _ h9 => h9) rfl dX7_requireCode_7 ?_
  refine lv_iload_n hx hb dX7_requireCode_10 rfl (lv_at hl 1 rfl) ?_
  have ct := k_cut_of (wc := [(ln, .inr (4, [.ref lnA, .int 0]))]) (wr := [(w, .inr (7, [.ref st, .ref hi, .ref re, .ref fo, .ref bu, .ref pa])), (st, .inr (6, [.ref la, .ref me, .ref li, .int tol, .int su, .int fa])), (li, .inr (0, [.ref ln, .ref ll, .ref lc]))]) (tc := []) hG hS hA hK hP hD [3] [0, 1, 2] [] rfl rfl (by decide) (by decide) (by decide) rfl
  refine k_endi (As := [.ref ln, .int i]) ct (k_runV (As := [.int i]) (rest := []) S0 Lv_X7_100 rfl (ci := 4) (q0 := 0) rfl rfl ct (c_Row_has l D ln lnA 0 i s.heap.size) hl.1 rfl (Nat.le_of_ble_eq_true rfl) rfl dX7_requireCode_11 ⟨⟨Nat.le_of_ble_eq_true rfl, Nat.le_of_ble_eq_true rfl⟩, Nat.le_of_ble_eq_true rfl, Nat.le_of_ble_eq_true rfl⟩) rfl rfl (fun r_1 _ H locs hw_2 hP hD hK hS => ?_)
  have hK : va_K D vwCl [] s := hK
  have hP : va_P D vwCl [(w, .inr (7, [.ref st, .ref hi, .ref re, .ref fo, .ref bu, .ref pa])), (st, .inr (6, [.ref la, .ref me, .ref li, .int tol, .int su, .int fa])), (li, .inr (0, [.ref ln, .ref ll, .ref lc])), (ln, .inr (4, [.ref lnA, .int 0]))] H := hP
  have hD : va_D A [(w, .inr (7, [.ref st, .ref hi, .ref re, .ref fo, .ref bu, .ref pa])), (st, .inr (6, [.ref la, .ref me, .ref li, .int tol, .int su, .int fa])), (li, .inr (0, [.ref ln, .ref ll, .ref lc])), (ln, .inr (4, [.ref lnA, .int 0]))] := hD
  have hw_2 : r_1 = (if i < 0 then 0 else if 0 ≤ i then 0 else 1) := hw_2
  refine lv_if_ne (tgt := 28) hx hb dX7_requireCode_14 (by decide) (fun c9 => absurd (by rw [hw_2]; exact has0 i) c9) (fun c_3 => ?_)
  obtain ⟨sa, hsa⟩ := hG.2.2.2.1 (261, "there is no such code") (by decide +kernel)
  exact vx_throwSW hx hb hst (own := RX7) (cls := "java/lang/IndexOutOfBoundsException") (text := "there is no such code") (names := ["java/lang/RuntimeException", "java/lang/Exception"]) (ik := 104) (is := 261) (ic := 108) (sa := sa) hown (by decide +kernel) (by decide +kernel) (ht _ lc_X7_104) (ht _ li_java_lang_IndexOutOfBoundsException) hsa (vx_hat (fun w h => ht w (List.mem_filter.mpr ⟨lh_X7_108.1 w h, (List.mem_filter.mp h).2⟩)) lh_X7_108.2.1 (fun w h => va_Nw.use (k_NX_on (List.mem_filter.mp h).2) (hG.1 w (List.mem_filter.mp h).1 (List.mem_filter.mp h).2))) lh_X7_108.2.2 hG.2.1 hG.2.2.1 hS (by rw [hml]; exact hl.1) dX7_requireCode_17 dX7_requireCode_20 dX7_requireCode_21 dX7_requireCode_24 dX7_requireCode_27 (fun x h9 => (htab x h9).elim) (Nat.le_of_ble_eq_true rfl) (Nat.le_of_ble_eq_true rfl) (Nat.le_of_ble_eq_true rfl) (Nat.le_of_ble_eq_true rfl) hlocks (fun t hv9 hz9 hk9 => ⟨(), trivial, ⟨by exact rfl, (hP.sub [0, 1, 2, 3] rfl).kept (fun k q hk => hk9 _ (vx_lt (hP.sub [0, 1, 2, 3] rfl) hk)), va_K.moved hv9 (hK.sub [] rfl), hD.sub [0, 1, 2, 3] (by decide) rfl⟩, ⟨Nat.le_trans hS.1 hz9, fun q h1 h2 => (hk9 q (Nat.lt_of_lt_of_le h1 hS.1)).trans (hS.2.1 q h1 h2)⟩⟩) hS.2.2 (Nat.le_of_ble_eq_true rfl) (Nat.le_of_ble_eq_true rfl)
set_option maxHeartbeats 4000000 in
set_option maxRecDepth 100000 in
theorem c_W_width (l : Launch) (hst : l.stackTraces = false) (D : va_G) (w : Nat) (st : Nat) (hi : Nat) (re : Nat) (fo : Nat) (bu : Nat) (pa : Nat) (la : Nat) (me : Nat) (li : Nat) (tol : Int32) (su : Int32) (fa : Int32) (ld : Nat) (lz : Nat) (lzA : Nat) (i : Int32) (sz : Nat) : k_Xi (S := Unit) l D yX7_width cX7_width 2 (some .int) 7 1 6 103 [.ref w, .int i] [(w, .inr (7, [.ref st, .ref hi, .ref re, .ref fo, .ref bu, .ref pa])), (st, .inr (6, [.ref la, .ref me, .ref li, .int tol, .int su, .int fa])), (la, .inr (2, [.ref ld, .ref lz])), (lz, .inr (4, [.ref lzA, .int 0]))] [] (fun (r : Int32) (_ : Unit) => False) (fun _ => [(w, .inr (7, [.ref st, .ref hi, .ref re, .ref fo, .ref bu, .ref pa])), (st, .inr (6, [.ref la, .ref me, .ref li, .int tol, .int su, .int fa])), (la, .inr (2, [.ref ld, .ref lz])), (lz, .inr (4, [.ref lzA, .int 0]))]) (fun _ => []) (fun E => E = "java/lang/IndexOutOfBoundsException") sz := by
  refine vx_ofW (cc := cX7_width) (maxL := 2) (ret := (some .int)) (by decide) rfl ?_
  intro p e s m args below meth c s₁ B hml htab hv
  obtain ⟨rfl, hsz, hP, hK, hD0, hG⟩ := hv
  have hx := B.exec
  have hb := B.bytes
  have hr := B.returns
  have ht : ∀ v9 ∈ wsA, v9.before ([.ref w, .int i] : List Value).toArray s = true := fun v9 h9 => atoms_spec (ws := k_ws yX7_width cX7_width 2 (some .int)) B.pre v9 (List.mem_cons_of_mem _ h9)
  have hown : s.vm.findClass RX7 = some m.cls := findClass_of_methodNamed B.named
  have S0 : k_C p s m ([.ref w, .int i] : List Value).toArray c cX7_width 2 RX7 := ⟨hx, hb, hml, hown, ht⟩
  have hlocks := B.notSynchronized
  subst hsz
  have hD := hD0.self (sz := s.heap.size)
  unfold k_X
  generalize hAe : va_A [(w, .inr (7, [.ref st, .ref hi, .ref re, .ref fo, .ref bu, .ref pa])), (st, .inr (6, [.ref la, .ref me, .ref li, .int tol, .int su, .int fa])), (la, .inr (2, [.ref ld, .ref lz])), (lz, .inr (4, [.ref lzA, .int 0]))] s.heap.size = A at hD hG ⊢
  have hA : ∀ q : Nat, s.heap.size ≤ q → A q := fun q h => by rw [← hAe]; exact Or.inr h
  have hS : va_S A s.heap s.heap [] := va_S.rf
  have hl := lv_entry ([.ref w, .int i]) (n := 2) (Nat.le_of_ble_eq_true rfl)
  rw [lg_entry_eq]
  generalize (lg_sl ([.ref w, .int i]) ++ List.replicate (2 - (lg_sl ([.ref w, .int i])).length) Slot.unset).toArray = ls at hl ⊢
  have hl : lv_has ls 2 [(0, .ref w), (1, .int i)] := hl
  have hP : va_P D vwCl [(w, .inr (7, [.ref st, .ref hi, .ref re, .ref fo, .ref bu, .ref pa])), (st, .inr (6, [.ref la, .ref me, .ref li, .int tol, .int su, .int fa])), (la, .inr (2, [.ref ld, .ref lz])), (lz, .inr (4, [.ref lzA, .int 0]))] s.heap := hP
  refine lv_aload_n hx hb dX7_width_0 rfl (lv_at hl 0 rfl) ?_
  refine lv_iload_n hx hb dX7_width_1 rfl (lv_at hl 1 rfl) ?_
  have ct := k_cut_of (wc := [(w, .inr (7, [.ref st, .ref hi, .ref re, .ref fo, .ref bu, .ref pa])), (st, .inr (6, [.ref la, .ref me, .ref li, .int tol, .int su, .int fa])), (la, .inr (2, [.ref ld, .ref lz])), (lz, .inr (4, [.ref lzA, .int 0]))]) (wr := []) (tc := []) hG hS hA hK hP hD [0, 1, 2, 3] [] [] rfl rfl (by decide) (by decide) (by decide) rfl
  refine k_endXv (EX := fun E => E = "java/lang/IndexOutOfBoundsException") (As := [.ref w, .int i]) ct (k_xrunV (As := [.int i]) (rest := []) S0 Lv_X7_82 rfl (ci := 7) (q0 := 0) rfl rfl ct (c_W_reqEl l hst D w st hi re fo bu pa la me li tol su fa ld lz lzA i s.heap.size) hl.1 rfl (Nat.le_of_ble_eq_true rfl) rfl dX7_width_2 ⟨⟨Nat.le_of_ble_eq_true rfl, Nat.le_of_ble_eq_true rfl⟩, Nat.le_of_ble_eq_true rfl, Nat.le_of_ble_eq_true rfl⟩) rfl rfl ?_ (fun _ _ H locs hw_2 hP hD hK hS => ?_)
  · intro E ce q9 H locs hE hP hD hS hq9 hv9 hcl9
    try dsimp only at hE
    have hP : va_P D vwCl [(w, .inr (7, [.ref st, .ref hi, .ref re, .ref fo, .ref bu, .ref pa])), (st, .inr (6, [.ref la, .ref me, .ref li, .int tol, .int su, .int fa])), (la, .inr (2, [.ref ld, .ref lz])), (lz, .inr (4, [.ref lzA, .int 0]))] H := hP
    have hD : va_D A [(w, .inr (7, [.ref st, .ref hi, .ref re, .ref fo, .ref bu, .ref pa])), (st, .inr (6, [.ref la, .ref me, .ref li, .int tol, .int su, .int fa])), (la, .inr (2, [.ref ld, .ref lz])), (lz, .inr (4, [.ref lzA, .int 0]))] := hD
    exact vx_out (fun x h9 => (htab x h9).elim) hlocks hq9 hv9 hcl9 (fun t ht9 hv9 => ⟨(), trivial, ⟨by exact hE, by rw [ht9]; exact hP.sub [0, 1, 2, 3] rfl, va_K.moved hv9 (hK.sub [] rfl), hD.sub [0, 1, 2, 3] (by decide) rfl⟩, hS.F ht9⟩) hS.2.2 (Nat.le_of_ble_eq_true rfl) (Nat.le_of_ble_eq_true rfl)
  have hK : va_K D vwCl [] s := hK
  have hP : va_P D vwCl [(w, .inr (7, [.ref st, .ref hi, .ref re, .ref fo, .ref bu, .ref pa])), (st, .inr (6, [.ref la, .ref me, .ref li, .int tol, .int su, .int fa])), (la, .inr (2, [.ref ld, .ref lz])), (lz, .inr (4, [.ref lzA, .int 0]))] H := hP
  have hD : va_D A [(w, .inr (7, [.ref st, .ref hi, .ref re, .ref fo, .ref bu, .ref pa])), (st, .inr (6, [.ref la, .ref me, .ref li, .int tol, .int su, .int fa])), (la, .inr (2, [.ref ld, .ref lz])), (lz, .inr (4, [.ref lzA, .int 0]))] := hD
  exact hw_2.elim
set_option maxHeartbeats 4000000 in
set_option maxRecDepth 100000 in
theorem c_W_smudge (l : Launch) (hst : l.stackTraces = false) (D : va_G) (w : Nat) (st : Nat) (hi : Nat) (re : Nat) (fo : Nat) (bu : Nat) (pa : Nat) (la : Nat) (me : Nat) (li : Nat) (tol : Int32) (su : Int32) (fa : Int32) (ld : Nat) (lz : Nat) (lzA : Nat) (i : Int32) (j : Int32) (sz : Nat) : k_Xi (S := Unit) l D yX7_smudge cX7_smudge 4 (some .int) 7 1 6 103 [.ref w, .int i, .int j] [(w, .inr (7, [.ref st, .ref hi, .ref re, .ref fo, .ref bu, .ref pa])), (st, .inr (6, [.ref la, .ref me, .ref li, .int tol, .int su, .int fa])), (la, .inr (2, [.ref ld, .ref lz])), (lz, .inr (4, [.ref lzA, .int 0]))] [] (fun (r : Int32) (_ : Unit) => False) (fun _ => [(w, .inr (7, [.ref st, .ref hi, .ref re, .ref fo, .ref bu, .ref pa])), (st, .inr (6, [.ref la, .ref me, .ref li, .int tol, .int su, .int fa])), (la, .inr (2, [.ref ld, .ref lz])), (lz, .inr (4, [.ref lzA, .int 0]))]) (fun _ => []) (fun E => E = "java/lang/IndexOutOfBoundsException") sz := by
  refine vx_ofW (cc := cX7_smudge) (maxL := 4) (ret := (some .int)) (by decide) rfl ?_
  intro p e s m args below meth c s₁ B hml htab hv
  obtain ⟨rfl, hsz, hP, hK, hD0, hG⟩ := hv
  have hx := B.exec
  have hb := B.bytes
  have hr := B.returns
  have ht : ∀ v9 ∈ wsA, v9.before ([.ref w, .int i, .int j] : List Value).toArray s = true := fun v9 h9 => atoms_spec (ws := k_ws yX7_smudge cX7_smudge 4 (some .int)) B.pre v9 (List.mem_cons_of_mem _ h9)
  have hown : s.vm.findClass RX7 = some m.cls := findClass_of_methodNamed B.named
  have S0 : k_C p s m ([.ref w, .int i, .int j] : List Value).toArray c cX7_smudge 4 RX7 := ⟨hx, hb, hml, hown, ht⟩
  have hlocks := B.notSynchronized
  subst hsz
  have hD := hD0.self (sz := s.heap.size)
  unfold k_X
  generalize hAe : va_A [(w, .inr (7, [.ref st, .ref hi, .ref re, .ref fo, .ref bu, .ref pa])), (st, .inr (6, [.ref la, .ref me, .ref li, .int tol, .int su, .int fa])), (la, .inr (2, [.ref ld, .ref lz])), (lz, .inr (4, [.ref lzA, .int 0]))] s.heap.size = A at hD hG ⊢
  have hA : ∀ q : Nat, s.heap.size ≤ q → A q := fun q h => by rw [← hAe]; exact Or.inr h
  have hS : va_S A s.heap s.heap [] := va_S.rf
  have hl := lv_entry ([.ref w, .int i, .int j]) (n := 4) (Nat.le_of_ble_eq_true rfl)
  rw [lg_entry_eq]
  generalize (lg_sl ([.ref w, .int i, .int j]) ++ List.replicate (4 - (lg_sl ([.ref w, .int i, .int j])).length) Slot.unset).toArray = ls at hl ⊢
  have hl : lv_has ls 4 [(0, .ref w), (1, .int i), (2, .int j)] := hl
  have hP : va_P D vwCl [(w, .inr (7, [.ref st, .ref hi, .ref re, .ref fo, .ref bu, .ref pa])), (st, .inr (6, [.ref la, .ref me, .ref li, .int tol, .int su, .int fa])), (la, .inr (2, [.ref ld, .ref lz])), (lz, .inr (4, [.ref lzA, .int 0]))] s.heap := hP
  refine lv_aload_n hx hb dX7_smudge_0 rfl (lv_at hl 0 rfl) ?_
  refine lv_iload_n hx hb dX7_smudge_1 rfl (lv_at hl 1 rfl) ?_
  have ct := k_cut_of (wc := [(w, .inr (7, [.ref st, .ref hi, .ref re, .ref fo, .ref bu, .ref pa])), (st, .inr (6, [.ref la, .ref me, .ref li, .int tol, .int su, .int fa])), (la, .inr (2, [.ref ld, .ref lz])), (lz, .inr (4, [.ref lzA, .int 0]))]) (wr := []) (tc := []) hG hS hA hK hP hD [0, 1, 2, 3] [] [] rfl rfl (by decide) (by decide) (by decide) rfl
  refine k_endXv (EX := fun E => E = "java/lang/IndexOutOfBoundsException") (As := [.ref w, .int i]) ct (k_xrunV (As := [.int i]) (rest := []) S0 Lv_X7_82 rfl (ci := 7) (q0 := 0) rfl rfl ct (c_W_reqEl l hst D w st hi re fo bu pa la me li tol su fa ld lz lzA i s.heap.size) hl.1 rfl (Nat.le_of_ble_eq_true rfl) rfl dX7_smudge_2 ⟨⟨Nat.le_of_ble_eq_true rfl, Nat.le_of_ble_eq_true rfl⟩, Nat.le_of_ble_eq_true rfl, Nat.le_of_ble_eq_true rfl⟩) rfl rfl ?_ (fun _ _ H locs hw_2 hP hD hK hS => ?_)
  · intro E ce q9 H locs hE hP hD hS hq9 hv9 hcl9
    try dsimp only at hE
    have hP : va_P D vwCl [(w, .inr (7, [.ref st, .ref hi, .ref re, .ref fo, .ref bu, .ref pa])), (st, .inr (6, [.ref la, .ref me, .ref li, .int tol, .int su, .int fa])), (la, .inr (2, [.ref ld, .ref lz])), (lz, .inr (4, [.ref lzA, .int 0]))] H := hP
    have hD : va_D A [(w, .inr (7, [.ref st, .ref hi, .ref re, .ref fo, .ref bu, .ref pa])), (st, .inr (6, [.ref la, .ref me, .ref li, .int tol, .int su, .int fa])), (la, .inr (2, [.ref ld, .ref lz])), (lz, .inr (4, [.ref lzA, .int 0]))] := hD
    exact vx_out (fun x h9 => (htab x h9).elim) hlocks hq9 hv9 hcl9 (fun t ht9 hv9 => ⟨(), trivial, ⟨by exact hE, by rw [ht9]; exact hP.sub [0, 1, 2, 3] rfl, va_K.moved hv9 (hK.sub [] rfl), hD.sub [0, 1, 2, 3] (by decide) rfl⟩, hS.F ht9⟩) hS.2.2 (Nat.le_of_ble_eq_true rfl) (Nat.le_of_ble_eq_true rfl)
  have hK : va_K D vwCl [] s := hK
  have hP : va_P D vwCl [(w, .inr (7, [.ref st, .ref hi, .ref re, .ref fo, .ref bu, .ref pa])), (st, .inr (6, [.ref la, .ref me, .ref li, .int tol, .int su, .int fa])), (la, .inr (2, [.ref ld, .ref lz])), (lz, .inr (4, [.ref lzA, .int 0]))] H := hP
  have hD : va_D A [(w, .inr (7, [.ref st, .ref hi, .ref re, .ref fo, .ref bu, .ref pa])), (st, .inr (6, [.ref la, .ref me, .ref li, .int tol, .int su, .int fa])), (la, .inr (2, [.ref ld, .ref lz])), (lz, .inr (4, [.ref lzA, .int 0]))] := hD
  exact hw_2.elim
set_option maxHeartbeats 4000000 in
set_option maxRecDepth 100000 in
theorem c_W_labelDigit (l : Launch) (hst : l.stackTraces = false) (D : va_G) (w : Nat) (st : Nat) (hi : Nat) (re : Nat) (fo : Nat) (bu : Nat) (pa : Nat) (la : Nat) (me : Nat) (li : Nat) (tol : Int32) (su : Int32) (fa : Int32) (ld : Nat) (lz : Nat) (ldA : Nat) (i : Int32) (sz : Nat) : k_Xi (S := Unit) l D yX7_labelDigit cX7_labelDigit 2 (some .int) 6 1 6 82 [.ref w, .int i] [(w, .inr (7, [.ref st, .ref hi, .ref re, .ref fo, .ref bu, .ref pa])), (st, .inr (6, [.ref la, .ref me, .ref li, .int tol, .int su, .int fa])), (la, .inr (2, [.ref ld, .ref lz])), (ld, .inr (4, [.ref ldA, .int 0]))] [] (fun (r : Int32) (_ : Unit) => False) (fun _ => [(w, .inr (7, [.ref st, .ref hi, .ref re, .ref fo, .ref bu, .ref pa])), (st, .inr (6, [.ref la, .ref me, .ref li, .int tol, .int su, .int fa])), (la, .inr (2, [.ref ld, .ref lz])), (ld, .inr (4, [.ref ldA, .int 0]))]) (fun _ => []) (fun E => E = "java/lang/IndexOutOfBoundsException") sz := by
  refine vx_ofW (cc := cX7_labelDigit) (maxL := 2) (ret := (some .int)) (by decide) rfl ?_
  intro p e s m args below meth c s₁ B hml htab hv
  obtain ⟨rfl, hsz, hP, hK, hD0, hG⟩ := hv
  have hx := B.exec
  have hb := B.bytes
  have hr := B.returns
  have ht : ∀ v9 ∈ wsA, v9.before ([.ref w, .int i] : List Value).toArray s = true := fun v9 h9 => atoms_spec (ws := k_ws yX7_labelDigit cX7_labelDigit 2 (some .int)) B.pre v9 (List.mem_cons_of_mem _ h9)
  have hown : s.vm.findClass RX7 = some m.cls := findClass_of_methodNamed B.named
  have S0 : k_C p s m ([.ref w, .int i] : List Value).toArray c cX7_labelDigit 2 RX7 := ⟨hx, hb, hml, hown, ht⟩
  have hlocks := B.notSynchronized
  subst hsz
  have hD := hD0.self (sz := s.heap.size)
  unfold k_X
  generalize hAe : va_A [(w, .inr (7, [.ref st, .ref hi, .ref re, .ref fo, .ref bu, .ref pa])), (st, .inr (6, [.ref la, .ref me, .ref li, .int tol, .int su, .int fa])), (la, .inr (2, [.ref ld, .ref lz])), (ld, .inr (4, [.ref ldA, .int 0]))] s.heap.size = A at hD hG ⊢
  have hA : ∀ q : Nat, s.heap.size ≤ q → A q := fun q h => by rw [← hAe]; exact Or.inr h
  have hS : va_S A s.heap s.heap [] := va_S.rf
  have hl := lv_entry ([.ref w, .int i]) (n := 2) (Nat.le_of_ble_eq_true rfl)
  rw [lg_entry_eq]
  generalize (lg_sl ([.ref w, .int i]) ++ List.replicate (2 - (lg_sl ([.ref w, .int i])).length) Slot.unset).toArray = ls at hl ⊢
  have hl : lv_has ls 2 [(0, .ref w), (1, .int i)] := hl
  have hP : va_P D vwCl [(w, .inr (7, [.ref st, .ref hi, .ref re, .ref fo, .ref bu, .ref pa])), (st, .inr (6, [.ref la, .ref me, .ref li, .int tol, .int su, .int fa])), (la, .inr (2, [.ref ld, .ref lz])), (ld, .inr (4, [.ref ldA, .int 0]))] s.heap := hP
  refine lv_aload_n hx hb dX7_labelDigit_0 rfl (lv_at hl 0 rfl) ?_
  refine va_get (D := D) (ci := 7) (v := .ref st) (C := RX7) (T := TX7) (N := 6) hx hb ht inA_X7 hown hK hP 0 rfl rfl 0 (by decide) (ht _ lf_X7_10) (fun _ h9 => h9) rfl dX7_labelDigit_1 ?_
  refine va_get (D := D) (ci := 6) (v := .ref la) (C := RX6) (T := TX6) (N := 6) hx hb ht inA_X6 hown hK hP 1 rfl rfl 0 (by decide) (ht _ lf_X7_66) (fun _ h9 => h9) rfl dX7_labelDigit_4 ?_
  refine va_get (D := D) (ci := 2) (v := .ref ld) (C := RX2) (T := TX2) (N := 2) hx hb ht inA_X2 hown hK hP 2 rfl rfl 0 (by decide) (ht _ lf_X7_76) (fun _ h9 => h9) rfl dX7_labelDigit_7 ?_
  refine lv_iload_n hx hb dX7_labelDigit_10 rfl (lv_at hl 1 rfl) ?_
  have ct := k_cut_of (wc := [(ld, .inr (4, [.ref ldA, .int 0]))]) (wr := [(w, .inr (7, [.ref st, .ref hi, .ref re, .ref fo, .ref bu, .ref pa])), (st, .inr (6, [.ref la, .ref me, .ref li, .int tol, .int su, .int fa])), (la, .inr (2, [.ref ld, .ref lz]))]) (tc := []) hG hS hA hK hP hD [3] [0, 1, 2] [] rfl rfl (by decide) (by decide) (by decide) rfl
  refine k_endi (As := [.ref ld, .int i]) ct (k_runV (As := [.int i]) (rest := []) S0 Lv_X7_100 rfl (ci := 4) (q0 := 0) rfl rfl ct (c_Row_has l D ld ldA 0 i s.heap.size) hl.1 rfl (Nat.le_of_ble_eq_true rfl) rfl dX7_labelDigit_11 ⟨⟨Nat.le_of_ble_eq_true rfl, Nat.le_of_ble_eq_true rfl⟩, Nat.le_of_ble_eq_true rfl, Nat.le_of_ble_eq_true rfl⟩) rfl rfl (fun r_1 _ H locs hw_2 hP hD hK hS => ?_)
  have hK : va_K D vwCl [] s := hK
  have hP : va_P D vwCl [(w, .inr (7, [.ref st, .ref hi, .ref re, .ref fo, .ref bu, .ref pa])), (st, .inr (6, [.ref la, .ref me, .ref li, .int tol, .int su, .int fa])), (la, .inr (2, [.ref ld, .ref lz])), (ld, .inr (4, [.ref ldA, .int 0]))] H := hP
  have hD : va_D A [(w, .inr (7, [.ref st, .ref hi, .ref re, .ref fo, .ref bu, .ref pa])), (st, .inr (6, [.ref la, .ref me, .ref li, .int tol, .int su, .int fa])), (la, .inr (2, [.ref ld, .ref lz])), (ld, .inr (4, [.ref ldA, .int 0]))] := hD
  have hw_2 : r_1 = (if i < 0 then 0 else if 0 ≤ i then 0 else 1) := hw_2
  refine lv_if_ne (tgt := 27) hx hb dX7_labelDigit_14 (by decide) (fun c9 => absurd (by rw [hw_2]; exact has0 i) c9) (fun c_3 => ?_)
  obtain ⟨sa, hsa⟩ := hG.2.2.2.1 (106, "the label has no such digit") (by decide +kernel)
  exact vx_throwS hx hb hst (own := RX7) (cls := "java/lang/IndexOutOfBoundsException") (text := "the label has no such digit") (names := ["java/lang/RuntimeException", "java/lang/Exception"]) (ik := 104) (is := 106) (ic := 108) (sa := sa) hown (by decide +kernel) (by decide +kernel) (ht _ lc_X7_104) (ht _ li_java_lang_IndexOutOfBoundsException) hsa (vx_hat (fun w h => ht w (List.mem_filter.mpr ⟨lh_X7_108.1 w h, (List.mem_filter.mp h).2⟩)) lh_X7_108.2.1 (fun w h => va_Nw.use (k_NX_on (List.mem_filter.mp h).2) (hG.1 w (List.mem_filter.mp h).1 (List.mem_filter.mp h).2))) lh_X7_108.2.2 hG.2.1 hG.2.2.1 hS (by rw [hml]; exact hl.1) dX7_labelDigit_17 dX7_labelDigit_20 dX7_labelDigit_21 dX7_labelDigit_23 dX7_labelDigit_26 (fun x h9 => (htab x h9).elim) (Nat.le_of_ble_eq_true rfl) (Nat.le_of_ble_eq_true rfl) (Nat.le_of_ble_eq_true rfl) (Nat.le_of_ble_eq_true rfl) hlocks (fun t hv9 hz9 hk9 => ⟨(), trivial, ⟨by exact rfl, (hP.sub [0, 1, 2, 3] rfl).kept (fun k q hk => hk9 _ (vx_lt (hP.sub [0, 1, 2, 3] rfl) hk)), va_K.moved hv9 (hK.sub [] rfl), hD.sub [0, 1, 2, 3] (by decide) rfl⟩, ⟨Nat.le_trans hS.1 hz9, fun q h1 h2 => (hk9 q (Nat.lt_of_lt_of_le h1 hS.1)).trans (hS.2.1 q h1 h2)⟩⟩) hS.2.2 (Nat.le_of_ble_eq_true rfl) (Nat.le_of_ble_eq_true rfl)
set_option maxHeartbeats 4000000 in
set_option maxRecDepth 100000 in
theorem c_W_time (l : Launch) (hst : l.stackTraces = false) (D : va_G) (w : Nat) (st : Nat) (hi : Nat) (re : Nat) (fo : Nat) (bu : Nat) (pa : Nat) (la : Nat) (me : Nat) (li : Nat) (tol : Int32) (su : Int32) (fa : Int32) (meA : Nat) (i : Int32) (sz : Nat) : k_Xi (S := Unit) l D yX7_time cX7_time 2 (some .int) 6 1 6 82 [.ref w, .int i] [(w, .inr (7, [.ref st, .ref hi, .ref re, .ref fo, .ref bu, .ref pa])), (st, .inr (6, [.ref la, .ref me, .ref li, .int tol, .int su, .int fa])), (me, .inr (4, [.ref meA, .int 0]))] [] (fun (r : Int32) (_ : Unit) => False) (fun _ => [(w, .inr (7, [.ref st, .ref hi, .ref re, .ref fo, .ref bu, .ref pa])), (st, .inr (6, [.ref la, .ref me, .ref li, .int tol, .int su, .int fa])), (me, .inr (4, [.ref meA, .int 0]))]) (fun _ => []) (fun E => E = "java/lang/IndexOutOfBoundsException") sz := by
  refine vx_ofW (cc := cX7_time) (maxL := 2) (ret := (some .int)) (by decide) rfl ?_
  intro p e s m args below meth c s₁ B hml htab hv
  obtain ⟨rfl, hsz, hP, hK, hD0, hG⟩ := hv
  have hx := B.exec
  have hb := B.bytes
  have hr := B.returns
  have ht : ∀ v9 ∈ wsA, v9.before ([.ref w, .int i] : List Value).toArray s = true := fun v9 h9 => atoms_spec (ws := k_ws yX7_time cX7_time 2 (some .int)) B.pre v9 (List.mem_cons_of_mem _ h9)
  have hown : s.vm.findClass RX7 = some m.cls := findClass_of_methodNamed B.named
  have S0 : k_C p s m ([.ref w, .int i] : List Value).toArray c cX7_time 2 RX7 := ⟨hx, hb, hml, hown, ht⟩
  have hlocks := B.notSynchronized
  subst hsz
  have hD := hD0.self (sz := s.heap.size)
  unfold k_X
  generalize hAe : va_A [(w, .inr (7, [.ref st, .ref hi, .ref re, .ref fo, .ref bu, .ref pa])), (st, .inr (6, [.ref la, .ref me, .ref li, .int tol, .int su, .int fa])), (me, .inr (4, [.ref meA, .int 0]))] s.heap.size = A at hD hG ⊢
  have hA : ∀ q : Nat, s.heap.size ≤ q → A q := fun q h => by rw [← hAe]; exact Or.inr h
  have hS : va_S A s.heap s.heap [] := va_S.rf
  have hl := lv_entry ([.ref w, .int i]) (n := 2) (Nat.le_of_ble_eq_true rfl)
  rw [lg_entry_eq]
  generalize (lg_sl ([.ref w, .int i]) ++ List.replicate (2 - (lg_sl ([.ref w, .int i])).length) Slot.unset).toArray = ls at hl ⊢
  have hl : lv_has ls 2 [(0, .ref w), (1, .int i)] := hl
  have hP : va_P D vwCl [(w, .inr (7, [.ref st, .ref hi, .ref re, .ref fo, .ref bu, .ref pa])), (st, .inr (6, [.ref la, .ref me, .ref li, .int tol, .int su, .int fa])), (me, .inr (4, [.ref meA, .int 0]))] s.heap := hP
  refine lv_aload_n hx hb dX7_time_0 rfl (lv_at hl 0 rfl) ?_
  refine va_get (D := D) (ci := 7) (v := .ref st) (C := RX7) (T := TX7) (N := 6) hx hb ht inA_X7 hown hK hP 0 rfl rfl 0 (by decide) (ht _ lf_X7_10) (fun _ h9 => h9) rfl dX7_time_1 ?_
  refine va_get (D := D) (ci := 6) (v := .ref me) (C := RX6) (T := TX6) (N := 6) hx hb ht inA_X6 hown hK hP 1 rfl rfl 1 (by decide) (ht _ lf_X7_112) (fun _ h9 => h9) rfl dX7_time_4 ?_
  refine lv_iload_n hx hb dX7_time_7 rfl (lv_at hl 1 rfl) ?_
  have ct := k_cut_of (wc := [(me, .inr (4, [.ref meA, .int 0]))]) (wr := [(w, .inr (7, [.ref st, .ref hi, .ref re, .ref fo, .ref bu, .ref pa])), (st, .inr (6, [.ref la, .ref me, .ref li, .int tol, .int su, .int fa]))]) (tc := []) hG hS hA hK hP hD [2] [0, 1] [] rfl rfl (by decide) (by decide) (by decide) rfl
  refine k_endi (As := [.ref me, .int i]) ct (k_runV (As := [.int i]) (rest := []) S0 Lv_X7_100 rfl (ci := 4) (q0 := 0) rfl rfl ct (c_Row_has l D me meA 0 i s.heap.size) hl.1 rfl (Nat.le_of_ble_eq_true rfl) rfl dX7_time_8 ⟨⟨Nat.le_of_ble_eq_true rfl, Nat.le_of_ble_eq_true rfl⟩, Nat.le_of_ble_eq_true rfl, Nat.le_of_ble_eq_true rfl⟩) rfl rfl (fun r_1 _ H locs hw_2 hP hD hK hS => ?_)
  have hK : va_K D vwCl [] s := hK
  have hP : va_P D vwCl [(w, .inr (7, [.ref st, .ref hi, .ref re, .ref fo, .ref bu, .ref pa])), (st, .inr (6, [.ref la, .ref me, .ref li, .int tol, .int su, .int fa])), (me, .inr (4, [.ref meA, .int 0]))] H := hP
  have hD : va_D A [(w, .inr (7, [.ref st, .ref hi, .ref re, .ref fo, .ref bu, .ref pa])), (st, .inr (6, [.ref la, .ref me, .ref li, .int tol, .int su, .int fa])), (me, .inr (4, [.ref meA, .int 0]))] := hD
  have hw_2 : r_1 = (if i < 0 then 0 else if 0 ≤ i then 0 else 1) := hw_2
  refine lv_if_ne (tgt := 24) hx hb dX7_time_11 (by decide) (fun c9 => absurd (by rw [hw_2]; exact has0 i) c9) (fun c_3 => ?_)
  obtain ⟨sa, hsa⟩ := hG.2.2.2.1 (140, "there is no such time") (by decide +kernel)
  exact vx_throwS hx hb hst (own := RX7) (cls := "java/lang/IndexOutOfBoundsException") (text := "there is no such time") (names := ["java/lang/RuntimeException", "java/lang/Exception"]) (ik := 104) (is := 140) (ic := 108) (sa := sa) hown (by decide +kernel) (by decide +kernel) (ht _ lc_X7_104) (ht _ li_java_lang_IndexOutOfBoundsException) hsa (vx_hat (fun w h => ht w (List.mem_filter.mpr ⟨lh_X7_108.1 w h, (List.mem_filter.mp h).2⟩)) lh_X7_108.2.1 (fun w h => va_Nw.use (k_NX_on (List.mem_filter.mp h).2) (hG.1 w (List.mem_filter.mp h).1 (List.mem_filter.mp h).2))) lh_X7_108.2.2 hG.2.1 hG.2.2.1 hS (by rw [hml]; exact hl.1) dX7_time_14 dX7_time_17 dX7_time_18 dX7_time_20 dX7_time_23 (fun x h9 => (htab x h9).elim) (Nat.le_of_ble_eq_true rfl) (Nat.le_of_ble_eq_true rfl) (Nat.le_of_ble_eq_true rfl) (Nat.le_of_ble_eq_true rfl) hlocks (fun t hv9 hz9 hk9 => ⟨(), trivial, ⟨by exact rfl, (hP.sub [0, 1, 2] rfl).kept (fun k q hk => hk9 _ (vx_lt (hP.sub [0, 1, 2] rfl) hk)), va_K.moved hv9 (hK.sub [] rfl), hD.sub [0, 1, 2] (by decide) rfl⟩, ⟨Nat.le_trans hS.1 hz9, fun q h1 h2 => (hk9 q (Nat.lt_of_lt_of_le h1 hS.1)).trans (hS.2.1 q h1 h2)⟩⟩) hS.2.2 (Nat.le_of_ble_eq_true rfl) (Nat.le_of_ble_eq_true rfl)
set_option maxHeartbeats 4000000 in
set_option maxRecDepth 100000 in
theorem c_W_nearest (l : Launch) (hst : l.stackTraces = false) (D : va_G) (w : Nat) (st : Nat) (hi : Nat) (re : Nat) (fo : Nat) (bu : Nat) (pa : Nat) (la : Nat) (me : Nat) (li : Nat) (tol : Int32) (su : Int32) (fa : Int32) (meA : Nat) (i : Int32) (sz : Nat) : k_Xi (S := Unit) l D yX7_nearest cX7_nearest 2 (some .int) 6 1 6 82 [.ref w, .int i] [(w, .inr (7, [.ref st, .ref hi, .ref re, .ref fo, .ref bu, .ref pa])), (st, .inr (6, [.ref la, .ref me, .ref li, .int tol, .int su, .int fa])), (me, .inr (4, [.ref meA, .int 0]))] [] (fun (r : Int32) (_ : Unit) => False) (fun _ => [(w, .inr (7, [.ref st, .ref hi, .ref re, .ref fo, .ref bu, .ref pa])), (st, .inr (6, [.ref la, .ref me, .ref li, .int tol, .int su, .int fa])), (me, .inr (4, [.ref meA, .int 0]))]) (fun _ => []) (fun E => E = "java/lang/IndexOutOfBoundsException") sz := by
  refine vx_ofW (cc := cX7_nearest) (maxL := 2) (ret := (some .int)) (by decide) rfl ?_
  intro p e s m args below meth c s₁ B hml htab hv
  obtain ⟨rfl, hsz, hP, hK, hD0, hG⟩ := hv
  have hx := B.exec
  have hb := B.bytes
  have hr := B.returns
  have ht : ∀ v9 ∈ wsA, v9.before ([.ref w, .int i] : List Value).toArray s = true := fun v9 h9 => atoms_spec (ws := k_ws yX7_nearest cX7_nearest 2 (some .int)) B.pre v9 (List.mem_cons_of_mem _ h9)
  have hown : s.vm.findClass RX7 = some m.cls := findClass_of_methodNamed B.named
  have S0 : k_C p s m ([.ref w, .int i] : List Value).toArray c cX7_nearest 2 RX7 := ⟨hx, hb, hml, hown, ht⟩
  have hlocks := B.notSynchronized
  subst hsz
  have hD := hD0.self (sz := s.heap.size)
  unfold k_X
  generalize hAe : va_A [(w, .inr (7, [.ref st, .ref hi, .ref re, .ref fo, .ref bu, .ref pa])), (st, .inr (6, [.ref la, .ref me, .ref li, .int tol, .int su, .int fa])), (me, .inr (4, [.ref meA, .int 0]))] s.heap.size = A at hD hG ⊢
  have hA : ∀ q : Nat, s.heap.size ≤ q → A q := fun q h => by rw [← hAe]; exact Or.inr h
  have hS : va_S A s.heap s.heap [] := va_S.rf
  have hl := lv_entry ([.ref w, .int i]) (n := 2) (Nat.le_of_ble_eq_true rfl)
  rw [lg_entry_eq]
  generalize (lg_sl ([.ref w, .int i]) ++ List.replicate (2 - (lg_sl ([.ref w, .int i])).length) Slot.unset).toArray = ls at hl ⊢
  have hl : lv_has ls 2 [(0, .ref w), (1, .int i)] := hl
  have hP : va_P D vwCl [(w, .inr (7, [.ref st, .ref hi, .ref re, .ref fo, .ref bu, .ref pa])), (st, .inr (6, [.ref la, .ref me, .ref li, .int tol, .int su, .int fa])), (me, .inr (4, [.ref meA, .int 0]))] s.heap := hP
  refine lv_iload_n hx hb dX7_nearest_0 rfl (lv_at hl 1 rfl) ?_
  refine lv_if_lt (tgt := 20) hx hb dX7_nearest_1 (by decide) (fun c_1 => ?_) (fun c_1 => ?_)
  · have hc9 := c_1
    obtain ⟨sa, hsa⟩ := hG.2.2.2.1 (162, "there are no four times from this index on") (by decide +kernel)
    exact vx_throwS hx hb hst (own := RX7) (cls := "java/lang/IndexOutOfBoundsException") (text := "there are no four times from this index on") (names := ["java/lang/RuntimeException", "java/lang/Exception"]) (ik := 104) (is := 162) (ic := 108) (sa := sa) hown (by decide +kernel) (by decide +kernel) (ht _ lc_X7_104) (ht _ li_java_lang_IndexOutOfBoundsException) hsa (vx_hat (fun w h => ht w (List.mem_filter.mpr ⟨lh_X7_108.1 w h, (List.mem_filter.mp h).2⟩)) lh_X7_108.2.1 (fun w h => va_Nw.use (k_NX_on (List.mem_filter.mp h).2) (hG.1 w (List.mem_filter.mp h).1 (List.mem_filter.mp h).2))) lh_X7_108.2.2 hG.2.1 hG.2.2.1 hS (by rw [hml]; exact hl.1) dX7_nearest_20 dX7_nearest_23 dX7_nearest_24 dX7_nearest_26 dX7_nearest_29 (fun x h9 => (htab x h9).elim) (Nat.le_of_ble_eq_true rfl) (Nat.le_of_ble_eq_true rfl) (Nat.le_of_ble_eq_true rfl) (Nat.le_of_ble_eq_true rfl) hlocks (fun t hv9 hz9 hk9 => ⟨(), trivial, ⟨by exact rfl, (hP.sub [0, 1, 2] rfl).kept (fun k q hk => hk9 _ (vx_lt (hP.sub [0, 1, 2] rfl) hk)), va_K.moved hv9 (hK.sub [] rfl), hD.sub [0, 1, 2] (by decide) rfl⟩, ⟨Nat.le_trans hS.1 hz9, fun q h1 h2 => (hk9 q (Nat.lt_of_lt_of_le h1 hS.1)).trans (hS.2.1 q h1 h2)⟩⟩) hS.2.2 (Nat.le_of_ble_eq_true rfl) (Nat.le_of_ble_eq_true rfl)
  · have hc9 := c_1
    refine lv_iload_n hx hb dX7_nearest_4 rfl (lv_at hl 1 rfl) ?_
    refine lv_aload_n hx hb dX7_nearest_5 rfl (lv_at hl 0 rfl) ?_
    refine va_get (D := D) (ci := 7) (v := .ref st) (C := RX7) (T := TX7) (N := 6) hx hb ht inA_X7 hown hK hP 0 rfl rfl 0 (by decide) (ht _ lf_X7_10) (fun _ h9 => h9) rfl dX7_nearest_6 ?_
    refine va_get (D := D) (ci := 6) (v := .ref me) (C := RX6) (T := TX6) (N := 6) hx hb ht inA_X6 hown hK hP 1 rfl rfl 1 (by decide) (ht _ lf_X7_112) (fun _ h9 => h9) rfl dX7_nearest_9 ?_
    have ct := k_cut_of (wc := [(me, .inr (4, [.ref meA, .int 0]))]) (wr := [(w, .inr (7, [.ref st, .ref hi, .ref re, .ref fo, .ref bu, .ref pa])), (st, .inr (6, [.ref la, .ref me, .ref li, .int tol, .int su, .int fa]))]) (tc := []) hG hS hA hK hP hD [2] [0, 1] [] rfl rfl (by decide) (by decide) (by decide) rfl
    refine k_endi (As := [.ref me]) ct (k_runV (As := []) (rest := [.int i]) S0 Lv_X7_136 rfl (ci := 4) (q0 := 0) rfl rfl ct (c_Row_size l D me meA 0 s.heap.size) hl.1 rfl (Nat.le_of_ble_eq_true rfl) rfl dX7_nearest_12 ⟨⟨Nat.le_of_ble_eq_true rfl, Nat.le_of_ble_eq_true rfl⟩, Nat.le_of_ble_eq_true rfl, Nat.le_of_ble_eq_true rfl⟩) rfl rfl (fun r_2 _ H locs hw_3 hP hD hK hS => ?_)
    have hK : va_K D vwCl [] s := hK
    have hP : va_P D vwCl [(w, .inr (7, [.ref st, .ref hi, .ref re, .ref fo, .ref bu, .ref pa])), (st, .inr (6, [.ref la, .ref me, .ref li, .int tol, .int su, .int fa])), (me, .inr (4, [.ref meA, .int 0]))] H := hP
    have hD : va_D A [(w, .inr (7, [.ref st, .ref hi, .ref re, .ref fo, .ref bu, .ref pa])), (st, .inr (6, [.ref la, .ref me, .ref li, .int tol, .int su, .int fa])), (me, .inr (4, [.ref meA, .int 0]))] := hD
    have hw_3 : r_2 = 0 := hw_3
    have hw_3 := hw_3.symm
    subst hw_3
    refine k_nrm (y := 0) rfl ?_
    refine lv_iconst (v := 4) hx hb dX7_nearest_15 (by decide) ?_
    refine lv_isub hx hb dX7_nearest_16 ?_
    refine k_nrm (y := (-4)) (by decide) ?_
    refine lv_icmp_le (tgt := 30) hx hb dX7_nearest_17 (by decide) (fun c9 => absurd c9 (near0 c_1)) (fun c_4 => ?_)
    obtain ⟨sa, hsa⟩ := hG.2.2.2.1 (162, "there are no four times from this index on") (by decide +kernel)
    exact vx_throwS hx hb hst (own := RX7) (cls := "java/lang/IndexOutOfBoundsException") (text := "there are no four times from this index on") (names := ["java/lang/RuntimeException", "java/lang/Exception"]) (ik := 104) (is := 162) (ic := 108) (sa := sa) hown (by decide +kernel) (by decide +kernel) (ht _ lc_X7_104) (ht _ li_java_lang_IndexOutOfBoundsException) hsa (vx_hat (fun w h => ht w (List.mem_filter.mpr ⟨lh_X7_108.1 w h, (List.mem_filter.mp h).2⟩)) lh_X7_108.2.1 (fun w h => va_Nw.use (k_NX_on (List.mem_filter.mp h).2) (hG.1 w (List.mem_filter.mp h).1 (List.mem_filter.mp h).2))) lh_X7_108.2.2 hG.2.1 hG.2.2.1 hS (by rw [hml]; exact hl.1) dX7_nearest_20 dX7_nearest_23 dX7_nearest_24 dX7_nearest_26 dX7_nearest_29 (fun x h9 => (htab x h9).elim) (Nat.le_of_ble_eq_true rfl) (Nat.le_of_ble_eq_true rfl) (Nat.le_of_ble_eq_true rfl) (Nat.le_of_ble_eq_true rfl) hlocks (fun t hv9 hz9 hk9 => ⟨(), trivial, ⟨by exact rfl, (hP.sub [0, 1, 2] rfl).kept (fun k q hk => hk9 _ (vx_lt (hP.sub [0, 1, 2] rfl) hk)), va_K.moved hv9 (hK.sub [] rfl), hD.sub [0, 1, 2] (by decide) rfl⟩, ⟨Nat.le_trans hS.1 hz9, fun q h1 h2 => (hk9 q (Nat.lt_of_lt_of_le h1 hS.1)).trans (hS.2.1 q h1 h2)⟩⟩) hS.2.2 (Nat.le_of_ble_eq_true rfl) (Nat.le_of_ble_eq_true rfl)
set_option maxHeartbeats 4000000 in
set_option maxRecDepth 100000 in
theorem c_W_code (l : Launch) (hst : l.stackTraces = false) (D : va_G) (w : Nat) (st : Nat) (hi : Nat) (re : Nat) (fo : Nat) (bu : Nat) (pa : Nat) (la : Nat) (me : Nat) (li : Nat) (tol : Int32) (su : Int32) (fa : Int32) (ln : Nat) (ll : Nat) (lc : Nat) (lnA : Nat) (i : Int32) (sz : Nat) : k_Xi (S := Unit) l D yX7_code cX7_code 2 (some .int) 7 1 6 103 [.ref w, .int i] [(w, .inr (7, [.ref st, .ref hi, .ref re, .ref fo, .ref bu, .ref pa])), (st, .inr (6, [.ref la, .ref me, .ref li, .int tol, .int su, .int fa])), (li, .inr (0, [.ref ln, .ref ll, .ref lc])), (ln, .inr (4, [.ref lnA, .int 0]))] [] (fun (r : Int32) (_ : Unit) => False) (fun _ => [(w, .inr (7, [.ref st, .ref hi, .ref re, .ref fo, .ref bu, .ref pa])), (st, .inr (6, [.ref la, .ref me, .ref li, .int tol, .int su, .int fa])), (li, .inr (0, [.ref ln, .ref ll, .ref lc])), (ln, .inr (4, [.ref lnA, .int 0]))]) (fun _ => []) (fun E => E = "java/lang/IndexOutOfBoundsException") sz := by
  refine vx_ofW (cc := cX7_code) (maxL := 2) (ret := (some .int)) (by decide) rfl ?_
  intro p e s m args below meth c s₁ B hml htab hv
  obtain ⟨rfl, hsz, hP, hK, hD0, hG⟩ := hv
  have hx := B.exec
  have hb := B.bytes
  have hr := B.returns
  have ht : ∀ v9 ∈ wsA, v9.before ([.ref w, .int i] : List Value).toArray s = true := fun v9 h9 => atoms_spec (ws := k_ws yX7_code cX7_code 2 (some .int)) B.pre v9 (List.mem_cons_of_mem _ h9)
  have hown : s.vm.findClass RX7 = some m.cls := findClass_of_methodNamed B.named
  have S0 : k_C p s m ([.ref w, .int i] : List Value).toArray c cX7_code 2 RX7 := ⟨hx, hb, hml, hown, ht⟩
  have hlocks := B.notSynchronized
  subst hsz
  have hD := hD0.self (sz := s.heap.size)
  unfold k_X
  generalize hAe : va_A [(w, .inr (7, [.ref st, .ref hi, .ref re, .ref fo, .ref bu, .ref pa])), (st, .inr (6, [.ref la, .ref me, .ref li, .int tol, .int su, .int fa])), (li, .inr (0, [.ref ln, .ref ll, .ref lc])), (ln, .inr (4, [.ref lnA, .int 0]))] s.heap.size = A at hD hG ⊢
  have hA : ∀ q : Nat, s.heap.size ≤ q → A q := fun q h => by rw [← hAe]; exact Or.inr h
  have hS : va_S A s.heap s.heap [] := va_S.rf
  have hl := lv_entry ([.ref w, .int i]) (n := 2) (Nat.le_of_ble_eq_true rfl)
  rw [lg_entry_eq]
  generalize (lg_sl ([.ref w, .int i]) ++ List.replicate (2 - (lg_sl ([.ref w, .int i])).length) Slot.unset).toArray = ls at hl ⊢
  have hl : lv_has ls 2 [(0, .ref w), (1, .int i)] := hl
  have hP : va_P D vwCl [(w, .inr (7, [.ref st, .ref hi, .ref re, .ref fo, .ref bu, .ref pa])), (st, .inr (6, [.ref la, .ref me, .ref li, .int tol, .int su, .int fa])), (li, .inr (0, [.ref ln, .ref ll, .ref lc])), (ln, .inr (4, [.ref lnA, .int 0]))] s.heap := hP
  refine lv_aload_n hx hb dX7_code_0 rfl (lv_at hl 0 rfl) ?_
  refine lv_iload_n hx hb dX7_code_1 rfl (lv_at hl 1 rfl) ?_
  have ct := k_cut_of (wc := [(w, .inr (7, [.ref st, .ref hi, .ref re, .ref fo, .ref bu, .ref pa])), (st, .inr (6, [.ref la, .ref me, .ref li, .int tol, .int su, .int fa])), (li, .inr (0, [.ref ln, .ref ll, .ref lc])), (ln, .inr (4, [.ref lnA, .int 0]))]) (wr := []) (tc := []) hG hS hA hK hP hD [0, 1, 2, 3] [] [] rfl rfl (by decide) (by decide) (by decide) rfl
  refine k_endXv (EX := fun E => E = "java/lang/IndexOutOfBoundsException") (As := [.ref w, .int i]) ct (k_xrunV (As := [.int i]) (rest := []) S0 Lv_X7_180 rfl (ci := 7) (q0 := 0) rfl rfl ct (c_W_reqCode l hst D w st hi re fo bu pa la me li tol su fa ln ll lc lnA i s.heap.size) hl.1 rfl (Nat.le_of_ble_eq_true rfl) rfl dX7_code_2 ⟨⟨Nat.le_of_ble_eq_true rfl, Nat.le_of_ble_eq_true rfl⟩, Nat.le_of_ble_eq_true rfl, Nat.le_of_ble_eq_true rfl⟩) rfl rfl ?_ (fun _ _ H locs hw_2 hP hD hK hS => ?_)
  · intro E ce q9 H locs hE hP hD hS hq9 hv9 hcl9
    try dsimp only at hE
    have hP : va_P D vwCl [(w, .inr (7, [.ref st, .ref hi, .ref re, .ref fo, .ref bu, .ref pa])), (st, .inr (6, [.ref la, .ref me, .ref li, .int tol, .int su, .int fa])), (li, .inr (0, [.ref ln, .ref ll, .ref lc])), (ln, .inr (4, [.ref lnA, .int 0]))] H := hP
    have hD : va_D A [(w, .inr (7, [.ref st, .ref hi, .ref re, .ref fo, .ref bu, .ref pa])), (st, .inr (6, [.ref la, .ref me, .ref li, .int tol, .int su, .int fa])), (li, .inr (0, [.ref ln, .ref ll, .ref lc])), (ln, .inr (4, [.ref lnA, .int 0]))] := hD
    exact vx_out (fun x h9 => (htab x h9).elim) hlocks hq9 hv9 hcl9 (fun t ht9 hv9 => ⟨(), trivial, ⟨by exact hE, by rw [ht9]; exact hP.sub [0, 1, 2, 3] rfl, va_K.moved hv9 (hK.sub [] rfl), hD.sub [0, 1, 2, 3] (by decide) rfl⟩, hS.F ht9⟩) hS.2.2 (Nat.le_of_ble_eq_true rfl) (Nat.le_of_ble_eq_true rfl)
  have hK : va_K D vwCl [] s := hK
  have hP : va_P D vwCl [(w, .inr (7, [.ref st, .ref hi, .ref re, .ref fo, .ref bu, .ref pa])), (st, .inr (6, [.ref la, .ref me, .ref li, .int tol, .int su, .int fa])), (li, .inr (0, [.ref ln, .ref ll, .ref lc])), (ln, .inr (4, [.ref lnA, .int 0]))] H := hP
  have hD : va_D A [(w, .inr (7, [.ref st, .ref hi, .ref re, .ref fo, .ref bu, .ref pa])), (st, .inr (6, [.ref la, .ref me, .ref li, .int tol, .int su, .int fa])), (li, .inr (0, [.ref ln, .ref ll, .ref lc])), (ln, .inr (4, [.ref lnA, .int 0]))] := hD
  exact hw_2.elim
set_option maxHeartbeats 4000000 in
set_option maxRecDepth 100000 in
theorem c_W_codeLength (l : Launch) (hst : l.stackTraces = false) (D : va_G) (w : Nat) (st : Nat) (hi : Nat) (re : Nat) (fo : Nat) (bu : Nat) (pa : Nat) (la : Nat) (me : Nat) (li : Nat) (tol : Int32) (su : Int32) (fa : Int32) (ln : Nat) (ll : Nat) (lc : Nat) (lnA : Nat) (i : Int32) (sz : Nat) : k_Xi (S := Unit) l D yX7_codeLength cX7_codeLength 2 (some .int) 7 1 6 103 [.ref w, .int i] [(w, .inr (7, [.ref st, .ref hi, .ref re, .ref fo, .ref bu, .ref pa])), (st, .inr (6, [.ref la, .ref me, .ref li, .int tol, .int su, .int fa])), (li, .inr (0, [.ref ln, .ref ll, .ref lc])), (ln, .inr (4, [.ref lnA, .int 0]))] [] (fun (r : Int32) (_ : Unit) => False) (fun _ => [(w, .inr (7, [.ref st, .ref hi, .ref re, .ref fo, .ref bu, .ref pa])), (st, .inr (6, [.ref la, .ref me, .ref li, .int tol, .int su, .int fa])), (li, .inr (0, [.ref ln, .ref ll, .ref lc])), (ln, .inr (4, [.ref lnA, .int 0]))]) (fun _ => []) (fun E => E = "java/lang/IndexOutOfBoundsException") sz := by
  refine vx_ofW (cc := cX7_codeLength) (maxL := 2) (ret := (some .int)) (by decide) rfl ?_
  intro p e s m args below meth c s₁ B hml htab hv
  obtain ⟨rfl, hsz, hP, hK, hD0, hG⟩ := hv
  have hx := B.exec
  have hb := B.bytes
  have hr := B.returns
  have ht : ∀ v9 ∈ wsA, v9.before ([.ref w, .int i] : List Value).toArray s = true := fun v9 h9 => atoms_spec (ws := k_ws yX7_codeLength cX7_codeLength 2 (some .int)) B.pre v9 (List.mem_cons_of_mem _ h9)
  have hown : s.vm.findClass RX7 = some m.cls := findClass_of_methodNamed B.named
  have S0 : k_C p s m ([.ref w, .int i] : List Value).toArray c cX7_codeLength 2 RX7 := ⟨hx, hb, hml, hown, ht⟩
  have hlocks := B.notSynchronized
  subst hsz
  have hD := hD0.self (sz := s.heap.size)
  unfold k_X
  generalize hAe : va_A [(w, .inr (7, [.ref st, .ref hi, .ref re, .ref fo, .ref bu, .ref pa])), (st, .inr (6, [.ref la, .ref me, .ref li, .int tol, .int su, .int fa])), (li, .inr (0, [.ref ln, .ref ll, .ref lc])), (ln, .inr (4, [.ref lnA, .int 0]))] s.heap.size = A at hD hG ⊢
  have hA : ∀ q : Nat, s.heap.size ≤ q → A q := fun q h => by rw [← hAe]; exact Or.inr h
  have hS : va_S A s.heap s.heap [] := va_S.rf
  have hl := lv_entry ([.ref w, .int i]) (n := 2) (Nat.le_of_ble_eq_true rfl)
  rw [lg_entry_eq]
  generalize (lg_sl ([.ref w, .int i]) ++ List.replicate (2 - (lg_sl ([.ref w, .int i])).length) Slot.unset).toArray = ls at hl ⊢
  have hl : lv_has ls 2 [(0, .ref w), (1, .int i)] := hl
  have hP : va_P D vwCl [(w, .inr (7, [.ref st, .ref hi, .ref re, .ref fo, .ref bu, .ref pa])), (st, .inr (6, [.ref la, .ref me, .ref li, .int tol, .int su, .int fa])), (li, .inr (0, [.ref ln, .ref ll, .ref lc])), (ln, .inr (4, [.ref lnA, .int 0]))] s.heap := hP
  refine lv_aload_n hx hb dX7_codeLength_0 rfl (lv_at hl 0 rfl) ?_
  refine lv_iload_n hx hb dX7_codeLength_1 rfl (lv_at hl 1 rfl) ?_
  have ct := k_cut_of (wc := [(w, .inr (7, [.ref st, .ref hi, .ref re, .ref fo, .ref bu, .ref pa])), (st, .inr (6, [.ref la, .ref me, .ref li, .int tol, .int su, .int fa])), (li, .inr (0, [.ref ln, .ref ll, .ref lc])), (ln, .inr (4, [.ref lnA, .int 0]))]) (wr := []) (tc := []) hG hS hA hK hP hD [0, 1, 2, 3] [] [] rfl rfl (by decide) (by decide) (by decide) rfl
  refine k_endXv (EX := fun E => E = "java/lang/IndexOutOfBoundsException") (As := [.ref w, .int i]) ct (k_xrunV (As := [.int i]) (rest := []) S0 Lv_X7_180 rfl (ci := 7) (q0 := 0) rfl rfl ct (c_W_reqCode l hst D w st hi re fo bu pa la me li tol su fa ln ll lc lnA i s.heap.size) hl.1 rfl (Nat.le_of_ble_eq_true rfl) rfl dX7_codeLength_2 ⟨⟨Nat.le_of_ble_eq_true rfl, Nat.le_of_ble_eq_true rfl⟩, Nat.le_of_ble_eq_true rfl, Nat.le_of_ble_eq_true rfl⟩) rfl rfl ?_ (fun _ _ H locs hw_2 hP hD hK hS => ?_)
  · intro E ce q9 H locs hE hP hD hS hq9 hv9 hcl9
    try dsimp only at hE
    have hP : va_P D vwCl [(w, .inr (7, [.ref st, .ref hi, .ref re, .ref fo, .ref bu, .ref pa])), (st, .inr (6, [.ref la, .ref me, .ref li, .int tol, .int su, .int fa])), (li, .inr (0, [.ref ln, .ref ll, .ref lc])), (ln, .inr (4, [.ref lnA, .int 0]))] H := hP
    have hD : va_D A [(w, .inr (7, [.ref st, .ref hi, .ref re, .ref fo, .ref bu, .ref pa])), (st, .inr (6, [.ref la, .ref me, .ref li, .int tol, .int su, .int fa])), (li, .inr (0, [.ref ln, .ref ll, .ref lc])), (ln, .inr (4, [.ref lnA, .int 0]))] := hD
    exact vx_out (fun x h9 => (htab x h9).elim) hlocks hq9 hv9 hcl9 (fun t ht9 hv9 => ⟨(), trivial, ⟨by exact hE, by rw [ht9]; exact hP.sub [0, 1, 2, 3] rfl, va_K.moved hv9 (hK.sub [] rfl), hD.sub [0, 1, 2, 3] (by decide) rfl⟩, hS.F ht9⟩) hS.2.2 (Nat.le_of_ble_eq_true rfl) (Nat.le_of_ble_eq_true rfl)
  have hK : va_K D vwCl [] s := hK
  have hP : va_P D vwCl [(w, .inr (7, [.ref st, .ref hi, .ref re, .ref fo, .ref bu, .ref pa])), (st, .inr (6, [.ref la, .ref me, .ref li, .int tol, .int su, .int fa])), (li, .inr (0, [.ref ln, .ref ll, .ref lc])), (ln, .inr (4, [.ref lnA, .int 0]))] H := hP
  have hD : va_D A [(w, .inr (7, [.ref st, .ref hi, .ref re, .ref fo, .ref bu, .ref pa])), (st, .inr (6, [.ref la, .ref me, .ref li, .int tol, .int su, .int fa])), (li, .inr (0, [.ref ln, .ref ll, .ref lc])), (ln, .inr (4, [.ref lnA, .int 0]))] := hD
  exact hw_2.elim
set_option maxHeartbeats 4000000 in
set_option maxRecDepth 100000 in
theorem c_W_count (l : Launch) (hst : l.stackTraces = false) (D : va_G) (w : Nat) (st : Nat) (hi : Nat) (re : Nat) (fo : Nat) (bu : Nat) (pa : Nat) (la : Nat) (me : Nat) (li : Nat) (tol : Int32) (su : Int32) (fa : Int32) (ln : Nat) (ll : Nat) (lc : Nat) (lnA : Nat) (i : Int32) (sz : Nat) : k_Xi (S := Unit) l D yX7_count cX7_count 2 (some .int) 7 1 6 103 [.ref w, .int i] [(w, .inr (7, [.ref st, .ref hi, .ref re, .ref fo, .ref bu, .ref pa])), (st, .inr (6, [.ref la, .ref me, .ref li, .int tol, .int su, .int fa])), (li, .inr (0, [.ref ln, .ref ll, .ref lc])), (ln, .inr (4, [.ref lnA, .int 0]))] [] (fun (r : Int32) (_ : Unit) => False) (fun _ => [(w, .inr (7, [.ref st, .ref hi, .ref re, .ref fo, .ref bu, .ref pa])), (st, .inr (6, [.ref la, .ref me, .ref li, .int tol, .int su, .int fa])), (li, .inr (0, [.ref ln, .ref ll, .ref lc])), (ln, .inr (4, [.ref lnA, .int 0]))]) (fun _ => []) (fun E => E = "java/lang/IndexOutOfBoundsException") sz := by
  refine vx_ofW (cc := cX7_count) (maxL := 2) (ret := (some .int)) (by decide) rfl ?_
  intro p e s m args below meth c s₁ B hml htab hv
  obtain ⟨rfl, hsz, hP, hK, hD0, hG⟩ := hv
  have hx := B.exec
  have hb := B.bytes
  have hr := B.returns
  have ht : ∀ v9 ∈ wsA, v9.before ([.ref w, .int i] : List Value).toArray s = true := fun v9 h9 => atoms_spec (ws := k_ws yX7_count cX7_count 2 (some .int)) B.pre v9 (List.mem_cons_of_mem _ h9)
  have hown : s.vm.findClass RX7 = some m.cls := findClass_of_methodNamed B.named
  have S0 : k_C p s m ([.ref w, .int i] : List Value).toArray c cX7_count 2 RX7 := ⟨hx, hb, hml, hown, ht⟩
  have hlocks := B.notSynchronized
  subst hsz
  have hD := hD0.self (sz := s.heap.size)
  unfold k_X
  generalize hAe : va_A [(w, .inr (7, [.ref st, .ref hi, .ref re, .ref fo, .ref bu, .ref pa])), (st, .inr (6, [.ref la, .ref me, .ref li, .int tol, .int su, .int fa])), (li, .inr (0, [.ref ln, .ref ll, .ref lc])), (ln, .inr (4, [.ref lnA, .int 0]))] s.heap.size = A at hD hG ⊢
  have hA : ∀ q : Nat, s.heap.size ≤ q → A q := fun q h => by rw [← hAe]; exact Or.inr h
  have hS : va_S A s.heap s.heap [] := va_S.rf
  have hl := lv_entry ([.ref w, .int i]) (n := 2) (Nat.le_of_ble_eq_true rfl)
  rw [lg_entry_eq]
  generalize (lg_sl ([.ref w, .int i]) ++ List.replicate (2 - (lg_sl ([.ref w, .int i])).length) Slot.unset).toArray = ls at hl ⊢
  have hl : lv_has ls 2 [(0, .ref w), (1, .int i)] := hl
  have hP : va_P D vwCl [(w, .inr (7, [.ref st, .ref hi, .ref re, .ref fo, .ref bu, .ref pa])), (st, .inr (6, [.ref la, .ref me, .ref li, .int tol, .int su, .int fa])), (li, .inr (0, [.ref ln, .ref ll, .ref lc])), (ln, .inr (4, [.ref lnA, .int 0]))] s.heap := hP
  refine lv_aload_n hx hb dX7_count_0 rfl (lv_at hl 0 rfl) ?_
  refine lv_iload_n hx hb dX7_count_1 rfl (lv_at hl 1 rfl) ?_
  have ct := k_cut_of (wc := [(w, .inr (7, [.ref st, .ref hi, .ref re, .ref fo, .ref bu, .ref pa])), (st, .inr (6, [.ref la, .ref me, .ref li, .int tol, .int su, .int fa])), (li, .inr (0, [.ref ln, .ref ll, .ref lc])), (ln, .inr (4, [.ref lnA, .int 0]))]) (wr := []) (tc := []) hG hS hA hK hP hD [0, 1, 2, 3] [] [] rfl rfl (by decide) (by decide) (by decide) rfl
  refine k_endXv (EX := fun E => E = "java/lang/IndexOutOfBoundsException") (As := [.ref w, .int i]) ct (k_xrunV (As := [.int i]) (rest := []) S0 Lv_X7_180 rfl (ci := 7) (q0 := 0) rfl rfl ct (c_W_reqCode l hst D w st hi re fo bu pa la me li tol su fa ln ll lc lnA i s.heap.size) hl.1 rfl (Nat.le_of_ble_eq_true rfl) rfl dX7_count_2 ⟨⟨Nat.le_of_ble_eq_true rfl, Nat.le_of_ble_eq_true rfl⟩, Nat.le_of_ble_eq_true rfl, Nat.le_of_ble_eq_true rfl⟩) rfl rfl ?_ (fun _ _ H locs hw_2 hP hD hK hS => ?_)
  · intro E ce q9 H locs hE hP hD hS hq9 hv9 hcl9
    try dsimp only at hE
    have hP : va_P D vwCl [(w, .inr (7, [.ref st, .ref hi, .ref re, .ref fo, .ref bu, .ref pa])), (st, .inr (6, [.ref la, .ref me, .ref li, .int tol, .int su, .int fa])), (li, .inr (0, [.ref ln, .ref ll, .ref lc])), (ln, .inr (4, [.ref lnA, .int 0]))] H := hP
    have hD : va_D A [(w, .inr (7, [.ref st, .ref hi, .ref re, .ref fo, .ref bu, .ref pa])), (st, .inr (6, [.ref la, .ref me, .ref li, .int tol, .int su, .int fa])), (li, .inr (0, [.ref ln, .ref ll, .ref lc])), (ln, .inr (4, [.ref lnA, .int 0]))] := hD
    exact vx_out (fun x h9 => (htab x h9).elim) hlocks hq9 hv9 hcl9 (fun t ht9 hv9 => ⟨(), trivial, ⟨by exact hE, by rw [ht9]; exact hP.sub [0, 1, 2, 3] rfl, va_K.moved hv9 (hK.sub [] rfl), hD.sub [0, 1, 2, 3] (by decide) rfl⟩, hS.F ht9⟩) hS.2.2 (Nat.le_of_ble_eq_true rfl) (Nat.le_of_ble_eq_true rfl)
  have hK : va_K D vwCl [] s := hK
  have hP : va_P D vwCl [(w, .inr (7, [.ref st, .ref hi, .ref re, .ref fo, .ref bu, .ref pa])), (st, .inr (6, [.ref la, .ref me, .ref li, .int tol, .int su, .int fa])), (li, .inr (0, [.ref ln, .ref ll, .ref lc])), (ln, .inr (4, [.ref lnA, .int 0]))] H := hP
  have hD : va_D A [(w, .inr (7, [.ref st, .ref hi, .ref re, .ref fo, .ref bu, .ref pa])), (st, .inr (6, [.ref la, .ref me, .ref li, .int tol, .int su, .int fa])), (li, .inr (0, [.ref ln, .ref ll, .ref lc])), (ln, .inr (4, [.ref lnA, .int 0]))] := hD
  exact hw_2.elim
set_option maxHeartbeats 4000000 in
set_option maxRecDepth 100000 in
theorem c_W_greatest (l : Launch) (hst : l.stackTraces = false) (D : va_G) (w : Nat) (st : Nat) (hi : Nat) (re : Nat) (fo : Nat) (bu : Nat) (pa : Nat) (la : Nat) (me : Nat) (li : Nat) (tol : Int32) (su : Int32) (fa : Int32) (ld : Nat) (lz : Nat) (lzA : Nat) (i : Int32) (sz : Nat) : k_Xi (S := Unit) l D yX7_greatestSmudge cX7_greatestSmudge 5 (some .int) 7 1 6 103 [.ref w, .int i] [(w, .inr (7, [.ref st, .ref hi, .ref re, .ref fo, .ref bu, .ref pa])), (st, .inr (6, [.ref la, .ref me, .ref li, .int tol, .int su, .int fa])), (la, .inr (2, [.ref ld, .ref lz])), (lz, .inr (4, [.ref lzA, .int 0]))] [] (fun (r : Int32) (_ : Unit) => False) (fun _ => [(w, .inr (7, [.ref st, .ref hi, .ref re, .ref fo, .ref bu, .ref pa])), (st, .inr (6, [.ref la, .ref me, .ref li, .int tol, .int su, .int fa])), (la, .inr (2, [.ref ld, .ref lz])), (lz, .inr (4, [.ref lzA, .int 0]))]) (fun _ => []) (fun E => E = "java/lang/IndexOutOfBoundsException") sz := by
  refine vx_ofW (cc := cX7_greatestSmudge) (maxL := 5) (ret := (some .int)) (by decide) rfl ?_
  intro p e s m args below meth c s₁ B hml htab hv
  obtain ⟨rfl, hsz, hP, hK, hD0, hG⟩ := hv
  have hx := B.exec
  have hb := B.bytes
  have hr := B.returns
  have ht : ∀ v9 ∈ wsA, v9.before ([.ref w, .int i] : List Value).toArray s = true := fun v9 h9 => atoms_spec (ws := k_ws yX7_greatestSmudge cX7_greatestSmudge 5 (some .int)) B.pre v9 (List.mem_cons_of_mem _ h9)
  have hown : s.vm.findClass RX7 = some m.cls := findClass_of_methodNamed B.named
  have S0 : k_C p s m ([.ref w, .int i] : List Value).toArray c cX7_greatestSmudge 5 RX7 := ⟨hx, hb, hml, hown, ht⟩
  have hlocks := B.notSynchronized
  subst hsz
  have hD := hD0.self (sz := s.heap.size)
  unfold k_X
  generalize hAe : va_A [(w, .inr (7, [.ref st, .ref hi, .ref re, .ref fo, .ref bu, .ref pa])), (st, .inr (6, [.ref la, .ref me, .ref li, .int tol, .int su, .int fa])), (la, .inr (2, [.ref ld, .ref lz])), (lz, .inr (4, [.ref lzA, .int 0]))] s.heap.size = A at hD hG ⊢
  have hA : ∀ q : Nat, s.heap.size ≤ q → A q := fun q h => by rw [← hAe]; exact Or.inr h
  have hS : va_S A s.heap s.heap [] := va_S.rf
  have hl := lv_entry ([.ref w, .int i]) (n := 5) (Nat.le_of_ble_eq_true rfl)
  rw [lg_entry_eq]
  generalize (lg_sl ([.ref w, .int i]) ++ List.replicate (5 - (lg_sl ([.ref w, .int i])).length) Slot.unset).toArray = ls at hl ⊢
  have hl : lv_has ls 5 [(0, .ref w), (1, .int i)] := hl
  have hP : va_P D vwCl [(w, .inr (7, [.ref st, .ref hi, .ref re, .ref fo, .ref bu, .ref pa])), (st, .inr (6, [.ref la, .ref me, .ref li, .int tol, .int su, .int fa])), (la, .inr (2, [.ref ld, .ref lz])), (lz, .inr (4, [.ref lzA, .int 0]))] s.heap := hP
  refine lv_aload_n hx hb dX7_greatestSmudge_0 rfl (lv_at hl 0 rfl) ?_
  refine lv_iload_n hx hb dX7_greatestSmudge_1 rfl (lv_at hl 1 rfl) ?_
  have ct := k_cut_of (wc := [(w, .inr (7, [.ref st, .ref hi, .ref re, .ref fo, .ref bu, .ref pa])), (st, .inr (6, [.ref la, .ref me, .ref li, .int tol, .int su, .int fa])), (la, .inr (2, [.ref ld, .ref lz])), (lz, .inr (4, [.ref lzA, .int 0]))]) (wr := []) (tc := []) hG hS hA hK hP hD [0, 1, 2, 3] [] [] rfl rfl (by decide) (by decide) (by decide) rfl
  refine k_endXv (EX := fun E => E = "java/lang/IndexOutOfBoundsException") (As := [.ref w, .int i]) ct (k_xrunV (As := [.int i]) (rest := []) S0 Lv_X7_82 rfl (ci := 7) (q0 := 0) rfl rfl ct (c_W_reqEl l hst D w st hi re fo bu pa la me li tol su fa ld lz lzA i s.heap.size) hl.1 rfl (Nat.le_of_ble_eq_true rfl) rfl dX7_greatestSmudge_2 ⟨⟨Nat.le_of_ble_eq_true rfl, Nat.le_of_ble_eq_true rfl⟩, Nat.le_of_ble_eq_true rfl, Nat.le_of_ble_eq_true rfl⟩) rfl rfl ?_ (fun _ _ H locs hw_2 hP hD hK hS => ?_)
  · intro E ce q9 H locs hE hP hD hS hq9 hv9 hcl9
    try dsimp only at hE
    have hP : va_P D vwCl [(w, .inr (7, [.ref st, .ref hi, .ref re, .ref fo, .ref bu, .ref pa])), (st, .inr (6, [.ref la, .ref me, .ref li, .int tol, .int su, .int fa])), (la, .inr (2, [.ref ld, .ref lz])), (lz, .inr (4, [.ref lzA, .int 0]))] H := hP
    have hD : va_D A [(w, .inr (7, [.ref st, .ref hi, .ref re, .ref fo, .ref bu, .ref pa])), (st, .inr (6, [.ref la, .ref me, .ref li, .int tol, .int su, .int fa])), (la, .inr (2, [.ref ld, .ref lz])), (lz, .inr (4, [.ref lzA, .int 0]))] := hD
    exact vx_out (fun x h9 => (htab x h9).elim) hlocks hq9 hv9 hcl9 (fun t ht9 hv9 => ⟨(), trivial, ⟨by exact hE, by rw [ht9]; exact hP.sub [0, 1, 2, 3] rfl, va_K.moved hv9 (hK.sub [] rfl), hD.sub [0, 1, 2, 3] (by decide) rfl⟩, hS.F ht9⟩) hS.2.2 (Nat.le_of_ble_eq_true rfl) (Nat.le_of_ble_eq_true rfl)
  have hK : va_K D vwCl [] s := hK
  have hP : va_P D vwCl [(w, .inr (7, [.ref st, .ref hi, .ref re, .ref fo, .ref bu, .ref pa])), (st, .inr (6, [.ref la, .ref me, .ref li, .int tol, .int su, .int fa])), (la, .inr (2, [.ref ld, .ref lz])), (lz, .inr (4, [.ref lzA, .int 0]))] H := hP
  have hD : va_D A [(w, .inr (7, [.ref st, .ref hi, .ref re, .ref fo, .ref bu, .ref pa])), (st, .inr (6, [.ref la, .ref me, .ref li, .int tol, .int su, .int fa])), (la, .inr (2, [.ref ld, .ref lz])), (lz, .inr (4, [.ref lzA, .int 0]))] := hD
  exact hw_2.elim
set_option maxHeartbeats 4000000 in
set_option maxRecDepth 100000 in
theorem c_W_undo (l : Launch) (hst : l.stackTraces = false) (D : va_G) (w : Nat) (st : Nat) (hi : Nat) (re : Nat) (fo : Nat) (bu : Nat) (pa : Nat) (ri : Nat) (sz : Nat) : k_Xi (S := Unit) l D yX7_undo cX7_undo 1 (some .int) 6 1 6 82 [.ref w] [(w, .inr (7, [.ref st, .ref hi, .ref re, .ref fo, .ref bu, .ref pa])), (hi, .inr (5, [.ref ri, .int 0, .int 0]))] [] (fun (r : Int32) (_ : Unit) => False) (fun _ => [(w, .inr (7, [.ref st, .ref hi, .ref re, .ref fo, .ref bu, .ref pa])), (hi, .inr (5, [.ref ri, .int 0, .int 0]))]) (fun _ => []) (fun E => E = "java/lang/IllegalStateException") sz := by
  refine vx_ofW (cc := cX7_undo) (maxL := 1) (ret := (some .int)) (by decide) rfl ?_
  intro p e s m args below meth c s₁ B hml htab hv
  obtain ⟨rfl, hsz, hP, hK, hD0, hG⟩ := hv
  have hx := B.exec
  have hb := B.bytes
  have hr := B.returns
  have ht : ∀ v9 ∈ wsA, v9.before ([.ref w] : List Value).toArray s = true := fun v9 h9 => atoms_spec (ws := k_ws yX7_undo cX7_undo 1 (some .int)) B.pre v9 (List.mem_cons_of_mem _ h9)
  have hown : s.vm.findClass RX7 = some m.cls := findClass_of_methodNamed B.named
  have S0 : k_C p s m ([.ref w] : List Value).toArray c cX7_undo 1 RX7 := ⟨hx, hb, hml, hown, ht⟩
  have hlocks := B.notSynchronized
  subst hsz
  have hD := hD0.self (sz := s.heap.size)
  unfold k_X
  generalize hAe : va_A [(w, .inr (7, [.ref st, .ref hi, .ref re, .ref fo, .ref bu, .ref pa])), (hi, .inr (5, [.ref ri, .int 0, .int 0]))] s.heap.size = A at hD hG ⊢
  have hA : ∀ q : Nat, s.heap.size ≤ q → A q := fun q h => by rw [← hAe]; exact Or.inr h
  have hS : va_S A s.heap s.heap [] := va_S.rf
  have hl := lv_entry ([.ref w]) (n := 1) (Nat.le_of_ble_eq_true rfl)
  rw [lg_entry_eq]
  generalize (lg_sl ([.ref w]) ++ List.replicate (1 - (lg_sl ([.ref w])).length) Slot.unset).toArray = ls at hl ⊢
  have hl : lv_has ls 1 [(0, .ref w)] := hl
  have hP : va_P D vwCl [(w, .inr (7, [.ref st, .ref hi, .ref re, .ref fo, .ref bu, .ref pa])), (hi, .inr (5, [.ref ri, .int 0, .int 0]))] s.heap := hP
  refine lv_aload_n hx hb dX7_undo_0 rfl (lv_at hl 0 rfl) ?_
  refine va_get (D := D) (ci := 7) (v := .ref hi) (C := RX7) (T := TX7) (N := 6) hx hb ht inA_X7 hown hK hP 0 rfl rfl 1 (by decide) (ht _ lf_X7_19) (fun _ h9 => h9) rfl dX7_undo_1 ?_
  have ct := k_cut_of (wc := [(hi, .inr (5, [.ref ri, .int 0, .int 0]))]) (wr := [(w, .inr (7, [.ref st, .ref hi, .ref re, .ref fo, .ref bu, .ref pa]))]) (tc := []) hG hS hA hK hP hD [1] [0] [] rfl rfl (by decide) (by decide) (by decide) rfl
  refine k_endi (As := [.ref hi]) ct (k_runV (As := []) (rest := []) S0 Lv_X7_223 rfl (ci := 5) (q0 := 0) rfl rfl ct (c_Saved_size l D hi ri 0 0 s.heap.size) hl.1 rfl (Nat.le_of_ble_eq_true rfl) rfl dX7_undo_4 ⟨⟨Nat.le_of_ble_eq_true rfl, Nat.le_of_ble_eq_true rfl⟩, Nat.le_of_ble_eq_true rfl, Nat.le_of_ble_eq_true rfl⟩) rfl rfl (fun r_1 _ H locs hw_2 hP hD hK hS => ?_)
  have hK : va_K D vwCl [] s := hK
  have hP : va_P D vwCl [(w, .inr (7, [.ref st, .ref hi, .ref re, .ref fo, .ref bu, .ref pa])), (hi, .inr (5, [.ref ri, .int 0, .int 0]))] H := hP
  have hD : va_D A [(w, .inr (7, [.ref st, .ref hi, .ref re, .ref fo, .ref bu, .ref pa])), (hi, .inr (5, [.ref ri, .int 0, .int 0]))] := hD
  have hw_2 : r_1 = 0 := hw_2
  have hw_2 := hw_2.symm
  subst hw_2
  refine k_nrm (y := 0) rfl ?_
  refine lv_if_ne (tgt := 20) hx hb dX7_undo_7 (by decide) (fun c9 => absurd (by decide) c9) (fun _ => ?_)
  obtain ⟨sa, hsa⟩ := hG.2.2.2.1 (224, "no state is saved") (by decide +kernel)
  exact vx_throwS hx hb hst (own := RX7) (cls := "java/lang/IllegalStateException") (text := "no state is saved") (names := ["java/lang/RuntimeException", "java/lang/Exception"]) (ik := 128) (is := 224) (ic := 132) (sa := sa) hown (by decide +kernel) (by decide +kernel) (ht _ lc_X7_128) (ht _ li_java_lang_IllegalStateException) hsa (vx_hat (fun w h => ht w (List.mem_filter.mpr ⟨lh_X7_132.1 w h, (List.mem_filter.mp h).2⟩)) lh_X7_132.2.1 (fun w h => va_Nw.use (k_NX_on (List.mem_filter.mp h).2) (hG.1 w (List.mem_filter.mp h).1 (List.mem_filter.mp h).2))) lh_X7_132.2.2 hG.2.1 hG.2.2.1 hS (by rw [hml]; exact hl.1) dX7_undo_10 dX7_undo_13 dX7_undo_14 dX7_undo_16 dX7_undo_19 (fun x h9 => (htab x h9).elim) (Nat.le_of_ble_eq_true rfl) (Nat.le_of_ble_eq_true rfl) (Nat.le_of_ble_eq_true rfl) (Nat.le_of_ble_eq_true rfl) hlocks (fun t hv9 hz9 hk9 => ⟨(), trivial, ⟨by exact rfl, (hP.sub [0, 1] rfl).kept (fun k q hk => hk9 _ (vx_lt (hP.sub [0, 1] rfl) hk)), va_K.moved hv9 (hK.sub [] rfl), hD.sub [0, 1] (by decide) rfl⟩, ⟨Nat.le_trans hS.1 hz9, fun q h1 h2 => (hk9 q (Nat.lt_of_lt_of_le h1 hS.1)).trans (hS.2.1 q h1 h2)⟩⟩) hS.2.2 (Nat.le_of_ble_eq_true rfl) (Nat.le_of_ble_eq_true rfl)
set_option maxHeartbeats 4000000 in
set_option maxRecDepth 100000 in
theorem c_W_run (l : Launch) (hst : l.stackTraces = false) (D : va_G) (w : Nat) (st : Nat) (hi : Nat) (re : Nat) (fo : Nat) (bu : Nat) (pa : Nat) (buA : Nat) (sz : Nat) : k_Xi (S := Unit) l D yX7_run cX7_run 5 (some .int) 6 1 6 82 [.ref w] [(w, .inr (7, [.ref st, .ref hi, .ref re, .ref fo, .ref bu, .ref pa])), (bu, .inr (4, [.ref buA, .int 0])), (pa, .inr (1, [.int 0, .int 0, .int 0, .int 0, .int 0, .int 0]))] [] (fun (r : Int32) (_ : Unit) => False) (fun _ => [(w, .inr (7, [.ref st, .ref hi, .ref re, .ref fo, .ref bu, .ref pa])), (bu, .inr (4, [.ref buA, .int 0])), (pa, .inr (1, [.int 0, .int 0, .int 0, .int 0, .int 0, .int 0]))]) (fun _ => []) (fun E => E = "java/lang/IllegalArgumentException") sz := by
  refine vx_ofW (cc := cX7_run) (maxL := 5) (ret := (some .int)) (by decide) rfl ?_
  intro p e s m args below meth c s₁ B hml htab hv
  obtain ⟨rfl, hsz, hP, hK, hD0, hG⟩ := hv
  have hx := B.exec
  have hb := B.bytes
  have hr := B.returns
  have ht : ∀ v9 ∈ wsA, v9.before ([.ref w] : List Value).toArray s = true := fun v9 h9 => atoms_spec (ws := k_ws yX7_run cX7_run 5 (some .int)) B.pre v9 (List.mem_cons_of_mem _ h9)
  have hown : s.vm.findClass RX7 = some m.cls := findClass_of_methodNamed B.named
  have S0 : k_C p s m ([.ref w] : List Value).toArray c cX7_run 5 RX7 := ⟨hx, hb, hml, hown, ht⟩
  have hlocks := B.notSynchronized
  subst hsz
  have hD := hD0.self (sz := s.heap.size)
  unfold k_X
  generalize hAe : va_A [(w, .inr (7, [.ref st, .ref hi, .ref re, .ref fo, .ref bu, .ref pa])), (bu, .inr (4, [.ref buA, .int 0])), (pa, .inr (1, [.int 0, .int 0, .int 0, .int 0, .int 0, .int 0]))] s.heap.size = A at hD hG ⊢
  have hA : ∀ q : Nat, s.heap.size ≤ q → A q := fun q h => by rw [← hAe]; exact Or.inr h
  have hS : va_S A s.heap s.heap [] := va_S.rf
  have hl := lv_entry ([.ref w]) (n := 5) (Nat.le_of_ble_eq_true rfl)
  rw [lg_entry_eq]
  generalize (lg_sl ([.ref w]) ++ List.replicate (5 - (lg_sl ([.ref w])).length) Slot.unset).toArray = ls at hl ⊢
  have hl : lv_has ls 5 [(0, .ref w)] := hl
  have hP : va_P D vwCl [(w, .inr (7, [.ref st, .ref hi, .ref re, .ref fo, .ref bu, .ref pa])), (bu, .inr (4, [.ref buA, .int 0])), (pa, .inr (1, [.int 0, .int 0, .int 0, .int 0, .int 0, .int 0]))] s.heap := hP
  refine lv_aload_n hx hb dX7_run_0 rfl (lv_at hl 0 rfl) ?_
  have ct := k_cut_of (wc := [(w, .inr (7, [.ref st, .ref hi, .ref re, .ref fo, .ref bu, .ref pa])), (bu, .inr (4, [.ref buA, .int 0])), (pa, .inr (1, [.int 0, .int 0, .int 0, .int 0, .int 0, .int 0]))]) (wr := []) (tc := []) hG hS hA hK hP hD [0, 1, 2] [] [] rfl rfl (by decide) (by decide) (by decide) rfl
  refine k_endi (As := [.ref w]) ct (k_runV (As := []) (rest := []) S0 Lv_X7_206 rfl (ci := 7) (q0 := 0) rfl rfl ct (c_W_parse l D w st hi re fo bu pa buA s.heap.size) hl.1 rfl (Nat.le_of_ble_eq_true rfl) rfl dX7_run_1 ⟨⟨Nat.le_of_ble_eq_true rfl, Nat.le_of_ble_eq_true rfl⟩, Nat.le_of_ble_eq_true rfl, Nat.le_of_ble_eq_true rfl⟩) rfl rfl (fun r_1 _ H locs hw_2 hP hD hK hS => ?_)
  have hK : va_K D vwCl [] s := hK
  have hP : va_P D vwCl [(w, .inr (7, [.ref st, .ref hi, .ref re, .ref fo, .ref bu, .ref pa])), (bu, .inr (4, [.ref buA, .int 0])), (pa, .inr (1, [.int 0, .int 0, .int 0, .int 0, .int 0, .int 0]))] H := hP
  have hD : va_D A [(w, .inr (7, [.ref st, .ref hi, .ref re, .ref fo, .ref bu, .ref pa])), (bu, .inr (4, [.ref buA, .int 0])), (pa, .inr (1, [.int 0, .int 0, .int 0, .int 0, .int 0, .int 0]))] := hD
  have hw_2 : r_1 = 0 := hw_2
  have hw_2 := hw_2.symm
  subst hw_2
  refine k_nrm (y := 0) rfl ?_
  refine lv_aload_n hx hb dX7_run_4 rfl (lv_at hl 0 rfl) ?_
  refine va_get (D := D) (ci := 7) (v := .ref bu) (C := RX7) (T := TX7) (N := 6) hx hb ht inA_X7 hown hK hP 0 rfl rfl 4 (by decide) (ht _ lf_X7_39) (fun _ h9 => h9) rfl dX7_run_5 ?_
  have ct := k_cut_of (wc := [(bu, .inr (4, [.ref buA, .int 0]))]) (wr := [(w, .inr (7, [.ref st, .ref hi, .ref re, .ref fo, .ref bu, .ref pa])), (pa, .inr (1, [.int 0, .int 0, .int 0, .int 0, .int 0, .int 0]))]) (tc := []) hG hS hA hK hP hD [1] [0, 2] [] rfl rfl (by decide) (by decide) (by decide) rfl
  refine k_endi (As := [.ref bu]) ct (k_runV (As := []) (rest := [.int 0]) S0 Lv_X7_136 rfl (ci := 4) (q0 := 0) rfl rfl ct (c_Row_size l D bu buA 0 H.size) hl.1 rfl (Nat.le_of_ble_eq_true rfl) rfl dX7_run_8 ⟨⟨Nat.le_of_ble_eq_true rfl, Nat.le_of_ble_eq_true rfl⟩, Nat.le_of_ble_eq_true rfl, Nat.le_of_ble_eq_true rfl⟩) rfl rfl (fun r_3 _ H locs hw_4 hP hD hK hS => ?_)
  have hK : va_K D vwCl [] s := hK
  have hP : va_P D vwCl [(w, .inr (7, [.ref st, .ref hi, .ref re, .ref fo, .ref bu, .ref pa])), (pa, .inr (1, [.int 0, .int 0, .int 0, .int 0, .int 0, .int 0])), (bu, .inr (4, [.ref buA, .int 0]))] H := hP
  have hD : va_D A [(w, .inr (7, [.ref st, .ref hi, .ref re, .ref fo, .ref bu, .ref pa])), (pa, .inr (1, [.int 0, .int 0, .int 0, .int 0, .int 0, .int 0])), (bu, .inr (4, [.ref buA, .int 0]))] := hD
  have hw_4 : r_3 = 0 := hw_4
  have hw_4 := hw_4.symm
  subst hw_4
  refine k_nrm (y := 0) rfl ?_
  refine lv_icmp_ge (tgt := 18) hx hb dX7_run_11 (by decide) (fun _ => ?_) (fun c9 => absurd (by decide) c9)
  refine lv_iconst (v := 0) hx hb dX7_run_18 (by decide) ?_
  refine lv_istore_n (lv' := [(1, .int 0), (0, .ref w)]) hx hb dX7_run_19 rfl hl (by decide) rfl (fun ls hl => ?_)
  refine lv_iload_n hx hb dX7_run_20 rfl (lv_at hl 0 rfl) ?_
  refine lv_if_ne (tgt := 34) hx hb dX7_run_21 (by decide) (fun c9 => absurd (by decide) c9) (fun _ => ?_)
  refine lv_aload_n hx hb dX7_run_24 rfl (lv_at hl 1 rfl) ?_
  refine va_get (D := D) (ci := 7) (v := .ref pa) (C := RX7) (T := TX7) (N := 6) hx hb ht inA_X7 hown hK hP 0 rfl rfl 5 (by decide) (ht _ lf_X7_45) (fun _ h9 => h9) rfl dX7_run_25 ?_
  have ct := k_cut_of (wc := [(pa, .inr (1, [.int 0, .int 0, .int 0, .int 0, .int 0, .int 0]))]) (wr := [(w, .inr (7, [.ref st, .ref hi, .ref re, .ref fo, .ref bu, .ref pa])), (bu, .inr (4, [.ref buA, .int 0]))]) (tc := []) hG hS hA hK hP hD [1] [0, 2] [] rfl rfl (by decide) (by decide) (by decide) rfl
  refine k_endi (As := [.ref pa]) ct (k_runV (As := []) (rest := []) S0 Lv_X7_209 rfl (ci := 1) (q0 := 0) rfl rfl ct (c_atEnd0 l D pa H.size) hl.1 rfl (Nat.le_of_ble_eq_true rfl) rfl dX7_run_28 ⟨⟨Nat.le_of_ble_eq_true rfl, Nat.le_of_ble_eq_true rfl⟩, Nat.le_of_ble_eq_true rfl, Nat.le_of_ble_eq_true rfl⟩) rfl rfl (fun r_5 _ H locs hw_6 hP hD hK hS => ?_)
  have hK : va_K D vwCl [] s := hK
  have hP : va_P D vwCl [(w, .inr (7, [.ref st, .ref hi, .ref re, .ref fo, .ref bu, .ref pa])), (bu, .inr (4, [.ref buA, .int 0])), (pa, .inr (1, [.int 0, .int 0, .int 0, .int 0, .int 0, .int 0]))] H := hP
  have hD : va_D A [(w, .inr (7, [.ref st, .ref hi, .ref re, .ref fo, .ref bu, .ref pa])), (bu, .inr (4, [.ref buA, .int 0])), (pa, .inr (1, [.int 0, .int 0, .int 0, .int 0, .int 0, .int 0]))] := hD
  have hw_6 : r_5 = 0 := hw_6
  have hw_6 := hw_6.symm
  subst hw_6
  refine k_nrm (y := 0) rfl ?_
  refine lv_if_ne (tgt := 44) hx hb dX7_run_31 (by decide) (fun c9 => absurd (by decide) c9) (fun _ => ?_)
  obtain ⟨sa, hsa⟩ := hG.2.2.2.1 (212, "the buffer is not a complete command text") (by decide +kernel)
  exact vx_throwS hx hb hst (own := RX7) (cls := "java/lang/IllegalArgumentException") (text := "the buffer is not a complete command text") (names := ["java/lang/RuntimeException", "java/lang/Exception"]) (ik := 49) (is := 212) (ic := 53) (sa := sa) hown (by decide +kernel) (by decide +kernel) (ht _ lc_X7_49) (ht _ li_java_lang_IllegalArgumentException) hsa (vx_hat (fun w h => ht w (List.mem_filter.mpr ⟨lh_X7_53.1 w h, (List.mem_filter.mp h).2⟩)) lh_X7_53.2.1 (fun w h => va_Nw.use (k_NX_on (List.mem_filter.mp h).2) (hG.1 w (List.mem_filter.mp h).1 (List.mem_filter.mp h).2))) lh_X7_53.2.2 hG.2.1 hG.2.2.1 hS (by rw [hml]; exact hl.1) dX7_run_34 dX7_run_37 dX7_run_38 dX7_run_40 dX7_run_43 (fun x h9 => (htab x h9).elim) (Nat.le_of_ble_eq_true rfl) (Nat.le_of_ble_eq_true rfl) (Nat.le_of_ble_eq_true rfl) (Nat.le_of_ble_eq_true rfl) hlocks (fun t hv9 hz9 hk9 => ⟨(), trivial, ⟨by exact rfl, (hP.sub [0, 1, 2] rfl).kept (fun k q hk => hk9 _ (vx_lt (hP.sub [0, 1, 2] rfl) hk)), va_K.moved hv9 (hK.sub [] rfl), hD.sub [0, 1, 2] (by decide) rfl⟩, ⟨Nat.le_trans hS.1 hz9, fun q h1 h2 => (hk9 q (Nat.lt_of_lt_of_le h1 hS.1)).trans (hS.2.1 q h1 h2)⟩⟩) hS.2.2 (Nat.le_of_ble_eq_true rfl) (Nat.le_of_ble_eq_true rfl)
set_option maxHeartbeats 4000000 in
set_option maxRecDepth 100000 in
theorem c_W_reqDraw (l : Launch) (hst : l.stackTraces = false) (D : va_G) (w : Nat) (st : Nat) (hi : Nat) (re : Nat) (fo : Nat) (bu : Nat) (pa : Nat) (la : Nat) (me : Nat) (li : Nat) (tol : Int32) (su : Int32) (fa : Int32) (ld : Nat) (lz : Nat) (lzA : Nat) (i : Int32) (j : Int32) (sz : Nat) : k_Xv (S := Unit) l D yX7_requireDrawing cX7_requireDrawing 3 none 6 1 6 82 [.ref w, .int i, .int j] [(w, .inr (7, [.ref st, .ref hi, .ref re, .ref fo, .ref bu, .ref pa])), (st, .inr (6, [.ref la, .ref me, .ref li, .int tol, .int su, .int fa])), (la, .inr (2, [.ref ld, .ref lz])), (lz, .inr (4, [.ref lzA, .int 0]))] [] (fun (_ : Unit) => False) (fun _ => [(w, .inr (7, [.ref st, .ref hi, .ref re, .ref fo, .ref bu, .ref pa])), (st, .inr (6, [.ref la, .ref me, .ref li, .int tol, .int su, .int fa])), (la, .inr (2, [.ref ld, .ref lz])), (lz, .inr (4, [.ref lzA, .int 0]))]) (fun _ => []) (fun E => (E = "java/lang/IllegalArgumentException" ∧ ¬ k_per i j) ∨ (E = "java/lang/IllegalStateException" ∧ k_per i j)) sz := by
  refine vx_ofW (cc := cX7_requireDrawing) (maxL := 3) (ret := none) (by decide) rfl ?_
  intro p e s m args below meth c s₁ B hml htab hv
  obtain ⟨rfl, hsz, hP, hK, hD0, hG⟩ := hv
  have hx := B.exec
  have hb := B.bytes
  have hr := B.returns
  have ht : ∀ v9 ∈ wsA, v9.before ([.ref w, .int i, .int j] : List Value).toArray s = true := fun v9 h9 => atoms_spec (ws := k_ws yX7_requireDrawing cX7_requireDrawing 3 none) B.pre v9 (List.mem_cons_of_mem _ h9)
  have hown : s.vm.findClass RX7 = some m.cls := findClass_of_methodNamed B.named
  have S0 : k_C p s m ([.ref w, .int i, .int j] : List Value).toArray c cX7_requireDrawing 3 RX7 := ⟨hx, hb, hml, hown, ht⟩
  have hlocks := B.notSynchronized
  subst hsz
  have hD := hD0.self (sz := s.heap.size)
  unfold k_X
  generalize hAe : va_A [(w, .inr (7, [.ref st, .ref hi, .ref re, .ref fo, .ref bu, .ref pa])), (st, .inr (6, [.ref la, .ref me, .ref li, .int tol, .int su, .int fa])), (la, .inr (2, [.ref ld, .ref lz])), (lz, .inr (4, [.ref lzA, .int 0]))] s.heap.size = A at hD hG ⊢
  have hA : ∀ q : Nat, s.heap.size ≤ q → A q := fun q h => by rw [← hAe]; exact Or.inr h
  have hS : va_S A s.heap s.heap [] := va_S.rf
  have hl := lv_entry ([.ref w, .int i, .int j]) (n := 3) (Nat.le_of_ble_eq_true rfl)
  rw [lg_entry_eq]
  generalize (lg_sl ([.ref w, .int i, .int j]) ++ List.replicate (3 - (lg_sl ([.ref w, .int i, .int j])).length) Slot.unset).toArray = ls at hl ⊢
  have hl : lv_has ls 3 [(0, .ref w), (1, .int i), (2, .int j)] := hl
  have hP : va_P D vwCl [(w, .inr (7, [.ref st, .ref hi, .ref re, .ref fo, .ref bu, .ref pa])), (st, .inr (6, [.ref la, .ref me, .ref li, .int tol, .int su, .int fa])), (la, .inr (2, [.ref ld, .ref lz])), (lz, .inr (4, [.ref lzA, .int 0]))] s.heap := hP
  refine lv_iload_n hx hb dX7_requireDrawing_0 rfl (lv_at hl 1 rfl) ?_
  refine lv_iconst (v := 1) hx hb dX7_requireDrawing_1 (by decide) ?_
  refine lv_icmp_lt (tgt := 22) hx hb dX7_requireDrawing_2 (by decide) (fun c_1 => ?_) (fun c_1 => ?_)
  · have hc9 := c_1
    obtain ⟨sa, hsa⟩ := hG.2.2.2.1 (263, "a period is not 1 to 50") (by decide +kernel)
    exact vx_throwSW hx hb hst (own := RX7) (cls := "java/lang/IllegalArgumentException") (text := "a period is not 1 to 50") (names := ["java/lang/RuntimeException", "java/lang/Exception"]) (ik := 49) (is := 263) (ic := 53) (sa := sa) hown (by decide +kernel) (by decide +kernel) (ht _ lc_X7_49) (ht _ li_java_lang_IllegalArgumentException) hsa (vx_hat (fun w h => ht w (List.mem_filter.mpr ⟨lh_X7_53.1 w h, (List.mem_filter.mp h).2⟩)) lh_X7_53.2.1 (fun w h => va_Nw.use (k_NX_on (List.mem_filter.mp h).2) (hG.1 w (List.mem_filter.mp h).1 (List.mem_filter.mp h).2))) lh_X7_53.2.2 hG.2.1 hG.2.2.1 hS (by rw [hml]; exact hl.1) dX7_requireDrawing_22 dX7_requireDrawing_25 dX7_requireDrawing_26 dX7_requireDrawing_29 dX7_requireDrawing_32 (fun x h9 => (htab x h9).elim) (Nat.le_of_ble_eq_true rfl) (Nat.le_of_ble_eq_true rfl) (Nat.le_of_ble_eq_true rfl) (Nat.le_of_ble_eq_true rfl) hlocks (fun t hv9 hz9 hk9 => ⟨(), trivial, ⟨by exact Or.inl ⟨rfl, fun h9 => h9.1 c_1⟩, (hP.sub [0, 1, 2, 3] rfl).kept (fun k q hk => hk9 _ (vx_lt (hP.sub [0, 1, 2, 3] rfl) hk)), va_K.moved hv9 (hK.sub [] rfl), hD.sub [0, 1, 2, 3] (by decide) rfl⟩, ⟨Nat.le_trans hS.1 hz9, fun q h1 h2 => (hk9 q (Nat.lt_of_lt_of_le h1 hS.1)).trans (hS.2.1 q h1 h2)⟩⟩) hS.2.2 (Nat.le_of_ble_eq_true rfl) (Nat.le_of_ble_eq_true rfl)
  · have hc9 := c_1
    refine lv_iload_n hx hb dX7_requireDrawing_5 rfl (lv_at hl 1 rfl) ?_
    refine lv_bipush (v := 50) hx hb dX7_requireDrawing_6 (by decide) ?_
    refine lv_icmp_gt (tgt := 22) hx hb dX7_requireDrawing_8 (by decide) (fun c_2 => ?_) (fun c_2 => ?_)
    · have hc9 := c_2
      obtain ⟨sa, hsa⟩ := hG.2.2.2.1 (263, "a period is not 1 to 50") (by decide +kernel)
      exact vx_throwSW hx hb hst (own := RX7) (cls := "java/lang/IllegalArgumentException") (text := "a period is not 1 to 50") (names := ["java/lang/RuntimeException", "java/lang/Exception"]) (ik := 49) (is := 263) (ic := 53) (sa := sa) hown (by decide +kernel) (by decide +kernel) (ht _ lc_X7_49) (ht _ li_java_lang_IllegalArgumentException) hsa (vx_hat (fun w h => ht w (List.mem_filter.mpr ⟨lh_X7_53.1 w h, (List.mem_filter.mp h).2⟩)) lh_X7_53.2.1 (fun w h => va_Nw.use (k_NX_on (List.mem_filter.mp h).2) (hG.1 w (List.mem_filter.mp h).1 (List.mem_filter.mp h).2))) lh_X7_53.2.2 hG.2.1 hG.2.2.1 hS (by rw [hml]; exact hl.1) dX7_requireDrawing_22 dX7_requireDrawing_25 dX7_requireDrawing_26 dX7_requireDrawing_29 dX7_requireDrawing_32 (fun x h9 => (htab x h9).elim) (Nat.le_of_ble_eq_true rfl) (Nat.le_of_ble_eq_true rfl) (Nat.le_of_ble_eq_true rfl) (Nat.le_of_ble_eq_true rfl) hlocks (fun t hv9 hz9 hk9 => ⟨(), trivial, ⟨by exact Or.inl ⟨rfl, fun h9 => h9.2.1 c_2⟩, (hP.sub [0, 1, 2, 3] rfl).kept (fun k q hk => hk9 _ (vx_lt (hP.sub [0, 1, 2, 3] rfl) hk)), va_K.moved hv9 (hK.sub [] rfl), hD.sub [0, 1, 2, 3] (by decide) rfl⟩, ⟨Nat.le_trans hS.1 hz9, fun q h1 h2 => (hk9 q (Nat.lt_of_lt_of_le h1 hS.1)).trans (hS.2.1 q h1 h2)⟩⟩) hS.2.2 (Nat.le_of_ble_eq_true rfl) (Nat.le_of_ble_eq_true rfl)
    · have hc9 := c_2
      refine lv_iload_n hx hb dX7_requireDrawing_11 rfl (lv_at hl 2 rfl) ?_
      refine lv_iconst (v := 1) hx hb dX7_requireDrawing_12 (by decide) ?_
      refine lv_icmp_lt (tgt := 22) hx hb dX7_requireDrawing_13 (by decide) (fun c_3 => ?_) (fun c_3 => ?_)
      · have hc9 := c_3
        obtain ⟨sa, hsa⟩ := hG.2.2.2.1 (263, "a period is not 1 to 50") (by decide +kernel)
        exact vx_throwSW hx hb hst (own := RX7) (cls := "java/lang/IllegalArgumentException") (text := "a period is not 1 to 50") (names := ["java/lang/RuntimeException", "java/lang/Exception"]) (ik := 49) (is := 263) (ic := 53) (sa := sa) hown (by decide +kernel) (by decide +kernel) (ht _ lc_X7_49) (ht _ li_java_lang_IllegalArgumentException) hsa (vx_hat (fun w h => ht w (List.mem_filter.mpr ⟨lh_X7_53.1 w h, (List.mem_filter.mp h).2⟩)) lh_X7_53.2.1 (fun w h => va_Nw.use (k_NX_on (List.mem_filter.mp h).2) (hG.1 w (List.mem_filter.mp h).1 (List.mem_filter.mp h).2))) lh_X7_53.2.2 hG.2.1 hG.2.2.1 hS (by rw [hml]; exact hl.1) dX7_requireDrawing_22 dX7_requireDrawing_25 dX7_requireDrawing_26 dX7_requireDrawing_29 dX7_requireDrawing_32 (fun x h9 => (htab x h9).elim) (Nat.le_of_ble_eq_true rfl) (Nat.le_of_ble_eq_true rfl) (Nat.le_of_ble_eq_true rfl) (Nat.le_of_ble_eq_true rfl) hlocks (fun t hv9 hz9 hk9 => ⟨(), trivial, ⟨by exact Or.inl ⟨rfl, fun h9 => h9.2.2.1 c_3⟩, (hP.sub [0, 1, 2, 3] rfl).kept (fun k q hk => hk9 _ (vx_lt (hP.sub [0, 1, 2, 3] rfl) hk)), va_K.moved hv9 (hK.sub [] rfl), hD.sub [0, 1, 2, 3] (by decide) rfl⟩, ⟨Nat.le_trans hS.1 hz9, fun q h1 h2 => (hk9 q (Nat.lt_of_lt_of_le h1 hS.1)).trans (hS.2.1 q h1 h2)⟩⟩) hS.2.2 (Nat.le_of_ble_eq_true rfl) (Nat.le_of_ble_eq_true rfl)
      · have hc9 := c_3
        refine lv_iload_n hx hb dX7_requireDrawing_16 rfl (lv_at hl 2 rfl) ?_
        refine lv_bipush (v := 50) hx hb dX7_requireDrawing_17 (by decide) ?_
        refine lv_icmp_le (tgt := 33) hx hb dX7_requireDrawing_19 (by decide) (fun c_4 => ?_) (fun c_4 => ?_)
        · have hc9 := c_4
          refine lv_aload_n hx hb dX7_requireDrawing_33 rfl (lv_at hl 0 rfl) ?_
          refine va_get (D := D) (ci := 7) (v := .ref st) (C := RX7) (T := TX7) (N := 6) hx hb ht inA_X7 hown hK hP 0 rfl rfl 0 (by decide) (ht _ lf_X7_10) (fun _ h9 => h9) rfl dX7_requireDrawing_34 ?_
          refine va_get (D := D) (ci := 6) (v := .ref la) (C := RX6) (T := TX6) (N := 6) hx hb ht inA_X6 hown hK hP 1 rfl rfl 0 (by decide) (ht _ lf_X7_66) (fun _ h9 => h9) rfl dX7_requireDrawing_37 ?_
          have ct := k_cut_of (wc := [(la, .inr (2, [.ref ld, .ref lz])), (lz, .inr (4, [.ref lzA, .int 0]))]) (wr := [(w, .inr (7, [.ref st, .ref hi, .ref re, .ref fo, .ref bu, .ref pa])), (st, .inr (6, [.ref la, .ref me, .ref li, .int tol, .int su, .int fa]))]) (tc := []) hG hS hA hK hP hD [2, 3] [0, 1] [] rfl rfl (by decide) (by decide) (by decide) rfl
          refine k_endi (As := [.ref la]) ct (k_runV (As := []) (rest := []) S0 Lv_X7_93 rfl (ci := 2) (q0 := 0) rfl rfl ct (c_Label_size l D la ld lz lzA 0 s.heap.size) hl.1 rfl (Nat.le_of_ble_eq_true rfl) rfl dX7_requireDrawing_40 ⟨⟨Nat.le_of_ble_eq_true rfl, Nat.le_of_ble_eq_true rfl⟩, Nat.le_of_ble_eq_true rfl, Nat.le_of_ble_eq_true rfl⟩) rfl rfl (fun r_5 _ H locs hw_6 hP hD hK hS => ?_)
          have hK : va_K D vwCl [] s := hK
          have hP : va_P D vwCl [(w, .inr (7, [.ref st, .ref hi, .ref re, .ref fo, .ref bu, .ref pa])), (st, .inr (6, [.ref la, .ref me, .ref li, .int tol, .int su, .int fa])), (la, .inr (2, [.ref ld, .ref lz])), (lz, .inr (4, [.ref lzA, .int 0]))] H := hP
          have hD : va_D A [(w, .inr (7, [.ref st, .ref hi, .ref re, .ref fo, .ref bu, .ref pa])), (st, .inr (6, [.ref la, .ref me, .ref li, .int tol, .int su, .int fa])), (la, .inr (2, [.ref ld, .ref lz])), (lz, .inr (4, [.ref lzA, .int 0]))] := hD
          have hw_6 : r_5 = 0 := hw_6
          have hw_6 := hw_6.symm
          subst hw_6
          refine k_nrm (y := 0) rfl ?_
          refine lv_if_ne (tgt := 57) hx hb dX7_requireDrawing_43 (by decide) (fun c9 => absurd (by decide) c9) (fun _ => ?_)
          obtain ⟨sa, hsa⟩ := hG.2.2.2.1 (265, "there is no label") (by decide +kernel)
          exact vx_throwSW hx hb hst (own := RX7) (cls := "java/lang/IllegalStateException") (text := "there is no label") (names := ["java/lang/RuntimeException", "java/lang/Exception"]) (ik := 128) (is := 265) (ic := 132) (sa := sa) hown (by decide +kernel) (by decide +kernel) (ht _ lc_X7_128) (ht _ li_java_lang_IllegalStateException) hsa (vx_hat (fun w h => ht w (List.mem_filter.mpr ⟨lh_X7_132.1 w h, (List.mem_filter.mp h).2⟩)) lh_X7_132.2.1 (fun w h => va_Nw.use (k_NX_on (List.mem_filter.mp h).2) (hG.1 w (List.mem_filter.mp h).1 (List.mem_filter.mp h).2))) lh_X7_132.2.2 hG.2.1 hG.2.2.1 hS (by rw [hml]; exact hl.1) dX7_requireDrawing_46 dX7_requireDrawing_49 dX7_requireDrawing_50 dX7_requireDrawing_53 dX7_requireDrawing_56 (fun x h9 => (htab x h9).elim) (Nat.le_of_ble_eq_true rfl) (Nat.le_of_ble_eq_true rfl) (Nat.le_of_ble_eq_true rfl) (Nat.le_of_ble_eq_true rfl) hlocks (fun t hv9 hz9 hk9 => ⟨(), trivial, ⟨by exact Or.inr ⟨rfl, c_1, c_2, c_3, c_4⟩, (hP.sub [0, 1, 2, 3] rfl).kept (fun k q hk => hk9 _ (vx_lt (hP.sub [0, 1, 2, 3] rfl) hk)), va_K.moved hv9 (hK.sub [] rfl), hD.sub [0, 1, 2, 3] (by decide) rfl⟩, ⟨Nat.le_trans hS.1 hz9, fun q h1 h2 => (hk9 q (Nat.lt_of_lt_of_le h1 hS.1)).trans (hS.2.1 q h1 h2)⟩⟩) hS.2.2 (Nat.le_of_ble_eq_true rfl) (Nat.le_of_ble_eq_true rfl)
        · have hc9 := c_4
          obtain ⟨sa, hsa⟩ := hG.2.2.2.1 (263, "a period is not 1 to 50") (by decide +kernel)
          exact vx_throwSW hx hb hst (own := RX7) (cls := "java/lang/IllegalArgumentException") (text := "a period is not 1 to 50") (names := ["java/lang/RuntimeException", "java/lang/Exception"]) (ik := 49) (is := 263) (ic := 53) (sa := sa) hown (by decide +kernel) (by decide +kernel) (ht _ lc_X7_49) (ht _ li_java_lang_IllegalArgumentException) hsa (vx_hat (fun w h => ht w (List.mem_filter.mpr ⟨lh_X7_53.1 w h, (List.mem_filter.mp h).2⟩)) lh_X7_53.2.1 (fun w h => va_Nw.use (k_NX_on (List.mem_filter.mp h).2) (hG.1 w (List.mem_filter.mp h).1 (List.mem_filter.mp h).2))) lh_X7_53.2.2 hG.2.1 hG.2.2.1 hS (by rw [hml]; exact hl.1) dX7_requireDrawing_22 dX7_requireDrawing_25 dX7_requireDrawing_26 dX7_requireDrawing_29 dX7_requireDrawing_32 (fun x h9 => (htab x h9).elim) (Nat.le_of_ble_eq_true rfl) (Nat.le_of_ble_eq_true rfl) (Nat.le_of_ble_eq_true rfl) (Nat.le_of_ble_eq_true rfl) hlocks (fun t hv9 hz9 hk9 => ⟨(), trivial, ⟨by exact Or.inl ⟨rfl, fun h9 => c_4 h9.2.2.2⟩, (hP.sub [0, 1, 2, 3] rfl).kept (fun k q hk => hk9 _ (vx_lt (hP.sub [0, 1, 2, 3] rfl) hk)), va_K.moved hv9 (hK.sub [] rfl), hD.sub [0, 1, 2, 3] (by decide) rfl⟩, ⟨Nat.le_trans hS.1 hz9, fun q h1 h2 => (hk9 q (Nat.lt_of_lt_of_le h1 hS.1)).trans (hS.2.1 q h1 h2)⟩⟩) hS.2.2 (Nat.le_of_ble_eq_true rfl) (Nat.le_of_ble_eq_true rfl)
set_option maxHeartbeats 4000000 in
set_option maxRecDepth 100000 in
theorem c_W_draw (l : Launch) (hst : l.stackTraces = false) (D : va_G) (w : Nat) (st : Nat) (hi : Nat) (re : Nat) (fo : Nat) (bu : Nat) (pa : Nat) (la : Nat) (me : Nat) (li : Nat) (tol : Int32) (su : Int32) (fa : Int32) (ld : Nat) (lz : Nat) (lzA : Nat) (i : Int32) (j : Int32) (b : Int32) (sz : Nat) : k_Xi (S := Unit) l D yX7_draw cX7_draw 4 (some .int) 7 1 6 104 [.ref w, .int i, .int j, .int b] [(w, .inr (7, [.ref st, .ref hi, .ref re, .ref fo, .ref bu, .ref pa])), (st, .inr (6, [.ref la, .ref me, .ref li, .int tol, .int su, .int fa])), (la, .inr (2, [.ref ld, .ref lz])), (lz, .inr (4, [.ref lzA, .int 0]))] [] (fun (r : Int32) (_ : Unit) => False) (fun _ => [(w, .inr (7, [.ref st, .ref hi, .ref re, .ref fo, .ref bu, .ref pa])), (st, .inr (6, [.ref la, .ref me, .ref li, .int tol, .int su, .int fa])), (la, .inr (2, [.ref ld, .ref lz])), (lz, .inr (4, [.ref lzA, .int 0]))]) (fun _ => []) (fun E => (E = "java/lang/IllegalArgumentException" ∧ ¬ k_per i j) ∨ (E = "java/lang/IllegalStateException" ∧ k_per i j)) sz := by
  refine vx_ofW (cc := cX7_draw) (maxL := 4) (ret := (some .int)) (by decide) rfl ?_
  intro p e s m args below meth c s₁ B hml htab hv
  obtain ⟨rfl, hsz, hP, hK, hD0, hG⟩ := hv
  have hx := B.exec
  have hb := B.bytes
  have hr := B.returns
  have ht : ∀ v9 ∈ wsA, v9.before ([.ref w, .int i, .int j, .int b] : List Value).toArray s = true := fun v9 h9 => atoms_spec (ws := k_ws yX7_draw cX7_draw 4 (some .int)) B.pre v9 (List.mem_cons_of_mem _ h9)
  have hown : s.vm.findClass RX7 = some m.cls := findClass_of_methodNamed B.named
  have S0 : k_C p s m ([.ref w, .int i, .int j, .int b] : List Value).toArray c cX7_draw 4 RX7 := ⟨hx, hb, hml, hown, ht⟩
  have hlocks := B.notSynchronized
  subst hsz
  have hD := hD0.self (sz := s.heap.size)
  unfold k_X
  generalize hAe : va_A [(w, .inr (7, [.ref st, .ref hi, .ref re, .ref fo, .ref bu, .ref pa])), (st, .inr (6, [.ref la, .ref me, .ref li, .int tol, .int su, .int fa])), (la, .inr (2, [.ref ld, .ref lz])), (lz, .inr (4, [.ref lzA, .int 0]))] s.heap.size = A at hD hG ⊢
  have hA : ∀ q : Nat, s.heap.size ≤ q → A q := fun q h => by rw [← hAe]; exact Or.inr h
  have hS : va_S A s.heap s.heap [] := va_S.rf
  have hl := lv_entry ([.ref w, .int i, .int j, .int b]) (n := 4) (Nat.le_of_ble_eq_true rfl)
  rw [lg_entry_eq]
  generalize (lg_sl ([.ref w, .int i, .int j, .int b]) ++ List.replicate (4 - (lg_sl ([.ref w, .int i, .int j, .int b])).length) Slot.unset).toArray = ls at hl ⊢
  have hl : lv_has ls 4 [(0, .ref w), (1, .int i), (2, .int j), (3, .int b)] := hl
  have hP : va_P D vwCl [(w, .inr (7, [.ref st, .ref hi, .ref re, .ref fo, .ref bu, .ref pa])), (st, .inr (6, [.ref la, .ref me, .ref li, .int tol, .int su, .int fa])), (la, .inr (2, [.ref ld, .ref lz])), (lz, .inr (4, [.ref lzA, .int 0]))] s.heap := hP
  refine lv_aload_n hx hb dX7_draw_0 rfl (lv_at hl 0 rfl) ?_
  refine lv_iload_n hx hb dX7_draw_1 rfl (lv_at hl 1 rfl) ?_
  refine lv_iload_n hx hb dX7_draw_2 rfl (lv_at hl 2 rfl) ?_
  have ct := k_cut_of (wc := [(w, .inr (7, [.ref st, .ref hi, .ref re, .ref fo, .ref bu, .ref pa])), (st, .inr (6, [.ref la, .ref me, .ref li, .int tol, .int su, .int fa])), (la, .inr (2, [.ref ld, .ref lz])), (lz, .inr (4, [.ref lzA, .int 0]))]) (wr := []) (tc := []) hG hS hA hK hP hD [0, 1, 2, 3] [] [] rfl rfl (by decide) (by decide) (by decide) rfl
  refine k_endXv (EX := fun E => (E = "java/lang/IllegalArgumentException" ∧ ¬ k_per i j) ∨ (E = "java/lang/IllegalStateException" ∧ k_per i j)) (As := [.ref w, .int i, .int j]) ct (k_xrunV (As := [.int i, .int j]) (rest := []) S0 Lv_X7_109 rfl (ci := 7) (q0 := 0) rfl rfl ct (c_W_reqDraw l hst D w st hi re fo bu pa la me li tol su fa ld lz lzA i j s.heap.size) hl.1 rfl (Nat.le_of_ble_eq_true rfl) rfl dX7_draw_3 ⟨⟨Nat.le_of_ble_eq_true rfl, Nat.le_of_ble_eq_true rfl⟩, Nat.le_of_ble_eq_true rfl, Nat.le_of_ble_eq_true rfl⟩) rfl rfl ?_ (fun _ _ H locs hw_2 hP hD hK hS => ?_)
  · intro E ce q9 H locs hE hP hD hS hq9 hv9 hcl9
    try dsimp only at hE
    have hP : va_P D vwCl [(w, .inr (7, [.ref st, .ref hi, .ref re, .ref fo, .ref bu, .ref pa])), (st, .inr (6, [.ref la, .ref me, .ref li, .int tol, .int su, .int fa])), (la, .inr (2, [.ref ld, .ref lz])), (lz, .inr (4, [.ref lzA, .int 0]))] H := hP
    have hD : va_D A [(w, .inr (7, [.ref st, .ref hi, .ref re, .ref fo, .ref bu, .ref pa])), (st, .inr (6, [.ref la, .ref me, .ref li, .int tol, .int su, .int fa])), (la, .inr (2, [.ref ld, .ref lz])), (lz, .inr (4, [.ref lzA, .int 0]))] := hD
    exact vx_out (fun x h9 => (htab x h9).elim) hlocks hq9 hv9 hcl9 (fun t ht9 hv9 => ⟨(), trivial, ⟨by exact hE, by rw [ht9]; exact hP.sub [0, 1, 2, 3] rfl, va_K.moved hv9 (hK.sub [] rfl), hD.sub [0, 1, 2, 3] (by decide) rfl⟩, hS.F ht9⟩) hS.2.2 (Nat.le_of_ble_eq_true rfl) (Nat.le_of_ble_eq_true rfl)
  have hK : va_K D vwCl [] s := hK
  have hP : va_P D vwCl [(w, .inr (7, [.ref st, .ref hi, .ref re, .ref fo, .ref bu, .ref pa])), (st, .inr (6, [.ref la, .ref me, .ref li, .int tol, .int su, .int fa])), (la, .inr (2, [.ref ld, .ref lz])), (lz, .inr (4, [.ref lzA, .int 0]))] H := hP
  have hD : va_D A [(w, .inr (7, [.ref st, .ref hi, .ref re, .ref fo, .ref bu, .ref pa])), (st, .inr (6, [.ref la, .ref me, .ref li, .int tol, .int su, .int fa])), (la, .inr (2, [.ref ld, .ref lz])), (lz, .inr (4, [.ref lzA, .int 0]))] := hD
  exact hw_2.elim
set_option maxHeartbeats 4000000 in
set_option maxRecDepth 100000 in
theorem c_W_ifDrawn (l : Launch) (hst : l.stackTraces = false) (D : va_G) (w : Nat) (st : Nat) (hi : Nat) (re : Nat) (fo : Nat) (bu : Nat) (pa : Nat) (la : Nat) (me : Nat) (li : Nat) (tol : Int32) (su : Int32) (fa : Int32) (ld : Nat) (lz : Nat) (lzA : Nat) (i : Int32) (j : Int32) (b : Int32) (sz : Nat) : k_Xi (S := Unit) l D yX7_ifDrawn cX7_ifDrawn 4 (some .int) 7 1 6 104 [.ref w, .int i, .int j, .int b] [(w, .inr (7, [.ref st, .ref hi, .ref re, .ref fo, .ref bu, .ref pa])), (st, .inr (6, [.ref la, .ref me, .ref li, .int tol, .int su, .int fa])), (la, .inr (2, [.ref ld, .ref lz])), (lz, .inr (4, [.ref lzA, .int 0]))] [] (fun (r : Int32) (_ : Unit) => False) (fun _ => [(w, .inr (7, [.ref st, .ref hi, .ref re, .ref fo, .ref bu, .ref pa])), (st, .inr (6, [.ref la, .ref me, .ref li, .int tol, .int su, .int fa])), (la, .inr (2, [.ref ld, .ref lz])), (lz, .inr (4, [.ref lzA, .int 0]))]) (fun _ => []) (fun E => (E = "java/lang/IllegalArgumentException" ∧ ¬ k_per i j) ∨ (E = "java/lang/IllegalStateException" ∧ k_per i j)) sz := by
  refine vx_ofW (cc := cX7_ifDrawn) (maxL := 4) (ret := (some .int)) (by decide) rfl ?_
  intro p e s m args below meth c s₁ B hml htab hv
  obtain ⟨rfl, hsz, hP, hK, hD0, hG⟩ := hv
  have hx := B.exec
  have hb := B.bytes
  have hr := B.returns
  have ht : ∀ v9 ∈ wsA, v9.before ([.ref w, .int i, .int j, .int b] : List Value).toArray s = true := fun v9 h9 => atoms_spec (ws := k_ws yX7_ifDrawn cX7_ifDrawn 4 (some .int)) B.pre v9 (List.mem_cons_of_mem _ h9)
  have hown : s.vm.findClass RX7 = some m.cls := findClass_of_methodNamed B.named
  have S0 : k_C p s m ([.ref w, .int i, .int j, .int b] : List Value).toArray c cX7_ifDrawn 4 RX7 := ⟨hx, hb, hml, hown, ht⟩
  have hlocks := B.notSynchronized
  subst hsz
  have hD := hD0.self (sz := s.heap.size)
  unfold k_X
  generalize hAe : va_A [(w, .inr (7, [.ref st, .ref hi, .ref re, .ref fo, .ref bu, .ref pa])), (st, .inr (6, [.ref la, .ref me, .ref li, .int tol, .int su, .int fa])), (la, .inr (2, [.ref ld, .ref lz])), (lz, .inr (4, [.ref lzA, .int 0]))] s.heap.size = A at hD hG ⊢
  have hA : ∀ q : Nat, s.heap.size ≤ q → A q := fun q h => by rw [← hAe]; exact Or.inr h
  have hS : va_S A s.heap s.heap [] := va_S.rf
  have hl := lv_entry ([.ref w, .int i, .int j, .int b]) (n := 4) (Nat.le_of_ble_eq_true rfl)
  rw [lg_entry_eq]
  generalize (lg_sl ([.ref w, .int i, .int j, .int b]) ++ List.replicate (4 - (lg_sl ([.ref w, .int i, .int j, .int b])).length) Slot.unset).toArray = ls at hl ⊢
  have hl : lv_has ls 4 [(0, .ref w), (1, .int i), (2, .int j), (3, .int b)] := hl
  have hP : va_P D vwCl [(w, .inr (7, [.ref st, .ref hi, .ref re, .ref fo, .ref bu, .ref pa])), (st, .inr (6, [.ref la, .ref me, .ref li, .int tol, .int su, .int fa])), (la, .inr (2, [.ref ld, .ref lz])), (lz, .inr (4, [.ref lzA, .int 0]))] s.heap := hP
  refine lv_aload_n hx hb dX7_ifDrawn_0 rfl (lv_at hl 0 rfl) ?_
  refine lv_iload_n hx hb dX7_ifDrawn_1 rfl (lv_at hl 1 rfl) ?_
  refine lv_iload_n hx hb dX7_ifDrawn_2 rfl (lv_at hl 2 rfl) ?_
  have ct := k_cut_of (wc := [(w, .inr (7, [.ref st, .ref hi, .ref re, .ref fo, .ref bu, .ref pa])), (st, .inr (6, [.ref la, .ref me, .ref li, .int tol, .int su, .int fa])), (la, .inr (2, [.ref ld, .ref lz])), (lz, .inr (4, [.ref lzA, .int 0]))]) (wr := []) (tc := []) hG hS hA hK hP hD [0, 1, 2, 3] [] [] rfl rfl (by decide) (by decide) (by decide) rfl
  refine k_endXv (EX := fun E => (E = "java/lang/IllegalArgumentException" ∧ ¬ k_per i j) ∨ (E = "java/lang/IllegalStateException" ∧ k_per i j)) (As := [.ref w, .int i, .int j]) ct (k_xrunV (As := [.int i, .int j]) (rest := []) S0 Lv_X7_109 rfl (ci := 7) (q0 := 0) rfl rfl ct (c_W_reqDraw l hst D w st hi re fo bu pa la me li tol su fa ld lz lzA i j s.heap.size) hl.1 rfl (Nat.le_of_ble_eq_true rfl) rfl dX7_ifDrawn_3 ⟨⟨Nat.le_of_ble_eq_true rfl, Nat.le_of_ble_eq_true rfl⟩, Nat.le_of_ble_eq_true rfl, Nat.le_of_ble_eq_true rfl⟩) rfl rfl ?_ (fun _ _ H locs hw_2 hP hD hK hS => ?_)
  · intro E ce q9 H locs hE hP hD hS hq9 hv9 hcl9
    try dsimp only at hE
    have hP : va_P D vwCl [(w, .inr (7, [.ref st, .ref hi, .ref re, .ref fo, .ref bu, .ref pa])), (st, .inr (6, [.ref la, .ref me, .ref li, .int tol, .int su, .int fa])), (la, .inr (2, [.ref ld, .ref lz])), (lz, .inr (4, [.ref lzA, .int 0]))] H := hP
    have hD : va_D A [(w, .inr (7, [.ref st, .ref hi, .ref re, .ref fo, .ref bu, .ref pa])), (st, .inr (6, [.ref la, .ref me, .ref li, .int tol, .int su, .int fa])), (la, .inr (2, [.ref ld, .ref lz])), (lz, .inr (4, [.ref lzA, .int 0]))] := hD
    exact vx_out (fun x h9 => (htab x h9).elim) hlocks hq9 hv9 hcl9 (fun t ht9 hv9 => ⟨(), trivial, ⟨by exact hE, by rw [ht9]; exact hP.sub [0, 1, 2, 3] rfl, va_K.moved hv9 (hK.sub [] rfl), hD.sub [0, 1, 2, 3] (by decide) rfl⟩, hS.F ht9⟩) hS.2.2 (Nat.le_of_ble_eq_true rfl) (Nat.le_of_ble_eq_true rfl)
  have hK : va_K D vwCl [] s := hK
  have hP : va_P D vwCl [(w, .inr (7, [.ref st, .ref hi, .ref re, .ref fo, .ref bu, .ref pa])), (st, .inr (6, [.ref la, .ref me, .ref li, .int tol, .int su, .int fa])), (la, .inr (2, [.ref ld, .ref lz])), (lz, .inr (4, [.ref lzA, .int 0]))] H := hP
  have hD : va_D A [(w, .inr (7, [.ref st, .ref hi, .ref re, .ref fo, .ref bu, .ref pa])), (st, .inr (6, [.ref la, .ref me, .ref li, .int tol, .int su, .int fa])), (la, .inr (2, [.ref ld, .ref lz])), (lz, .inr (4, [.ref lzA, .int 0]))] := hD
  exact hw_2.elim
set_option maxHeartbeats 4000000 in
set_option maxRecDepth 100000 in
theorem c_W_digit (l : Launch) (hst : l.stackTraces = false) (D : va_G) (w : Nat) (st : Nat) (hi : Nat) (re : Nat) (fo : Nat) (bu : Nat) (pa : Nat) (la : Nat) (me : Nat) (li : Nat) (tol : Int32) (su : Int32) (fa : Int32) (meA : Nat) (rd : Nat) (nd : Int32) (rl : Nat) (ldi : Int32) (sot : Int32) (tie : Int32) (ff : Int32) (ft : Int32) (rdA : Nat) (rdN : Int32) (rlA : Nat) (rlN : Int32) (i : Int32) (sz : Nat) : k_Xi (S := Unit) l D yX7_digit cX7_digit 3 (some .int) 6 1 6 93 [.ref w, .int i] [(w, .inr (7, [.ref st, .ref hi, .ref re, .ref fo, .ref bu, .ref pa])), (st, .inr (6, [.ref la, .ref me, .ref li, .int tol, .int su, .int fa])), (me, .inr (4, [.ref meA, .int 0])), (re, .inr (3, [.ref rd, .int nd, .ref rl, .int ldi, .int sot, .int tie, .int ff, .int ft])), (rd, .inr (4, [.ref rdA, .int rdN])), (rl, .inr (4, [.ref rlA, .int rlN]))] [] (fun (r : Int32) (_ : Unit) => k_in9 i ∧ r = (-1)) (fun _ => [(w, .inr (7, [.ref st, .ref hi, .ref re, .ref fo, .ref bu, .ref pa])), (st, .inr (6, [.ref la, .ref me, .ref li, .int tol, .int su, .int fa])), (me, .inr (4, [.ref meA, .int 0])), (re, .inr (3, [.ref rd, .int nd, .ref rl, .int ldi, .int sot, .int tie, .int 0, .int 0])), (rd, .inr (4, [.ref rdA, .int 0])), (rl, .inr (4, [.ref rlA, .int 0]))]) (fun _ => []) (fun E => E = "java/lang/IndexOutOfBoundsException" ∧ ¬ k_in9 i) sz := by
  refine vx_ofW (cc := cX7_digit) (maxL := 3) (ret := (some .int)) (by decide) rfl ?_
  intro p e s m args below meth c s₁ B hml htab hv
  obtain ⟨rfl, hsz, hP, hK, hD0, hG⟩ := hv
  have hx := B.exec
  have hb := B.bytes
  have hr := B.returns
  have ht : ∀ v9 ∈ wsA, v9.before ([.ref w, .int i] : List Value).toArray s = true := fun v9 h9 => atoms_spec (ws := k_ws yX7_digit cX7_digit 3 (some .int)) B.pre v9 (List.mem_cons_of_mem _ h9)
  have hown : s.vm.findClass RX7 = some m.cls := findClass_of_methodNamed B.named
  have S0 : k_C p s m ([.ref w, .int i] : List Value).toArray c cX7_digit 3 RX7 := ⟨hx, hb, hml, hown, ht⟩
  have hlocks := B.notSynchronized
  subst hsz
  have hD := hD0.self (sz := s.heap.size)
  unfold k_X
  generalize hAe : va_A [(w, .inr (7, [.ref st, .ref hi, .ref re, .ref fo, .ref bu, .ref pa])), (st, .inr (6, [.ref la, .ref me, .ref li, .int tol, .int su, .int fa])), (me, .inr (4, [.ref meA, .int 0])), (re, .inr (3, [.ref rd, .int nd, .ref rl, .int ldi, .int sot, .int tie, .int ff, .int ft])), (rd, .inr (4, [.ref rdA, .int rdN])), (rl, .inr (4, [.ref rlA, .int rlN]))] s.heap.size = A at hD hG ⊢
  have hA : ∀ q : Nat, s.heap.size ≤ q → A q := fun q h => by rw [← hAe]; exact Or.inr h
  have hS : va_S A s.heap s.heap [] := va_S.rf
  have hl := lv_entry ([.ref w, .int i]) (n := 3) (Nat.le_of_ble_eq_true rfl)
  rw [lg_entry_eq]
  generalize (lg_sl ([.ref w, .int i]) ++ List.replicate (3 - (lg_sl ([.ref w, .int i])).length) Slot.unset).toArray = ls at hl ⊢
  have hl : lv_has ls 3 [(0, .ref w), (1, .int i)] := hl
  have hP : va_P D vwCl [(w, .inr (7, [.ref st, .ref hi, .ref re, .ref fo, .ref bu, .ref pa])), (st, .inr (6, [.ref la, .ref me, .ref li, .int tol, .int su, .int fa])), (me, .inr (4, [.ref meA, .int 0])), (re, .inr (3, [.ref rd, .int nd, .ref rl, .int ldi, .int sot, .int tie, .int ff, .int ft])), (rd, .inr (4, [.ref rdA, .int rdN])), (rl, .inr (4, [.ref rlA, .int rlN]))] s.heap := hP
  refine lv_iload_n hx hb dX7_digit_0 rfl (lv_at hl 1 rfl) ?_
  refine lv_if_lt (tgt := 10) hx hb dX7_digit_1 (by decide) (fun c_1 => ?_) (fun c_1 => ?_)
  · have hc9 := c_1
    obtain ⟨sa, hsa⟩ := hG.2.2.2.1 (156, "digit is not 0 to 8") (by decide +kernel)
    exact vx_throwS hx hb hst (own := RX7) (cls := "java/lang/IndexOutOfBoundsException") (text := "digit is not 0 to 8") (names := ["java/lang/RuntimeException", "java/lang/Exception"]) (ik := 104) (is := 156) (ic := 108) (sa := sa) hown (by decide +kernel) (by decide +kernel) (ht _ lc_X7_104) (ht _ li_java_lang_IndexOutOfBoundsException) hsa (vx_hat (fun w h => ht w (List.mem_filter.mpr ⟨lh_X7_108.1 w h, (List.mem_filter.mp h).2⟩)) lh_X7_108.2.1 (fun w h => va_Nw.use (k_NX_on (List.mem_filter.mp h).2) (hG.1 w (List.mem_filter.mp h).1 (List.mem_filter.mp h).2))) lh_X7_108.2.2 hG.2.1 hG.2.2.1 hS (by rw [hml]; exact hl.1) dX7_digit_10 dX7_digit_13 dX7_digit_14 dX7_digit_16 dX7_digit_19 (fun x h9 => (htab x h9).elim) (Nat.le_of_ble_eq_true rfl) (Nat.le_of_ble_eq_true rfl) (Nat.le_of_ble_eq_true rfl) (Nat.le_of_ble_eq_true rfl) hlocks (fun t hv9 hz9 hk9 => ⟨(), trivial, ⟨by exact ⟨rfl, fun h9 => h9.1 c_1⟩, (hP.sub [0, 1, 2, 3, 4, 5] rfl).kept (fun k q hk => hk9 _ (vx_lt (hP.sub [0, 1, 2, 3, 4, 5] rfl) hk)), va_K.moved hv9 (hK.sub [] rfl), hD.sub [0, 1, 2, 3, 4, 5] (by decide) rfl⟩, ⟨Nat.le_trans hS.1 hz9, fun q h1 h2 => (hk9 q (Nat.lt_of_lt_of_le h1 hS.1)).trans (hS.2.1 q h1 h2)⟩⟩) hS.2.2 (Nat.le_of_ble_eq_true rfl) (Nat.le_of_ble_eq_true rfl)
  · have hc9 := c_1
    refine lv_iload_n hx hb dX7_digit_4 rfl (lv_at hl 1 rfl) ?_
    refine lv_bipush (v := 9) hx hb dX7_digit_5 (by decide) ?_
    refine lv_icmp_lt (tgt := 20) hx hb dX7_digit_7 (by decide) (fun c_2 => ?_) (fun c_2 => ?_)
    · have hc9 := c_2
      refine lv_aload_n hx hb dX7_digit_20 rfl (lv_at hl 0 rfl) ?_
      refine va_get (D := D) (ci := 7) (v := .ref re) (C := RX7) (T := TX7) (N := 6) hx hb ht inA_X7 hown hK hP 0 rfl rfl 2 (by decide) (ht _ lf_X7_26) (fun _ h9 => h9) rfl dX7_digit_21 ?_
      refine lv_aload_n hx hb dX7_digit_24 rfl (lv_at hl 0 rfl) ?_
      refine va_get (D := D) (ci := 7) (v := .ref st) (C := RX7) (T := TX7) (N := 6) hx hb ht inA_X7 hown hK hP 0 rfl rfl 0 (by decide) (ht _ lf_X7_10) (fun _ h9 => h9) rfl dX7_digit_25 ?_
      refine va_get (D := D) (ci := 6) (v := .ref me) (C := RX6) (T := TX6) (N := 6) hx hb ht inA_X6 hown hK hP 1 rfl rfl 1 (by decide) (ht _ lf_X7_112) (fun _ h9 => h9) rfl dX7_digit_28 ?_
      refine lv_aload_n hx hb dX7_digit_31 rfl (lv_at hl 0 rfl) ?_
      refine va_get (D := D) (ci := 7) (v := .ref st) (C := RX7) (T := TX7) (N := 6) hx hb ht inA_X7 hown hK hP 0 rfl rfl 0 (by decide) (ht _ lf_X7_10) (fun _ h9 => h9) rfl dX7_digit_32 ?_
      refine va_get (D := D) (ci := 6) (v := .int tol) (C := RX6) (T := TX6) (N := 6) hx hb ht inA_X6 hown hK hP 1 rfl rfl 3 (by decide) (ht _ lf_X7_144) (fun _ h9 => h9) rfl dX7_digit_35 ?_
      have ct := k_cut_of (wc := [(re, .inr (3, [.ref rd, .int nd, .ref rl, .int ldi, .int sot, .int tie, .int ff, .int ft])), (rd, .inr (4, [.ref rdA, .int rdN])), (rl, .inr (4, [.ref rlA, .int rlN])), (me, .inr (4, [.ref meA, .int 0]))]) (wr := [(w, .inr (7, [.ref st, .ref hi, .ref re, .ref fo, .ref bu, .ref pa])), (st, .inr (6, [.ref la, .ref me, .ref li, .int tol, .int su, .int fa]))]) (tc := []) hG hS hA hK hP hD [3, 4, 5, 2] [0, 1] [] rfl rfl (by decide) (by decide) (by decide) rfl
      refine k_endi (As := [.ref re, .ref me, .int tol]) ct (k_runV (As := [.ref me, .int tol]) (rest := []) S0 Lv_X7_148 rfl (ci := 3) (q0 := 0) rfl rfl ct (c_resultOf0 l D re rd nd rl ldi sot tie ff ft rdA rdN rlA rlN me meA tol s.heap.size) hl.1 rfl (Nat.le_of_ble_eq_true rfl) rfl dX7_digit_38 ⟨⟨Nat.le_of_ble_eq_true rfl, Nat.le_of_ble_eq_true rfl⟩, Nat.le_of_ble_eq_true rfl, Nat.le_of_ble_eq_true rfl⟩) rfl rfl (fun r_3 _ H locs hw_4 hP hD hK hS => ?_)
      have hK : va_K D vwCl [] s := hK
      have hP : va_P D vwCl [(w, .inr (7, [.ref st, .ref hi, .ref re, .ref fo, .ref bu, .ref pa])), (st, .inr (6, [.ref la, .ref me, .ref li, .int tol, .int su, .int fa])), (re, .inr (3, [.ref rd, .int nd, .ref rl, .int ldi, .int sot, .int tie, .int 0, .int 0])), (rd, .inr (4, [.ref rdA, .int 0])), (rl, .inr (4, [.ref rlA, .int 0])), (me, .inr (4, [.ref meA, .int 0]))] H := hP
      have hD : va_D A [(w, .inr (7, [.ref st, .ref hi, .ref re, .ref fo, .ref bu, .ref pa])), (st, .inr (6, [.ref la, .ref me, .ref li, .int tol, .int su, .int fa])), (re, .inr (3, [.ref rd, .int nd, .ref rl, .int ldi, .int sot, .int tie, .int 0, .int 0])), (rd, .inr (4, [.ref rdA, .int 0])), (rl, .inr (4, [.ref rlA, .int 0])), (me, .inr (4, [.ref meA, .int 0]))] := hD
      have hw_4 : r_3 = 1 := hw_4
      have hw_4 := hw_4.symm
      subst hw_4
      refine k_nrm (y := 1) rfl ?_
      refine lv_istore_n (lv' := [(2, .int 1), (0, .ref w), (1, .int i)]) hx hb dX7_digit_41 rfl hl (by decide) rfl (fun ls hl => ?_)
      refine lv_iload_n hx hb dX7_digit_42 rfl (lv_at hl 0 rfl) ?_
      have ct := k_cut_of (wc := []) (wr := [(w, .inr (7, [.ref st, .ref hi, .ref re, .ref fo, .ref bu, .ref pa])), (st, .inr (6, [.ref la, .ref me, .ref li, .int tol, .int su, .int fa])), (re, .inr (3, [.ref rd, .int nd, .ref rl, .int ldi, .int sot, .int tie, .int 0, .int 0])), (rd, .inr (4, [.ref rdA, .int 0])), (rl, .inr (4, [.ref rlA, .int 0])), (me, .inr (4, [.ref meA, .int 0]))]) (tc := []) hG hS hA hK hP hD [] [0, 1, 2, 3, 4, 5] [] rfl rfl (by decide) (by decide) (by decide) rfl
      refine k_endi (As := [.int 1]) ct (k_runS (As := [.int 1]) (rest := []) S0 Ls_X7_158 ct (c_hasSucceeded1 l D H.size) hl.1 rfl (Nat.le_of_ble_eq_true rfl) rfl dX7_digit_43 ⟨⟨Nat.le_of_ble_eq_true rfl, Nat.le_of_ble_eq_true rfl⟩, Nat.le_of_ble_eq_true rfl, Nat.le_of_ble_eq_true rfl⟩) rfl rfl (fun r_5 _ H locs hw_6 hP hD hK hS => ?_)
      have hK : va_K D vwCl [] s := hK
      have hP : va_P D vwCl [(w, .inr (7, [.ref st, .ref hi, .ref re, .ref fo, .ref bu, .ref pa])), (st, .inr (6, [.ref la, .ref me, .ref li, .int tol, .int su, .int fa])), (re, .inr (3, [.ref rd, .int nd, .ref rl, .int ldi, .int sot, .int tie, .int 0, .int 0])), (rd, .inr (4, [.ref rdA, .int 0])), (rl, .inr (4, [.ref rlA, .int 0])), (me, .inr (4, [.ref meA, .int 0]))] H := hP
      have hD : va_D A [(w, .inr (7, [.ref st, .ref hi, .ref re, .ref fo, .ref bu, .ref pa])), (st, .inr (6, [.ref la, .ref me, .ref li, .int tol, .int su, .int fa])), (re, .inr (3, [.ref rd, .int nd, .ref rl, .int ldi, .int sot, .int tie, .int 0, .int 0])), (rd, .inr (4, [.ref rdA, .int 0])), (rl, .inr (4, [.ref rlA, .int 0])), (me, .inr (4, [.ref meA, .int 0]))] := hD
      have hw_6 : r_5 = 0 := hw_6
      have hw_6 := hw_6.symm
      subst hw_6
      refine k_nrm (y := 0) rfl ?_
      refine lv_if_eq (tgt := 77) hx hb dX7_digit_46 (by decide) (fun _ => ?_) (fun c9 => absurd (by decide) c9)
      refine lv_iconst (v := (-1)) hx hb dX7_digit_77 (by decide) ?_
      have hP9 : va_P D vwCl [(w, .inr (7, [.ref st, .ref hi, .ref re, .ref fo, .ref bu, .ref pa])), (st, .inr (6, [.ref la, .ref me, .ref li, .int tol, .int su, .int fa])), (me, .inr (4, [.ref meA, .int 0])), (re, .inr (3, [.ref rd, .int nd, .ref rl, .int ldi, .int sot, .int tie, .int 0, .int 0])), (rd, .inr (4, [.ref rdA, .int 0])), (rl, .inr (4, [.ref rlA, .int 0]))] H := hP.sub [0, 1, 5, 2, 3, 4] rfl
      have hD9 : va_D A [(w, .inr (7, [.ref st, .ref hi, .ref re, .ref fo, .ref bu, .ref pa])), (st, .inr (6, [.ref la, .ref me, .ref li, .int tol, .int su, .int fa])), (me, .inr (4, [.ref meA, .int 0])), (re, .inr (3, [.ref rd, .int nd, .ref rl, .int ldi, .int sot, .int tie, .int 0, .int 0])), (rd, .inr (4, [.ref rdA, .int 0])), (rl, .inr (4, [.ref rlA, .int 0]))] := hD.sub [0, 1, 5, 2, 3, 4] (by decide) rfl
      have hK9 : va_K D vwCl [] s := hK.sub [] rfl
      refine vx_ret ?_
      refine W.widen (k := 1) (n := 6) (by first | exact Nat.le_of_ble_eq_true rfl | omega) (by first | exact Nat.le_of_ble_eq_true rfl | omega) ?_
      exact W.iret (v := (-1)) hx hb hr (fun t ht9 hW9 => ⟨⟨(-1), (), rfl, by exact ⟨⟨c_1, c_2⟩, rfl⟩, ⟨by rw [ht9]; exact hP9, va_K.moved hW9.alike hK9, hD9⟩⟩, hS.F ht9⟩) hS.2.2 dX7_digit_78
    · have hc9 := c_2
      obtain ⟨sa, hsa⟩ := hG.2.2.2.1 (156, "digit is not 0 to 8") (by decide +kernel)
      exact vx_throwS hx hb hst (own := RX7) (cls := "java/lang/IndexOutOfBoundsException") (text := "digit is not 0 to 8") (names := ["java/lang/RuntimeException", "java/lang/Exception"]) (ik := 104) (is := 156) (ic := 108) (sa := sa) hown (by decide +kernel) (by decide +kernel) (ht _ lc_X7_104) (ht _ li_java_lang_IndexOutOfBoundsException) hsa (vx_hat (fun w h => ht w (List.mem_filter.mpr ⟨lh_X7_108.1 w h, (List.mem_filter.mp h).2⟩)) lh_X7_108.2.1 (fun w h => va_Nw.use (k_NX_on (List.mem_filter.mp h).2) (hG.1 w (List.mem_filter.mp h).1 (List.mem_filter.mp h).2))) lh_X7_108.2.2 hG.2.1 hG.2.2.1 hS (by rw [hml]; exact hl.1) dX7_digit_10 dX7_digit_13 dX7_digit_14 dX7_digit_16 dX7_digit_19 (fun x h9 => (htab x h9).elim) (Nat.le_of_ble_eq_true rfl) (Nat.le_of_ble_eq_true rfl) (Nat.le_of_ble_eq_true rfl) (Nat.le_of_ble_eq_true rfl) hlocks (fun t hv9 hz9 hk9 => ⟨(), trivial, ⟨by exact ⟨rfl, fun h9 => c_2 h9.2⟩, (hP.sub [0, 1, 2, 3, 4, 5] rfl).kept (fun k q hk => hk9 _ (vx_lt (hP.sub [0, 1, 2, 3, 4, 5] rfl) hk)), va_K.moved hv9 (hK.sub [] rfl), hD.sub [0, 1, 2, 3, 4, 5] (by decide) rfl⟩, ⟨Nat.le_trans hS.1 hz9, fun q h1 h2 => (hk9 q (Nat.lt_of_lt_of_le h1 hS.1)).trans (hS.2.1 q h1 h2)⟩⟩) hS.2.2 (Nat.le_of_ble_eq_true rfl) (Nat.le_of_ble_eq_true rfl)
set_option maxHeartbeats 4000000 in
set_option maxRecDepth 100000 in
theorem c_W_measure (l : Launch) (hst : l.stackTraces = false) (D : va_G) (w : Nat) (st : Nat) (hi : Nat) (re : Nat) (fo : Nat) (bu : Nat) (pa : Nat) (ri : Nat) (KS : ClassId) (rf : Nat → Option Nat) (zst : Nat) (zla : Nat) (zme : Nat) (zli : Nat) (ztol : Int32) (zsu : Int32) (zfa : Int32) (zld : Nat) (zlz : Nat) (zldA : Nat) (zldN : Int32) (zlzA : Nat) (zlzN : Int32) (zmeA : Nat) (zmeN : Int32) (zln : Nat) (zll : Nat) (zlc : Nat) (zlnA : Nat) (zlnN : Int32) (zllA : Nat) (zllN : Int32) (zlcA : Nat) (zlcN : Int32) (la : Nat) (me : Nat) (li : Nat) (tol : Int32) (su : Int32) (fa : Int32) (ld : Nat) (lz : Nat) (ldA : Nat) (lzA : Nat) (meA : Nat) (ln : Nat) (ll : Nat) (lc : Nat) (lnA : Nat) (llA : Nat) (lcA : Nat) (K : ClassId) (mf : Nat → Int32) (i : Int32) (hrf : rf 0 = some zst) (sz : Nat) : k_Xi (S := Nat → Int32) l D yX7_measure cX7_measure 2 (some .int) 6 1 6 126 [.ref w, .int i] [(w, .inr (7, [.ref st, .ref hi, .ref re, .ref fo, .ref bu, .ref pa])), (hi, .inr (5, [.ref ri, .int 0, .int 0])), (ri, .inl (KS, 6, .inr (.inr (.inr (.inr rf))))), (zst, .inr (6, [.ref zla, .ref zme, .ref zli, .int ztol, .int zsu, .int zfa])), (zla, .inr (2, [.ref zld, .ref zlz])), (zld, .inr (4, [.ref zldA, .int zldN])), (zlz, .inr (4, [.ref zlzA, .int zlzN])), (zme, .inr (4, [.ref zmeA, .int zmeN])), (zli, .inr (0, [.ref zln, .ref zll, .ref zlc])), (zln, .inr (4, [.ref zlnA, .int zlnN])), (zll, .inr (4, [.ref zllA, .int zllN])), (zlc, .inr (4, [.ref zlcA, .int zlcN])), (st, .inr (6, [.ref la, .ref me, .ref li, .int tol, .int su, .int fa])), (la, .inr (2, [.ref ld, .ref lz])), (ld, .inr (4, [.ref ldA, .int 0])), (lz, .inr (4, [.ref lzA, .int 0])), (me, .inr (4, [.ref meA, .int 0])), (li, .inr (0, [.ref ln, .ref ll, .ref lc])), (ln, .inr (4, [.ref lnA, .int 0])), (ll, .inr (4, [.ref llA, .int 0])), (lc, .inr (4, [.ref lcA, .int 0])), (meA, .inl (K, 41, .inl mf))] [(K, .int), (KS, .object "BarcodeWand$State")] (fun (r : Int32) (mg : Nat → Int32) => k_tim i ∧ r = 1) (fun mg => [(w, .inr (7, [.ref st, .ref hi, .ref re, .ref fo, .ref bu, .ref pa])), (hi, .inr (5, [.ref ri, .int 1, .int 1])), (ri, .inl (KS, 6, .inr (.inr (.inr (.inr rf))))), (zst, .inr (6, [.ref zla, .ref zme, .ref zli, .int tol, .int su, .int fa])), (zla, .inr (2, [.ref zld, .ref zlz])), (zld, .inr (4, [.ref zldA, .int 0])), (zlz, .inr (4, [.ref zlzA, .int 0])), (zme, .inr (4, [.ref zmeA, .int 0])), (zli, .inr (0, [.ref zln, .ref zll, .ref zlc])), (zln, .inr (4, [.ref zlnA, .int 0])), (zll, .inr (4, [.ref zllA, .int 0])), (zlc, .inr (4, [.ref zlcA, .int 0])), (st, .inr (6, [.ref la, .ref me, .ref li, .int tol, .int su, .int fa])), (la, .inr (2, [.ref ld, .ref lz])), (ld, .inr (4, [.ref ldA, .int 0])), (lz, .inr (4, [.ref lzA, .int 0])), (me, .inr (4, [.ref meA, .int 1])), (li, .inr (0, [.ref ln, .ref ll, .ref lc])), (ln, .inr (4, [.ref lnA, .int 0])), (ll, .inr (4, [.ref llA, .int 0])), (lc, .inr (4, [.ref lcA, .int 0])), (meA, .inl (K, 41, .inl mg))]) (fun mg => []) (fun E => E = "java/lang/IllegalArgumentException" ∧ ¬ k_tim i) sz := by
  refine vx_ofW (cc := cX7_measure) (maxL := 2) (ret := (some .int)) (by decide) rfl ?_
  intro p e s m args below meth c s₁ B hml htab hv
  obtain ⟨rfl, hsz, hP, hK, hD0, hG⟩ := hv
  have hx := B.exec
  have hb := B.bytes
  have hr := B.returns
  have ht : ∀ v9 ∈ wsA, v9.before ([.ref w, .int i] : List Value).toArray s = true := fun v9 h9 => atoms_spec (ws := k_ws yX7_measure cX7_measure 2 (some .int)) B.pre v9 (List.mem_cons_of_mem _ h9)
  have hown : s.vm.findClass RX7 = some m.cls := findClass_of_methodNamed B.named
  have S0 : k_C p s m ([.ref w, .int i] : List Value).toArray c cX7_measure 2 RX7 := ⟨hx, hb, hml, hown, ht⟩
  have hlocks := B.notSynchronized
  subst hsz
  have hD := hD0.self (sz := s.heap.size)
  unfold k_X
  generalize hAe : va_A [(w, .inr (7, [.ref st, .ref hi, .ref re, .ref fo, .ref bu, .ref pa])), (hi, .inr (5, [.ref ri, .int 0, .int 0])), (ri, .inl (KS, 6, .inr (.inr (.inr (.inr rf))))), (zst, .inr (6, [.ref zla, .ref zme, .ref zli, .int ztol, .int zsu, .int zfa])), (zla, .inr (2, [.ref zld, .ref zlz])), (zld, .inr (4, [.ref zldA, .int zldN])), (zlz, .inr (4, [.ref zlzA, .int zlzN])), (zme, .inr (4, [.ref zmeA, .int zmeN])), (zli, .inr (0, [.ref zln, .ref zll, .ref zlc])), (zln, .inr (4, [.ref zlnA, .int zlnN])), (zll, .inr (4, [.ref zllA, .int zllN])), (zlc, .inr (4, [.ref zlcA, .int zlcN])), (st, .inr (6, [.ref la, .ref me, .ref li, .int tol, .int su, .int fa])), (la, .inr (2, [.ref ld, .ref lz])), (ld, .inr (4, [.ref ldA, .int 0])), (lz, .inr (4, [.ref lzA, .int 0])), (me, .inr (4, [.ref meA, .int 0])), (li, .inr (0, [.ref ln, .ref ll, .ref lc])), (ln, .inr (4, [.ref lnA, .int 0])), (ll, .inr (4, [.ref llA, .int 0])), (lc, .inr (4, [.ref lcA, .int 0])), (meA, .inl (K, 41, .inl mf))] s.heap.size = A at hD hG ⊢
  have hA : ∀ q : Nat, s.heap.size ≤ q → A q := fun q h => by rw [← hAe]; exact Or.inr h
  have hS : va_S A s.heap s.heap [] := va_S.rf
  have hl := lv_entry ([.ref w, .int i]) (n := 2) (Nat.le_of_ble_eq_true rfl)
  rw [lg_entry_eq]
  generalize (lg_sl ([.ref w, .int i]) ++ List.replicate (2 - (lg_sl ([.ref w, .int i])).length) Slot.unset).toArray = ls at hl ⊢
  have hl : lv_has ls 2 [(0, .ref w), (1, .int i)] := hl
  have hP : va_P D vwCl [(w, .inr (7, [.ref st, .ref hi, .ref re, .ref fo, .ref bu, .ref pa])), (hi, .inr (5, [.ref ri, .int 0, .int 0])), (ri, .inl (KS, 6, .inr (.inr (.inr (.inr rf))))), (zst, .inr (6, [.ref zla, .ref zme, .ref zli, .int ztol, .int zsu, .int zfa])), (zla, .inr (2, [.ref zld, .ref zlz])), (zld, .inr (4, [.ref zldA, .int zldN])), (zlz, .inr (4, [.ref zlzA, .int zlzN])), (zme, .inr (4, [.ref zmeA, .int zmeN])), (zli, .inr (0, [.ref zln, .ref zll, .ref zlc])), (zln, .inr (4, [.ref zlnA, .int zlnN])), (zll, .inr (4, [.ref zllA, .int zllN])), (zlc, .inr (4, [.ref zlcA, .int zlcN])), (st, .inr (6, [.ref la, .ref me, .ref li, .int tol, .int su, .int fa])), (la, .inr (2, [.ref ld, .ref lz])), (ld, .inr (4, [.ref ldA, .int 0])), (lz, .inr (4, [.ref lzA, .int 0])), (me, .inr (4, [.ref meA, .int 0])), (li, .inr (0, [.ref ln, .ref ll, .ref lc])), (ln, .inr (4, [.ref lnA, .int 0])), (ll, .inr (4, [.ref llA, .int 0])), (lc, .inr (4, [.ref lcA, .int 0])), (meA, .inl (K, 41, .inl mf))] s.heap := hP
  refine lv_iload_n hx hb dX7_measure_0 rfl (lv_at hl 1 rfl) ?_
  refine lv_iconst (v := 1) hx hb dX7_measure_1 (by decide) ?_
  refine lv_icmp_lt (tgt := 12) hx hb dX7_measure_2 (by decide) (fun c_1 => ?_) (fun c_1 => ?_)
  · have hc9 := c_1
    obtain ⟨sa, hsa⟩ := hG.2.2.2.1 (122, "time is not 1 to 9999") (by decide +kernel)
    exact vx_throwS hx hb hst (own := RX7) (cls := "java/lang/IllegalArgumentException") (text := "time is not 1 to 9999") (names := ["java/lang/RuntimeException", "java/lang/Exception"]) (ik := 49) (is := 122) (ic := 53) (sa := sa) hown (by decide +kernel) (by decide +kernel) (ht _ lc_X7_49) (ht _ li_java_lang_IllegalArgumentException) hsa (vx_hat (fun w h => ht w (List.mem_filter.mpr ⟨lh_X7_53.1 w h, (List.mem_filter.mp h).2⟩)) lh_X7_53.2.1 (fun w h => va_Nw.use (k_NX_on (List.mem_filter.mp h).2) (hG.1 w (List.mem_filter.mp h).1 (List.mem_filter.mp h).2))) lh_X7_53.2.2 hG.2.1 hG.2.2.1 hS (by rw [hml]; exact hl.1) dX7_measure_12 dX7_measure_15 dX7_measure_16 dX7_measure_18 dX7_measure_21 (fun x h9 => (htab x h9).elim) (Nat.le_of_ble_eq_true rfl) (Nat.le_of_ble_eq_true rfl) (Nat.le_of_ble_eq_true rfl) (Nat.le_of_ble_eq_true rfl) hlocks (fun t hv9 hz9 hk9 => ⟨(), trivial, ⟨by exact ⟨rfl, fun h9 => h9.1 c_1⟩, (hP.sub [0, 1, 2, 3, 4, 5, 6, 7, 8, 9, 10, 11, 12, 13, 14, 15, 16, 17, 18, 19, 20, 21] rfl).kept (fun k q hk => hk9 _ (vx_lt (hP.sub [0, 1, 2, 3, 4, 5, 6, 7, 8, 9, 10, 11, 12, 13, 14, 15, 16, 17, 18, 19, 20, 21] rfl) hk)), va_K.moved hv9 (hK.sub [] rfl), hD.sub [0, 1, 2, 3, 4, 5, 6, 7, 8, 9, 10, 11, 12, 13, 14, 15, 16, 17, 18, 19, 20, 21] (by decide) rfl⟩, ⟨Nat.le_trans hS.1 hz9, fun q h1 h2 => (hk9 q (Nat.lt_of_lt_of_le h1 hS.1)).trans (hS.2.1 q h1 h2)⟩⟩) hS.2.2 (Nat.le_of_ble_eq_true rfl) (Nat.le_of_ble_eq_true rfl)
  · have hc9 := c_1
    refine lv_iload_n hx hb dX7_measure_5 rfl (lv_at hl 1 rfl) ?_
    refine lv_sipush (v := 9999) hx hb dX7_measure_6 (by decide) ?_
    refine lv_icmp_le (tgt := 22) hx hb dX7_measure_9 (by decide) (fun c_2 => ?_) (fun c_2 => ?_)
    · have hc9 := c_2
      refine lv_aload_n hx hb dX7_measure_22 rfl (lv_at hl 0 rfl) ?_
      refine va_get (D := D) (ci := 7) (v := .ref st) (C := RX7) (T := TX7) (N := 6) hx hb ht inA_X7 hown hK hP 0 rfl rfl 0 (by decide) (ht _ lf_X7_10) (fun _ h9 => h9) rfl dX7_measure_23 ?_
      refine va_get (D := D) (ci := 6) (v := .ref me) (C := RX6) (T := TX6) (N := 6) hx hb ht inA_X6 hown hK hP 12 rfl rfl 1 (by decide) (ht _ lf_X7_112) (fun _ h9 => h9) rfl dX7_measure_26 ?_
      have ct := k_cut_of (wc := [(me, .inr (4, [.ref meA, .int 0])), (meA, .inl (K, 41, .inl mf))]) (wr := [(w, .inr (7, [.ref st, .ref hi, .ref re, .ref fo, .ref bu, .ref pa])), (hi, .inr (5, [.ref ri, .int 0, .int 0])), (ri, .inl (KS, 6, .inr (.inr (.inr (.inr rf))))), (zst, .inr (6, [.ref zla, .ref zme, .ref zli, .int ztol, .int zsu, .int zfa])), (zla, .inr (2, [.ref zld, .ref zlz])), (zld, .inr (4, [.ref zldA, .int zldN])), (zlz, .inr (4, [.ref zlzA, .int zlzN])), (zme, .inr (4, [.ref zmeA, .int zmeN])), (zli, .inr (0, [.ref zln, .ref zll, .ref zlc])), (zln, .inr (4, [.ref zlnA, .int zlnN])), (zll, .inr (4, [.ref zllA, .int zllN])), (zlc, .inr (4, [.ref zlcA, .int zlcN])), (st, .inr (6, [.ref la, .ref me, .ref li, .int tol, .int su, .int fa])), (la, .inr (2, [.ref ld, .ref lz])), (ld, .inr (4, [.ref ldA, .int 0])), (lz, .inr (4, [.ref lzA, .int 0])), (li, .inr (0, [.ref ln, .ref ll, .ref lc])), (ln, .inr (4, [.ref lnA, .int 0])), (ll, .inr (4, [.ref llA, .int 0])), (lc, .inr (4, [.ref lcA, .int 0]))]) (tc := [(K, .int)]) hG hS hA hK hP hD [16, 21] [0, 1, 2, 3, 4, 5, 6, 7, 8, 9, 10, 11, 12, 13, 14, 15, 17, 18, 19, 20] [0] rfl rfl (by decide) (by decide) (by decide) rfl
      refine k_endi (As := [.ref me]) ct (k_runV (As := []) (rest := []) S0 Lv_X7_124 rfl (ci := 4) (q0 := 0) rfl rfl ct (c_Row_isFull l D me meA K 41 0 mf s.heap.size) hl.1 rfl (Nat.le_of_ble_eq_true rfl) rfl dX7_measure_29 ⟨⟨Nat.le_of_ble_eq_true rfl, Nat.le_of_ble_eq_true rfl⟩, Nat.le_of_ble_eq_true rfl, Nat.le_of_ble_eq_true rfl⟩) rfl rfl (fun r_3 _ H locs hw_4 hP hD hK hS => ?_)
      have hK : va_K D vwCl [(K, .int), (KS, .object "BarcodeWand$State")] s := hK
      have hP : va_P D vwCl [(w, .inr (7, [.ref st, .ref hi, .ref re, .ref fo, .ref bu, .ref pa])), (hi, .inr (5, [.ref ri, .int 0, .int 0])), (ri, .inl (KS, 6, .inr (.inr (.inr (.inr rf))))), (zst, .inr (6, [.ref zla, .ref zme, .ref zli, .int ztol, .int zsu, .int zfa])), (zla, .inr (2, [.ref zld, .ref zlz])), (zld, .inr (4, [.ref zldA, .int zldN])), (zlz, .inr (4, [.ref zlzA, .int zlzN])), (zme, .inr (4, [.ref zmeA, .int zmeN])), (zli, .inr (0, [.ref zln, .ref zll, .ref zlc])), (zln, .inr (4, [.ref zlnA, .int zlnN])), (zll, .inr (4, [.ref zllA, .int zllN])), (zlc, .inr (4, [.ref zlcA, .int zlcN])), (st, .inr (6, [.ref la, .ref me, .ref li, .int tol, .int su, .int fa])), (la, .inr (2, [.ref ld, .ref lz])), (ld, .inr (4, [.ref ldA, .int 0])), (lz, .inr (4, [.ref lzA, .int 0])), (li, .inr (0, [.ref ln, .ref ll, .ref lc])), (ln, .inr (4, [.ref lnA, .int 0])), (ll, .inr (4, [.ref llA, .int 0])), (lc, .inr (4, [.ref lcA, .int 0])), (me, .inr (4, [.ref meA, .int 0])), (meA, .inl (K, 41, .inl mf))] H := hP
      have hD : va_D A [(w, .inr (7, [.ref st, .ref hi, .ref re, .ref fo, .ref bu, .ref pa])), (hi, .inr (5, [.ref ri, .int 0, .int 0])), (ri, .inl (KS, 6, .inr (.inr (.inr (.inr rf))))), (zst, .inr (6, [.ref zla, .ref zme, .ref zli, .int ztol, .int zsu, .int zfa])), (zla, .inr (2, [.ref zld, .ref zlz])), (zld, .inr (4, [.ref zldA, .int zldN])), (zlz, .inr (4, [.ref zlzA, .int zlzN])), (zme, .inr (4, [.ref zmeA, .int zmeN])), (zli, .inr (0, [.ref zln, .ref zll, .ref zlc])), (zln, .inr (4, [.ref zlnA, .int zlnN])), (zll, .inr (4, [.ref zllA, .int zllN])), (zlc, .inr (4, [.ref zlcA, .int zlcN])), (st, .inr (6, [.ref la, .ref me, .ref li, .int tol, .int su, .int fa])), (la, .inr (2, [.ref ld, .ref lz])), (ld, .inr (4, [.ref ldA, .int 0])), (lz, .inr (4, [.ref lzA, .int 0])), (li, .inr (0, [.ref ln, .ref ll, .ref lc])), (ln, .inr (4, [.ref lnA, .int 0])), (ll, .inr (4, [.ref llA, .int 0])), (lc, .inr (4, [.ref lcA, .int 0])), (me, .inr (4, [.ref meA, .int 0])), (meA, .inl (K, 41, .inl mf))] := hD
      have hw_4 : r_3 = (if nI 41 ≤ 0 then 1 else 0) := hw_4
      refine lv_if_eq (tgt := 45) hx hb dX7_measure_32 (by decide) (fun c_5 => ?_) (fun c9 => absurd hw_4 c9)
      refine lv_aload_n hx hb dX7_measure_45 rfl (lv_at hl 0 rfl) ?_
      refine va_get (D := D) (ci := 7) (v := .ref hi) (C := RX7) (T := TX7) (N := 6) hx hb ht inA_X7 hown hK hP 0 rfl rfl 1 (by decide) (ht _ lf_X7_19) (fun _ h9 => h9) rfl dX7_measure_46 ?_
      refine lv_aload_n hx hb dX7_measure_49 rfl (lv_at hl 0 rfl) ?_
      refine va_get (D := D) (ci := 7) (v := .ref st) (C := RX7) (T := TX7) (N := 6) hx hb ht inA_X7 hown hK hP 0 rfl rfl 0 (by decide) (ht _ lf_X7_10) (fun _ h9 => h9) rfl dX7_measure_50 ?_
      have ct := k_cut_of (wc := [(hi, .inr (5, [.ref ri, .int 0, .int 0])), (ri, .inl (KS, 6, .inr (.inr (.inr (.inr rf))))), (zst, .inr (6, [.ref zla, .ref zme, .ref zli, .int ztol, .int zsu, .int zfa])), (zla, .inr (2, [.ref zld, .ref zlz])), (zld, .inr (4, [.ref zldA, .int zldN])), (zlz, .inr (4, [.ref zlzA, .int zlzN])), (zme, .inr (4, [.ref zmeA, .int zmeN])), (zli, .inr (0, [.ref zln, .ref zll, .ref zlc])), (zln, .inr (4, [.ref zlnA, .int zlnN])), (zll, .inr (4, [.ref zllA, .int zllN])), (zlc, .inr (4, [.ref zlcA, .int zlcN])), (st, .inr (6, [.ref la, .ref me, .ref li, .int tol, .int su, .int fa])), (la, .inr (2, [.ref ld, .ref lz])), (ld, .inr (4, [.ref ldA, .int 0])), (lz, .inr (4, [.ref lzA, .int 0])), (me, .inr (4, [.ref meA, .int 0])), (li, .inr (0, [.ref ln, .ref ll, .ref lc])), (ln, .inr (4, [.ref lnA, .int 0])), (ll, .inr (4, [.ref llA, .int 0])), (lc, .inr (4, [.ref lcA, .int 0]))]) (wr := [(w, .inr (7, [.ref st, .ref hi, .ref re, .ref fo, .ref bu, .ref pa])), (meA, .inl (K, 41, .inl mf))]) (tc := [(KS, .object "BarcodeWand$State")]) hG hS hA hK hP hD [1, 2, 3, 4, 5, 6, 7, 8, 9, 10, 11, 12, 13, 14, 15, 20, 16, 17, 18, 19] [0, 21] [1] rfl rfl (by decide) (by decide) (by decide) rfl
      refine k_endv (As := [.ref hi, .ref st]) ct (k_runV (As := [.ref st]) (rest := []) S0 Lv_X7_62 rfl (ci := 5) (q0 := 0) rfl rfl ct (c_Saved_save0 l D hi ri KS rf zst zla zme zli ztol zsu zfa zld zlz zldA zldN zlzA zlzN zmeA zmeN zln zll zlc zlnA zlnN zllA zllN zlcA zlcN st la me li tol su fa ld lz ldA lzA meA ln ll lc lnA llA lcA (by assumption) H.size) hl.1 rfl (Nat.le_of_ble_eq_true rfl) rfl dX7_measure_53 ⟨⟨Nat.le_of_ble_eq_true rfl, Nat.le_of_ble_eq_true rfl⟩, Nat.le_of_ble_eq_true rfl, Nat.le_of_ble_eq_true rfl⟩) rfl rfl (fun _ _ H locs hw_7 hP hD hK hS => ?_)
      have hK : va_K D vwCl [(K, .int), (KS, .object "BarcodeWand$State")] s := hK
      have hP : va_P D vwCl [(w, .inr (7, [.ref st, .ref hi, .ref re, .ref fo, .ref bu, .ref pa])), (meA, .inl (K, 41, .inl mf)), (hi, .inr (5, [.ref ri, .int 1, .int 1])), (ri, .inl (KS, 6, .inr (.inr (.inr (.inr rf))))), (zst, .inr (6, [.ref zla, .ref zme, .ref zli, .int tol, .int su, .int fa])), (zla, .inr (2, [.ref zld, .ref zlz])), (zld, .inr (4, [.ref zldA, .int 0])), (zlz, .inr (4, [.ref zlzA, .int 0])), (zme, .inr (4, [.ref zmeA, .int 0])), (zli, .inr (0, [.ref zln, .ref zll, .ref zlc])), (zln, .inr (4, [.ref zlnA, .int 0])), (zll, .inr (4, [.ref zllA, .int 0])), (zlc, .inr (4, [.ref zlcA, .int 0])), (st, .inr (6, [.ref la, .ref me, .ref li, .int tol, .int su, .int fa])), (la, .inr (2, [.ref ld, .ref lz])), (ld, .inr (4, [.ref ldA, .int 0])), (lz, .inr (4, [.ref lzA, .int 0])), (me, .inr (4, [.ref meA, .int 0])), (li, .inr (0, [.ref ln, .ref ll, .ref lc])), (ln, .inr (4, [.ref lnA, .int 0])), (ll, .inr (4, [.ref llA, .int 0])), (lc, .inr (4, [.ref lcA, .int 0]))] H := hP
      have hD : va_D A [(w, .inr (7, [.ref st, .ref hi, .ref re, .ref fo, .ref bu, .ref pa])), (meA, .inl (K, 41, .inl mf)), (hi, .inr (5, [.ref ri, .int 1, .int 1])), (ri, .inl (KS, 6, .inr (.inr (.inr (.inr rf))))), (zst, .inr (6, [.ref zla, .ref zme, .ref zli, .int tol, .int su, .int fa])), (zla, .inr (2, [.ref zld, .ref zlz])), (zld, .inr (4, [.ref zldA, .int 0])), (zlz, .inr (4, [.ref zlzA, .int 0])), (zme, .inr (4, [.ref zmeA, .int 0])), (zli, .inr (0, [.ref zln, .ref zll, .ref zlc])), (zln, .inr (4, [.ref zlnA, .int 0])), (zll, .inr (4, [.ref zllA, .int 0])), (zlc, .inr (4, [.ref zlcA, .int 0])), (st, .inr (6, [.ref la, .ref me, .ref li, .int tol, .int su, .int fa])), (la, .inr (2, [.ref ld, .ref lz])), (ld, .inr (4, [.ref ldA, .int 0])), (lz, .inr (4, [.ref lzA, .int 0])), (me, .inr (4, [.ref meA, .int 0])), (li, .inr (0, [.ref ln, .ref ll, .ref lc])), (ln, .inr (4, [.ref lnA, .int 0])), (ll, .inr (4, [.ref llA, .int 0])), (lc, .inr (4, [.ref lcA, .int 0]))] := hD
      refine lv_aload_n hx hb dX7_measure_56 rfl (lv_at hl 0 rfl) ?_
      refine va_get (D := D) (ci := 7) (v := .ref st) (C := RX7) (T := TX7) (N := 6) hx hb ht inA_X7 hown hK hP 0 rfl rfl 0 (by decide) (ht _ lf_X7_10) (fun _ h9 => h9) rfl dX7_measure_57 ?_
      refine va_get (D := D) (ci := 6) (v := .ref me) (C := RX6) (T := TX6) (N := 6) hx hb ht inA_X6 hown hK hP 13 rfl rfl 1 (by decide) (ht _ lf_X7_112) (fun _ h9 => h9) rfl dX7_measure_60 ?_
      refine lv_iload_n hx hb dX7_measure_63 rfl (lv_at hl 1 rfl) ?_
      have ct := k_cut_of (wc := [(me, .inr (4, [.ref meA, .int 0])), (meA, .inl (K, 41, .inl mf))]) (wr := [(w, .inr (7, [.ref st, .ref hi, .ref re, .ref fo, .ref bu, .ref pa])), (hi, .inr (5, [.ref ri, .int 1, .int 1])), (ri, .inl (KS, 6, .inr (.inr (.inr (.inr rf))))), (zst, .inr (6, [.ref zla, .ref zme, .ref zli, .int tol, .int su, .int fa])), (zla, .inr (2, [.ref zld, .ref zlz])), (zld, .inr (4, [.ref zldA, .int 0])), (zlz, .inr (4, [.ref zlzA, .int 0])), (zme, .inr (4, [.ref zmeA, .int 0])), (zli, .inr (0, [.ref zln, .ref zll, .ref zlc])), (zln, .inr (4, [.ref zlnA, .int 0])), (zll, .inr (4, [.ref zllA, .int 0])), (zlc, .inr (4, [.ref zlcA, .int 0])), (st, .inr (6, [.ref la, .ref me, .ref li, .int tol, .int su, .int fa])), (la, .inr (2, [.ref ld, .ref lz])), (ld, .inr (4, [.ref ldA, .int 0])), (lz, .inr (4, [.ref lzA, .int 0])), (li, .inr (0, [.ref ln, .ref ll, .ref lc])), (ln, .inr (4, [.ref lnA, .int 0])), (ll, .inr (4, [.ref llA, .int 0])), (lc, .inr (4, [.ref lcA, .int 0]))]) (tc := [(K, .int)]) hG hS hA hK hP hD [17, 1] [0, 2, 3, 4, 5, 6, 7, 8, 9, 10, 11, 12, 13, 14, 15, 16, 18, 19, 20, 21] [0] rfl rfl (by decide) (by decide) (by decide) rfl
      refine k_endv (As := [.ref me, .int i]) ct (k_runV (As := [.int i]) (rest := []) S0 Lv_X7_133 rfl (ci := 4) (q0 := 0) rfl rfl ct (c_Row_add l D me meA K 41 0 mf i (by first | assumption | decide) H.size) hl.1 rfl (Nat.le_of_ble_eq_true rfl) rfl dX7_measure_64 ⟨⟨Nat.le_of_ble_eq_true rfl, Nat.le_of_ble_eq_true rfl⟩, Nat.le_of_ble_eq_true rfl, Nat.le_of_ble_eq_true rfl⟩) rfl rfl (fun _ _ H locs hw_9 hP hD hK hS => ?_)
      have hK : va_K D vwCl [(K, .int), (KS, .object "BarcodeWand$State")] s := hK
      have hP : va_P D vwCl [(w, .inr (7, [.ref st, .ref hi, .ref re, .ref fo, .ref bu, .ref pa])), (hi, .inr (5, [.ref ri, .int 1, .int 1])), (ri, .inl (KS, 6, .inr (.inr (.inr (.inr rf))))), (zst, .inr (6, [.ref zla, .ref zme, .ref zli, .int tol, .int su, .int fa])), (zla, .inr (2, [.ref zld, .ref zlz])), (zld, .inr (4, [.ref zldA, .int 0])), (zlz, .inr (4, [.ref zlzA, .int 0])), (zme, .inr (4, [.ref zmeA, .int 0])), (zli, .inr (0, [.ref zln, .ref zll, .ref zlc])), (zln, .inr (4, [.ref zlnA, .int 0])), (zll, .inr (4, [.ref zllA, .int 0])), (zlc, .inr (4, [.ref zlcA, .int 0])), (st, .inr (6, [.ref la, .ref me, .ref li, .int tol, .int su, .int fa])), (la, .inr (2, [.ref ld, .ref lz])), (ld, .inr (4, [.ref ldA, .int 0])), (lz, .inr (4, [.ref lzA, .int 0])), (li, .inr (0, [.ref ln, .ref ll, .ref lc])), (ln, .inr (4, [.ref lnA, .int 0])), (ll, .inr (4, [.ref llA, .int 0])), (lc, .inr (4, [.ref lcA, .int 0])), (me, .inr (4, [.ref meA, .int (rowLen 41 0)])), (meA, .inl (K, 41, .inl (rowAdd 41 0 mf i)))] H := hP
      have hD : va_D A [(w, .inr (7, [.ref st, .ref hi, .ref re, .ref fo, .ref bu, .ref pa])), (hi, .inr (5, [.ref ri, .int 1, .int 1])), (ri, .inl (KS, 6, .inr (.inr (.inr (.inr rf))))), (zst, .inr (6, [.ref zla, .ref zme, .ref zli, .int tol, .int su, .int fa])), (zla, .inr (2, [.ref zld, .ref zlz])), (zld, .inr (4, [.ref zldA, .int 0])), (zlz, .inr (4, [.ref zlzA, .int 0])), (zme, .inr (4, [.ref zmeA, .int 0])), (zli, .inr (0, [.ref zln, .ref zll, .ref zlc])), (zln, .inr (4, [.ref zlnA, .int 0])), (zll, .inr (4, [.ref zllA, .int 0])), (zlc, .inr (4, [.ref zlcA, .int 0])), (st, .inr (6, [.ref la, .ref me, .ref li, .int tol, .int su, .int fa])), (la, .inr (2, [.ref ld, .ref lz])), (ld, .inr (4, [.ref ldA, .int 0])), (lz, .inr (4, [.ref lzA, .int 0])), (li, .inr (0, [.ref ln, .ref ll, .ref lc])), (ln, .inr (4, [.ref lnA, .int 0])), (ll, .inr (4, [.ref llA, .int 0])), (lc, .inr (4, [.ref lcA, .int 0])), (me, .inr (4, [.ref meA, .int (rowLen 41 0)])), (meA, .inl (K, 41, .inl (rowAdd 41 0 mf i)))] := hD
      have hf_10 : (rowLen 41 0) = 1 := by decide
      have hP : va_P D vwCl [(w, .inr (7, [.ref st, .ref hi, .ref re, .ref fo, .ref bu, .ref pa])), (hi, .inr (5, [.ref ri, .int 1, .int 1])), (ri, .inl (KS, 6, .inr (.inr (.inr (.inr rf))))), (zst, .inr (6, [.ref zla, .ref zme, .ref zli, .int tol, .int su, .int fa])), (zla, .inr (2, [.ref zld, .ref zlz])), (zld, .inr (4, [.ref zldA, .int 0])), (zlz, .inr (4, [.ref zlzA, .int 0])), (zme, .inr (4, [.ref zmeA, .int 0])), (zli, .inr (0, [.ref zln, .ref zll, .ref zlc])), (zln, .inr (4, [.ref zlnA, .int 0])), (zll, .inr (4, [.ref zllA, .int 0])), (zlc, .inr (4, [.ref zlcA, .int 0])), (st, .inr (6, [.ref la, .ref me, .ref li, .int tol, .int su, .int fa])), (la, .inr (2, [.ref ld, .ref lz])), (ld, .inr (4, [.ref ldA, .int 0])), (lz, .inr (4, [.ref lzA, .int 0])), (li, .inr (0, [.ref ln, .ref ll, .ref lc])), (ln, .inr (4, [.ref lnA, .int 0])), (ll, .inr (4, [.ref llA, .int 0])), (lc, .inr (4, [.ref lcA, .int 0])), (me, .inr (4, [.ref meA, .int 1])), (meA, .inl (K, 41, .inl (rowAdd 41 0 mf i)))] H := by rw [← hf_10]; exact hP
      have hD : va_D A [(w, .inr (7, [.ref st, .ref hi, .ref re, .ref fo, .ref bu, .ref pa])), (hi, .inr (5, [.ref ri, .int 1, .int 1])), (ri, .inl (KS, 6, .inr (.inr (.inr (.inr rf))))), (zst, .inr (6, [.ref zla, .ref zme, .ref zli, .int tol, .int su, .int fa])), (zla, .inr (2, [.ref zld, .ref zlz])), (zld, .inr (4, [.ref zldA, .int 0])), (zlz, .inr (4, [.ref zlzA, .int 0])), (zme, .inr (4, [.ref zmeA, .int 0])), (zli, .inr (0, [.ref zln, .ref zll, .ref zlc])), (zln, .inr (4, [.ref zlnA, .int 0])), (zll, .inr (4, [.ref zllA, .int 0])), (zlc, .inr (4, [.ref zlcA, .int 0])), (st, .inr (6, [.ref la, .ref me, .ref li, .int tol, .int su, .int fa])), (la, .inr (2, [.ref ld, .ref lz])), (ld, .inr (4, [.ref ldA, .int 0])), (lz, .inr (4, [.ref lzA, .int 0])), (li, .inr (0, [.ref ln, .ref ll, .ref lc])), (ln, .inr (4, [.ref lnA, .int 0])), (ll, .inr (4, [.ref llA, .int 0])), (lc, .inr (4, [.ref lcA, .int 0])), (me, .inr (4, [.ref meA, .int 1])), (meA, .inl (K, 41, .inl (rowAdd 41 0 mf i)))] := by rw [← hf_10]; exact hD
      refine lv_aload_n hx hb dX7_measure_67 rfl (lv_at hl 0 rfl) ?_
      refine va_get (D := D) (ci := 7) (v := .ref st) (C := RX7) (T := TX7) (N := 6) hx hb ht inA_X7 hown hK hP 0 rfl rfl 0 (by decide) (ht _ lf_X7_10) (fun _ h9 => h9) rfl dX7_measure_68 ?_
      refine va_get (D := D) (ci := 6) (v := .ref me) (C := RX6) (T := TX6) (N := 6) hx hb ht inA_X6 hown hK hP 12 rfl rfl 1 (by decide) (ht _ lf_X7_112) (fun _ h9 => h9) rfl dX7_measure_71 ?_
      have ct := k_cut_of (wc := [(me, .inr (4, [.ref meA, .int 1]))]) (wr := [(w, .inr (7, [.ref st, .ref hi, .ref re, .ref fo, .ref bu, .ref pa])), (hi, .inr (5, [.ref ri, .int 1, .int 1])), (ri, .inl (KS, 6, .inr (.inr (.inr (.inr rf))))), (zst, .inr (6, [.ref zla, .ref zme, .ref zli, .int tol, .int su, .int fa])), (zla, .inr (2, [.ref zld, .ref zlz])), (zld, .inr (4, [.ref zldA, .int 0])), (zlz, .inr (4, [.ref zlzA, .int 0])), (zme, .inr (4, [.ref zmeA, .int 0])), (zli, .inr (0, [.ref zln, .ref zll, .ref zlc])), (zln, .inr (4, [.ref zlnA, .int 0])), (zll, .inr (4, [.ref zllA, .int 0])), (zlc, .inr (4, [.ref zlcA, .int 0])), (st, .inr (6, [.ref la, .ref me, .ref li, .int tol, .int su, .int fa])), (la, .inr (2, [.ref ld, .ref lz])), (ld, .inr (4, [.ref ldA, .int 0])), (lz, .inr (4, [.ref lzA, .int 0])), (li, .inr (0, [.ref ln, .ref ll, .ref lc])), (ln, .inr (4, [.ref lnA, .int 0])), (ll, .inr (4, [.ref llA, .int 0])), (lc, .inr (4, [.ref lcA, .int 0])), (meA, .inl (K, 41, .inl (rowAdd 41 0 mf i)))]) (tc := []) hG hS hA hK hP hD [20] [0, 1, 2, 3, 4, 5, 6, 7, 8, 9, 10, 11, 12, 13, 14, 15, 16, 17, 18, 19, 21] [] rfl rfl (by decide) (by decide) (by decide) rfl
      refine k_endi (As := [.ref me]) ct (k_runV (As := []) (rest := []) S0 Lv_X7_136 rfl (ci := 4) (q0 := 0) rfl rfl ct (c_Row_size l D me meA 1 H.size) hl.1 rfl (Nat.le_of_ble_eq_true rfl) rfl dX7_measure_74 ⟨⟨Nat.le_of_ble_eq_true rfl, Nat.le_of_ble_eq_true rfl⟩, Nat.le_of_ble_eq_true rfl, Nat.le_of_ble_eq_true rfl⟩) rfl rfl (fun r_11 _ H locs hw_12 hP hD hK hS => ?_)
      have hK : va_K D vwCl [(K, .int), (KS, .object "BarcodeWand$State")] s := hK
      have hP : va_P D vwCl [(w, .inr (7, [.ref st, .ref hi, .ref re, .ref fo, .ref bu, .ref pa])), (hi, .inr (5, [.ref ri, .int 1, .int 1])), (ri, .inl (KS, 6, .inr (.inr (.inr (.inr rf))))), (zst, .inr (6, [.ref zla, .ref zme, .ref zli, .int tol, .int su, .int fa])), (zla, .inr (2, [.ref zld, .ref zlz])), (zld, .inr (4, [.ref zldA, .int 0])), (zlz, .inr (4, [.ref zlzA, .int 0])), (zme, .inr (4, [.ref zmeA, .int 0])), (zli, .inr (0, [.ref zln, .ref zll, .ref zlc])), (zln, .inr (4, [.ref zlnA, .int 0])), (zll, .inr (4, [.ref zllA, .int 0])), (zlc, .inr (4, [.ref zlcA, .int 0])), (st, .inr (6, [.ref la, .ref me, .ref li, .int tol, .int su, .int fa])), (la, .inr (2, [.ref ld, .ref lz])), (ld, .inr (4, [.ref ldA, .int 0])), (lz, .inr (4, [.ref lzA, .int 0])), (li, .inr (0, [.ref ln, .ref ll, .ref lc])), (ln, .inr (4, [.ref lnA, .int 0])), (ll, .inr (4, [.ref llA, .int 0])), (lc, .inr (4, [.ref lcA, .int 0])), (meA, .inl (K, 41, .inl (rowAdd 41 0 mf i))), (me, .inr (4, [.ref meA, .int 1]))] H := hP
      have hD : va_D A [(w, .inr (7, [.ref st, .ref hi, .ref re, .ref fo, .ref bu, .ref pa])), (hi, .inr (5, [.ref ri, .int 1, .int 1])), (ri, .inl (KS, 6, .inr (.inr (.inr (.inr rf))))), (zst, .inr (6, [.ref zla, .ref zme, .ref zli, .int tol, .int su, .int fa])), (zla, .inr (2, [.ref zld, .ref zlz])), (zld, .inr (4, [.ref zldA, .int 0])), (zlz, .inr (4, [.ref zlzA, .int 0])), (zme, .inr (4, [.ref zmeA, .int 0])), (zli, .inr (0, [.ref zln, .ref zll, .ref zlc])), (zln, .inr (4, [.ref zlnA, .int 0])), (zll, .inr (4, [.ref zllA, .int 0])), (zlc, .inr (4, [.ref zlcA, .int 0])), (st, .inr (6, [.ref la, .ref me, .ref li, .int tol, .int su, .int fa])), (la, .inr (2, [.ref ld, .ref lz])), (ld, .inr (4, [.ref ldA, .int 0])), (lz, .inr (4, [.ref lzA, .int 0])), (li, .inr (0, [.ref ln, .ref ll, .ref lc])), (ln, .inr (4, [.ref lnA, .int 0])), (ll, .inr (4, [.ref llA, .int 0])), (lc, .inr (4, [.ref lcA, .int 0])), (meA, .inl (K, 41, .inl (rowAdd 41 0 mf i))), (me, .inr (4, [.ref meA, .int 1]))] := hD
      have hw_12 : r_11 = 1 := hw_12
      have hw_12 := hw_12.symm
      subst hw_12
      refine k_nrm (y := 1) rfl ?_
      have hP9 : va_P D vwCl [(w, .inr (7, [.ref st, .ref hi, .ref re, .ref fo, .ref bu, .ref pa])), (hi, .inr (5, [.ref ri, .int 1, .int 1])), (ri, .inl (KS, 6, .inr (.inr (.inr (.inr rf))))), (zst, .inr (6, [.ref zla, .ref zme, .ref zli, .int tol, .int su, .int fa])), (zla, .inr (2, [.ref zld, .ref zlz])), (zld, .inr (4, [.ref zldA, .int 0])), (zlz, .inr (4, [.ref zlzA, .int 0])), (zme, .inr (4, [.ref zmeA, .int 0])), (zli, .inr (0, [.ref zln, .ref zll, .ref zlc])), (zln, .inr (4, [.ref zlnA, .int 0])), (zll, .inr (4, [.ref zllA, .int 0])), (zlc, .inr (4, [.ref zlcA, .int 0])), (st, .inr (6, [.ref la, .ref me, .ref li, .int tol, .int su, .int fa])), (la, .inr (2, [.ref ld, .ref lz])), (ld, .inr (4, [.ref ldA, .int 0])), (lz, .inr (4, [.ref lzA, .int 0])), (me, .inr (4, [.ref meA, .int 1])), (li, .inr (0, [.ref ln, .ref ll, .ref lc])), (ln, .inr (4, [.ref lnA, .int 0])), (ll, .inr (4, [.ref llA, .int 0])), (lc, .inr (4, [.ref lcA, .int 0])), (meA, .inl (K, 41, .inl (rowAdd 41 0 mf i)))] H := hP.sub [0, 1, 2, 3, 4, 5, 6, 7, 8, 9, 10, 11, 12, 13, 14, 15, 21, 16, 17, 18, 19, 20] rfl
      have hD9 : va_D A [(w, .inr (7, [.ref st, .ref hi, .ref re, .ref fo, .ref bu, .ref pa])), (hi, .inr (5, [.ref ri, .int 1, .int 1])), (ri, .inl (KS, 6, .inr (.inr (.inr (.inr rf))))), (zst, .inr (6, [.ref zla, .ref zme, .ref zli, .int tol, .int su, .int fa])), (zla, .inr (2, [.ref zld, .ref zlz])), (zld, .inr (4, [.ref zldA, .int 0])), (zlz, .inr (4, [.ref zlzA, .int 0])), (zme, .inr (4, [.ref zmeA, .int 0])), (zli, .inr (0, [.ref zln, .ref zll, .ref zlc])), (zln, .inr (4, [.ref zlnA, .int 0])), (zll, .inr (4, [.ref zllA, .int 0])), (zlc, .inr (4, [.ref zlcA, .int 0])), (st, .inr (6, [.ref la, .ref me, .ref li, .int tol, .int su, .int fa])), (la, .inr (2, [.ref ld, .ref lz])), (ld, .inr (4, [.ref ldA, .int 0])), (lz, .inr (4, [.ref lzA, .int 0])), (me, .inr (4, [.ref meA, .int 1])), (li, .inr (0, [.ref ln, .ref ll, .ref lc])), (ln, .inr (4, [.ref lnA, .int 0])), (ll, .inr (4, [.ref llA, .int 0])), (lc, .inr (4, [.ref lcA, .int 0])), (meA, .inl (K, 41, .inl (rowAdd 41 0 mf i)))] := hD.sub [0, 1, 2, 3, 4, 5, 6, 7, 8, 9, 10, 11, 12, 13, 14, 15, 21, 16, 17, 18, 19, 20] (by decide) rfl
      have hK9 : va_K D vwCl [] s := hK.sub [] rfl
      refine vx_ret ?_
      refine W.widen (k := 1) (n := 6) (by first | exact Nat.le_of_ble_eq_true rfl | omega) (by first | exact Nat.le_of_ble_eq_true rfl | omega) ?_
      exact W.iret (v := 1) hx hb hr (fun t ht9 hW9 => ⟨⟨1, (rowAdd 41 0 mf i), rfl, by exact ⟨⟨c_1, c_2⟩, rfl⟩, ⟨by rw [ht9]; exact hP9, va_K.moved hW9.alike hK9, hD9⟩⟩, hS.F ht9⟩) hS.2.2 dX7_measure_77
    · have hc9 := c_2
      obtain ⟨sa, hsa⟩ := hG.2.2.2.1 (122, "time is not 1 to 9999") (by decide +kernel)
      exact vx_throwS hx hb hst (own := RX7) (cls := "java/lang/IllegalArgumentException") (text := "time is not 1 to 9999") (names := ["java/lang/RuntimeException", "java/lang/Exception"]) (ik := 49) (is := 122) (ic := 53) (sa := sa) hown (by decide +kernel) (by decide +kernel) (ht _ lc_X7_49) (ht _ li_java_lang_IllegalArgumentException) hsa (vx_hat (fun w h => ht w (List.mem_filter.mpr ⟨lh_X7_53.1 w h, (List.mem_filter.mp h).2⟩)) lh_X7_53.2.1 (fun w h => va_Nw.use (k_NX_on (List.mem_filter.mp h).2) (hG.1 w (List.mem_filter.mp h).1 (List.mem_filter.mp h).2))) lh_X7_53.2.2 hG.2.1 hG.2.2.1 hS (by rw [hml]; exact hl.1) dX7_measure_12 dX7_measure_15 dX7_measure_16 dX7_measure_18 dX7_measure_21 (fun x h9 => (htab x h9).elim) (Nat.le_of_ble_eq_true rfl) (Nat.le_of_ble_eq_true rfl) (Nat.le_of_ble_eq_true rfl) (Nat.le_of_ble_eq_true rfl) hlocks (fun t hv9 hz9 hk9 => ⟨(), trivial, ⟨by exact ⟨rfl, fun h9 => c_2 h9.2⟩, (hP.sub [0, 1, 2, 3, 4, 5, 6, 7, 8, 9, 10, 11, 12, 13, 14, 15, 16, 17, 18, 19, 20, 21] rfl).kept (fun k q hk => hk9 _ (vx_lt (hP.sub [0, 1, 2, 3, 4, 5, 6, 7, 8, 9, 10, 11, 12, 13, 14, 15, 16, 17, 18, 19, 20, 21] rfl) hk)), va_K.moved hv9 (hK.sub [] rfl), hD.sub [0, 1, 2, 3, 4, 5, 6, 7, 8, 9, 10, 11, 12, 13, 14, 15, 16, 17, 18, 19, 20, 21] (by decide) rfl⟩, ⟨Nat.le_trans hS.1 hz9, fun q h1 h2 => (hk9 q (Nat.lt_of_lt_of_le h1 hS.1)).trans (hS.2.1 q h1 h2)⟩⟩) hS.2.2 (Nat.le_of_ble_eq_true rfl) (Nat.le_of_ble_eq_true rfl)
set_option maxHeartbeats 4000000 in
set_option maxRecDepth 100000 in
theorem c_W_setTol (l : Launch) (hst : l.stackTraces = false) (D : va_G) (w : Nat) (st : Nat) (hi : Nat) (re : Nat) (fo : Nat) (bu : Nat) (pa : Nat) (ri : Nat) (KS : ClassId) (rf : Nat → Option Nat) (zst : Nat) (zla : Nat) (zme : Nat) (zli : Nat) (ztol : Int32) (zsu : Int32) (zfa : Int32) (zld : Nat) (zlz : Nat) (zldA : Nat) (zldN : Int32) (zlzA : Nat) (zlzN : Int32) (zmeA : Nat) (zmeN : Int32) (zln : Nat) (zll : Nat) (zlc : Nat) (zlnA : Nat) (zlnN : Int32) (zllA : Nat) (zllN : Int32) (zlcA : Nat) (zlcN : Int32) (la : Nat) (me : Nat) (li : Nat) (tol : Int32) (su : Int32) (fa : Int32) (ld : Nat) (lz : Nat) (ldA : Nat) (lzA : Nat) (meA : Nat) (ln : Nat) (ll : Nat) (lc : Nat) (lnA : Nat) (llA : Nat) (lcA : Nat) (i : Int32) (hrf : rf 0 = some zst) (sz : Nat) : k_Xi (S := Unit) l D yX7_setTolerance cX7_setTolerance 3 (some .int) 6 1 6 126 [.ref w, .int i] [(w, .inr (7, [.ref st, .ref hi, .ref re, .ref fo, .ref bu, .ref pa])), (hi, .inr (5, [.ref ri, .int 0, .int 0])), (ri, .inl (KS, 6, .inr (.inr (.inr (.inr rf))))), (zst, .inr (6, [.ref zla, .ref zme, .ref zli, .int ztol, .int zsu, .int zfa])), (zla, .inr (2, [.ref zld, .ref zlz])), (zld, .inr (4, [.ref zldA, .int zldN])), (zlz, .inr (4, [.ref zlzA, .int zlzN])), (zme, .inr (4, [.ref zmeA, .int zmeN])), (zli, .inr (0, [.ref zln, .ref zll, .ref zlc])), (zln, .inr (4, [.ref zlnA, .int zlnN])), (zll, .inr (4, [.ref zllA, .int zllN])), (zlc, .inr (4, [.ref zlcA, .int zlcN])), (st, .inr (6, [.ref la, .ref me, .ref li, .int tol, .int su, .int fa])), (la, .inr (2, [.ref ld, .ref lz])), (ld, .inr (4, [.ref ldA, .int 0])), (lz, .inr (4, [.ref lzA, .int 0])), (me, .inr (4, [.ref meA, .int 0])), (li, .inr (0, [.ref ln, .ref ll, .ref lc])), (ln, .inr (4, [.ref lnA, .int 0])), (ll, .inr (4, [.ref llA, .int 0])), (lc, .inr (4, [.ref lcA, .int 0]))] [(KS, .object "BarcodeWand$State")] (fun (r : Int32) (_ : Unit) => k_tol i ∧ r = tol) (fun _ => [(w, .inr (7, [.ref st, .ref hi, .ref re, .ref fo, .ref bu, .ref pa])), (hi, .inr (5, [.ref ri, .int 1, .int 1])), (ri, .inl (KS, 6, .inr (.inr (.inr (.inr rf))))), (zst, .inr (6, [.ref zla, .ref zme, .ref zli, .int tol, .int su, .int fa])), (zla, .inr (2, [.ref zld, .ref zlz])), (zld, .inr (4, [.ref zldA, .int 0])), (zlz, .inr (4, [.ref zlzA, .int 0])), (zme, .inr (4, [.ref zmeA, .int 0])), (zli, .inr (0, [.ref zln, .ref zll, .ref zlc])), (zln, .inr (4, [.ref zlnA, .int 0])), (zll, .inr (4, [.ref zllA, .int 0])), (zlc, .inr (4, [.ref zlcA, .int 0])), (st, .inr (6, [.ref la, .ref me, .ref li, .int i, .int su, .int fa])), (la, .inr (2, [.ref ld, .ref lz])), (ld, .inr (4, [.ref ldA, .int 0])), (lz, .inr (4, [.ref lzA, .int 0])), (me, .inr (4, [.ref meA, .int 0])), (li, .inr (0, [.ref ln, .ref ll, .ref lc])), (ln, .inr (4, [.ref lnA, .int 0])), (ll, .inr (4, [.ref llA, .int 0])), (lc, .inr (4, [.ref lcA, .int 0]))]) (fun _ => []) (fun E => E = "java/lang/IllegalArgumentException" ∧ ¬ k_tol i) sz := by
  refine vx_ofW (cc := cX7_setTolerance) (maxL := 3) (ret := (some .int)) (by decide) rfl ?_
  intro p e s m args below meth c s₁ B hml htab hv
  obtain ⟨rfl, hsz, hP, hK, hD0, hG⟩ := hv
  have hx := B.exec
  have hb := B.bytes
  have hr := B.returns
  have ht : ∀ v9 ∈ wsA, v9.before ([.ref w, .int i] : List Value).toArray s = true := fun v9 h9 => atoms_spec (ws := k_ws yX7_setTolerance cX7_setTolerance 3 (some .int)) B.pre v9 (List.mem_cons_of_mem _ h9)
  have hown : s.vm.findClass RX7 = some m.cls := findClass_of_methodNamed B.named
  have S0 : k_C p s m ([.ref w, .int i] : List Value).toArray c cX7_setTolerance 3 RX7 := ⟨hx, hb, hml, hown, ht⟩
  have hlocks := B.notSynchronized
  subst hsz
  have hD := hD0.self (sz := s.heap.size)
  unfold k_X
  generalize hAe : va_A [(w, .inr (7, [.ref st, .ref hi, .ref re, .ref fo, .ref bu, .ref pa])), (hi, .inr (5, [.ref ri, .int 0, .int 0])), (ri, .inl (KS, 6, .inr (.inr (.inr (.inr rf))))), (zst, .inr (6, [.ref zla, .ref zme, .ref zli, .int ztol, .int zsu, .int zfa])), (zla, .inr (2, [.ref zld, .ref zlz])), (zld, .inr (4, [.ref zldA, .int zldN])), (zlz, .inr (4, [.ref zlzA, .int zlzN])), (zme, .inr (4, [.ref zmeA, .int zmeN])), (zli, .inr (0, [.ref zln, .ref zll, .ref zlc])), (zln, .inr (4, [.ref zlnA, .int zlnN])), (zll, .inr (4, [.ref zllA, .int zllN])), (zlc, .inr (4, [.ref zlcA, .int zlcN])), (st, .inr (6, [.ref la, .ref me, .ref li, .int tol, .int su, .int fa])), (la, .inr (2, [.ref ld, .ref lz])), (ld, .inr (4, [.ref ldA, .int 0])), (lz, .inr (4, [.ref lzA, .int 0])), (me, .inr (4, [.ref meA, .int 0])), (li, .inr (0, [.ref ln, .ref ll, .ref lc])), (ln, .inr (4, [.ref lnA, .int 0])), (ll, .inr (4, [.ref llA, .int 0])), (lc, .inr (4, [.ref lcA, .int 0]))] s.heap.size = A at hD hG ⊢
  have hA : ∀ q : Nat, s.heap.size ≤ q → A q := fun q h => by rw [← hAe]; exact Or.inr h
  have hS : va_S A s.heap s.heap [] := va_S.rf
  have hl := lv_entry ([.ref w, .int i]) (n := 3) (Nat.le_of_ble_eq_true rfl)
  rw [lg_entry_eq]
  generalize (lg_sl ([.ref w, .int i]) ++ List.replicate (3 - (lg_sl ([.ref w, .int i])).length) Slot.unset).toArray = ls at hl ⊢
  have hl : lv_has ls 3 [(0, .ref w), (1, .int i)] := hl
  have hP : va_P D vwCl [(w, .inr (7, [.ref st, .ref hi, .ref re, .ref fo, .ref bu, .ref pa])), (hi, .inr (5, [.ref ri, .int 0, .int 0])), (ri, .inl (KS, 6, .inr (.inr (.inr (.inr rf))))), (zst, .inr (6, [.ref zla, .ref zme, .ref zli, .int ztol, .int zsu, .int zfa])), (zla, .inr (2, [.ref zld, .ref zlz])), (zld, .inr (4, [.ref zldA, .int zldN])), (zlz, .inr (4, [.ref zlzA, .int zlzN])), (zme, .inr (4, [.ref zmeA, .int zmeN])), (zli, .inr (0, [.ref zln, .ref zll, .ref zlc])), (zln, .inr (4, [.ref zlnA, .int zlnN])), (zll, .inr (4, [.ref zllA, .int zllN])), (zlc, .inr (4, [.ref zlcA, .int zlcN])), (st, .inr (6, [.ref la, .ref me, .ref li, .int tol, .int su, .int fa])), (la, .inr (2, [.ref ld, .ref lz])), (ld, .inr (4, [.ref ldA, .int 0])), (lz, .inr (4, [.ref lzA, .int 0])), (me, .inr (4, [.ref meA, .int 0])), (li, .inr (0, [.ref ln, .ref ll, .ref lc])), (ln, .inr (4, [.ref lnA, .int 0])), (ll, .inr (4, [.ref llA, .int 0])), (lc, .inr (4, [.ref lcA, .int 0]))] s.heap := hP
  refine lv_iload_n hx hb dX7_setTolerance_0 rfl (lv_at hl 1 rfl) ?_
  refine lv_iconst (v := 1) hx hb dX7_setTolerance_1 (by decide) ?_
  refine lv_icmp_lt (tgt := 11) hx hb dX7_setTolerance_2 (by decide) (fun c_1 => ?_) (fun c_1 => ?_)
  · have hc9 := c_1
    obtain ⟨sa, hsa⟩ := hG.2.2.2.1 (142, "tolerance is not 1 to 8") (by decide +kernel)
    exact vx_throwS hx hb hst (own := RX7) (cls := "java/lang/IllegalArgumentException") (text := "tolerance is not 1 to 8") (names := ["java/lang/RuntimeException", "java/lang/Exception"]) (ik := 49) (is := 142) (ic := 53) (sa := sa) hown (by decide +kernel) (by decide +kernel) (ht _ lc_X7_49) (ht _ li_java_lang_IllegalArgumentException) hsa (vx_hat (fun w h => ht w (List.mem_filter.mpr ⟨lh_X7_53.1 w h, (List.mem_filter.mp h).2⟩)) lh_X7_53.2.1 (fun w h => va_Nw.use (k_NX_on (List.mem_filter.mp h).2) (hG.1 w (List.mem_filter.mp h).1 (List.mem_filter.mp h).2))) lh_X7_53.2.2 hG.2.1 hG.2.2.1 hS (by rw [hml]; exact hl.1) dX7_setTolerance_11 dX7_setTolerance_14 dX7_setTolerance_15 dX7_setTolerance_17 dX7_setTolerance_20 (fun x h9 => (htab x h9).elim) (Nat.le_of_ble_eq_true rfl) (Nat.le_of_ble_eq_true rfl) (Nat.le_of_ble_eq_true rfl) (Nat.le_of_ble_eq_true rfl) hlocks (fun t hv9 hz9 hk9 => ⟨(), trivial, ⟨by exact ⟨rfl, fun h9 => h9.1 c_1⟩, (hP.sub [0, 1, 2, 3, 4, 5, 6, 7, 8, 9, 10, 11, 12, 13, 14, 15, 16, 17, 18, 19, 20] rfl).kept (fun k q hk => hk9 _ (vx_lt (hP.sub [0, 1, 2, 3, 4, 5, 6, 7, 8, 9, 10, 11, 12, 13, 14, 15, 16, 17, 18, 19, 20] rfl) hk)), va_K.moved hv9 (hK.sub [] rfl), hD.sub [0, 1, 2, 3, 4, 5, 6, 7, 8, 9, 10, 11, 12, 13, 14, 15, 16, 17, 18, 19, 20] (by decide) rfl⟩, ⟨Nat.le_trans hS.1 hz9, fun q h1 h2 => (hk9 q (Nat.lt_of_lt_of_le h1 hS.1)).trans (hS.2.1 q h1 h2)⟩⟩) hS.2.2 (Nat.le_of_ble_eq_true rfl) (Nat.le_of_ble_eq_true rfl)
  · have hc9 := c_1
    refine lv_iload_n hx hb dX7_setTolerance_5 rfl (lv_at hl 1 rfl) ?_
    refine lv_bipush (v := 8) hx hb dX7_setTolerance_6 (by decide) ?_
    refine lv_icmp_le (tgt := 21) hx hb dX7_setTolerance_8 (by decide) (fun c_2 => ?_) (fun c_2 => ?_)
    · have hc9 := c_2
      refine lv_aload_n hx hb dX7_setTolerance_21 rfl (lv_at hl 0 rfl) ?_
      refine va_get (D := D) (ci := 7) (v := .ref hi) (C := RX7) (T := TX7) (N := 6) hx hb ht inA_X7 hown hK hP 0 rfl rfl 1 (by decide) (ht _ lf_X7_19) (fun _ h9 => h9) rfl dX7_setTolerance_22 ?_
      refine lv_aload_n hx hb dX7_setTolerance_25 rfl (lv_at hl 0 rfl) ?_
      refine va_get (D := D) (ci := 7) (v := .ref st) (C := RX7) (T := TX7) (N := 6) hx hb ht inA_X7 hown hK hP 0 rfl rfl 0 (by decide) (ht _ lf_X7_10) (fun _ h9 => h9) rfl dX7_setTolerance_26 ?_
      have ct := k_cut_of (wc := [(hi, .inr (5, [.ref ri, .int 0, .int 0])), (ri, .inl (KS, 6, .inr (.inr (.inr (.inr rf))))), (zst, .inr (6, [.ref zla, .ref zme, .ref zli, .int ztol, .int zsu, .int zfa])), (zla, .inr (2, [.ref zld, .ref zlz])), (zld, .inr (4, [.ref zldA, .int zldN])), (zlz, .inr (4, [.ref zlzA, .int zlzN])), (zme, .inr (4, [.ref zmeA, .int zmeN])), (zli, .inr (0, [.ref zln, .ref zll, .ref zlc])), (zln, .inr (4, [.ref zlnA, .int zlnN])), (zll, .inr (4, [.ref zllA, .int zllN])), (zlc, .inr (4, [.ref zlcA, .int zlcN])), (st, .inr (6, [.ref la, .ref me, .ref li, .int tol, .int su, .int fa])), (la, .inr (2, [.ref ld, .ref lz])), (ld, .inr (4, [.ref ldA, .int 0])), (lz, .inr (4, [.ref lzA, .int 0])), (me, .inr (4, [.ref meA, .int 0])), (li, .inr (0, [.ref ln, .ref ll, .ref lc])), (ln, .inr (4, [.ref lnA, .int 0])), (ll, .inr (4, [.ref llA, .int 0])), (lc, .inr (4, [.ref lcA, .int 0]))]) (wr := [(w, .inr (7, [.ref st, .ref hi, .ref re, .ref fo, .ref bu, .ref pa]))]) (tc := [(KS, .object "BarcodeWand$State")]) hG hS hA hK hP hD [1, 2, 3, 4, 5, 6, 7, 8, 9, 10, 11, 12, 13, 14, 15, 16, 17, 18, 19, 20] [0] [0] rfl rfl (by decide) (by decide) (by decide) rfl
      refine k_endv (As := [.ref hi, .ref st]) ct (k_runV (As := [.ref st]) (rest := []) S0 Lv_X7_62 rfl (ci := 5) (q0 := 0) rfl rfl ct (c_Saved_save0 l D hi ri KS rf zst zla zme zli ztol zsu zfa zld zlz zldA zldN zlzA zlzN zmeA zmeN zln zll zlc zlnA zlnN zllA zllN zlcA zlcN st la me li tol su fa ld lz ldA lzA meA ln ll lc lnA llA lcA (by assumption) s.heap.size) hl.1 rfl (Nat.le_of_ble_eq_true rfl) rfl dX7_setTolerance_29 ⟨⟨Nat.le_of_ble_eq_true rfl, Nat.le_of_ble_eq_true rfl⟩, Nat.le_of_ble_eq_true rfl, Nat.le_of_ble_eq_true rfl⟩) rfl rfl (fun _ _ H locs hw_4 hP hD hK hS => ?_)
      have hK : va_K D vwCl [(KS, .object "BarcodeWand$State")] s := hK
      have hP : va_P D vwCl [(w, .inr (7, [.ref st, .ref hi, .ref re, .ref fo, .ref bu, .ref pa])), (hi, .inr (5, [.ref ri, .int 1, .int 1])), (ri, .inl (KS, 6, .inr (.inr (.inr (.inr rf))))), (zst, .inr (6, [.ref zla, .ref zme, .ref zli, .int tol, .int su, .int fa])), (zla, .inr (2, [.ref zld, .ref zlz])), (zld, .inr (4, [.ref zldA, .int 0])), (zlz, .inr (4, [.ref zlzA, .int 0])), (zme, .inr (4, [.ref zmeA, .int 0])), (zli, .inr (0, [.ref zln, .ref zll, .ref zlc])), (zln, .inr (4, [.ref zlnA, .int 0])), (zll, .inr (4, [.ref zllA, .int 0])), (zlc, .inr (4, [.ref zlcA, .int 0])), (st, .inr (6, [.ref la, .ref me, .ref li, .int tol, .int su, .int fa])), (la, .inr (2, [.ref ld, .ref lz])), (ld, .inr (4, [.ref ldA, .int 0])), (lz, .inr (4, [.ref lzA, .int 0])), (me, .inr (4, [.ref meA, .int 0])), (li, .inr (0, [.ref ln, .ref ll, .ref lc])), (ln, .inr (4, [.ref lnA, .int 0])), (ll, .inr (4, [.ref llA, .int 0])), (lc, .inr (4, [.ref lcA, .int 0]))] H := hP
      have hD : va_D A [(w, .inr (7, [.ref st, .ref hi, .ref re, .ref fo, .ref bu, .ref pa])), (hi, .inr (5, [.ref ri, .int 1, .int 1])), (ri, .inl (KS, 6, .inr (.inr (.inr (.inr rf))))), (zst, .inr (6, [.ref zla, .ref zme, .ref zli, .int tol, .int su, .int fa])), (zla, .inr (2, [.ref zld, .ref zlz])), (zld, .inr (4, [.ref zldA, .int 0])), (zlz, .inr (4, [.ref zlzA, .int 0])), (zme, .inr (4, [.ref zmeA, .int 0])), (zli, .inr (0, [.ref zln, .ref zll, .ref zlc])), (zln, .inr (4, [.ref zlnA, .int 0])), (zll, .inr (4, [.ref zllA, .int 0])), (zlc, .inr (4, [.ref zlcA, .int 0])), (st, .inr (6, [.ref la, .ref me, .ref li, .int tol, .int su, .int fa])), (la, .inr (2, [.ref ld, .ref lz])), (ld, .inr (4, [.ref ldA, .int 0])), (lz, .inr (4, [.ref lzA, .int 0])), (me, .inr (4, [.ref meA, .int 0])), (li, .inr (0, [.ref ln, .ref ll, .ref lc])), (ln, .inr (4, [.ref lnA, .int 0])), (ll, .inr (4, [.ref llA, .int 0])), (lc, .inr (4, [.ref lcA, .int 0]))] := hD
      refine lv_aload_n hx hb dX7_setTolerance_32 rfl (lv_at hl 0 rfl) ?_
      refine va_get (D := D) (ci := 7) (v := .ref st) (C := RX7) (T := TX7) (N := 6) hx hb ht inA_X7 hown hK hP 0 rfl rfl 0 (by decide) (ht _ lf_X7_10) (fun _ h9 => h9) rfl dX7_setTolerance_33 ?_
      refine va_get (D := D) (ci := 6) (v := .int tol) (C := RX6) (T := TX6) (N := 6) hx hb ht inA_X6 hown hK hP 12 rfl rfl 3 (by decide) (ht _ lf_X7_144) (fun _ h9 => h9) rfl dX7_setTolerance_36 ?_
      refine lv_istore_n (lv' := [(2, .int tol), (0, .ref w), (1, .int i)]) hx hb dX7_setTolerance_39 rfl hl (by decide) rfl (fun ls hl => ?_)
      refine lv_aload_n hx hb dX7_setTolerance_40 rfl (lv_at hl 1 rfl) ?_
      refine va_get (D := D) (ci := 7) (v := .ref st) (C := RX7) (T := TX7) (N := 6) hx hb ht inA_X7 hown hK hP 0 rfl rfl 0 (by decide) (ht _ lf_X7_10) (fun _ h9 => h9) rfl dX7_setTolerance_41 ?_
      refine lv_iload_n hx hb dX7_setTolerance_44 rfl (lv_at hl 2 rfl) ?_
      refine va_put (D := D) (ci := 6) (v := .int i) (ty := .int) (C := RX6) (T := TX6) (N := 6) hx hb ht inA_X6 tyX6 tyX6_ok nmX6 hown hK hP hD hS 12 rfl rfl 3 (by decide) (ht _ lf_X7_144) (fun _ h9 => h9) rfl (tyX6_ok 3 (by decide)) rfl rfl (Nat.le_of_ble_eq_true rfl) dX7_setTolerance_45 (fun H locs hP hD hS => ?_)
      have hP : va_P D vwCl [(w, .inr (7, [.ref st, .ref hi, .ref re, .ref fo, .ref bu, .ref pa])), (hi, .inr (5, [.ref ri, .int 1, .int 1])), (ri, .inl (KS, 6, .inr (.inr (.inr (.inr rf))))), (zst, .inr (6, [.ref zla, .ref zme, .ref zli, .int tol, .int su, .int fa])), (zla, .inr (2, [.ref zld, .ref zlz])), (zld, .inr (4, [.ref zldA, .int 0])), (zlz, .inr (4, [.ref zlzA, .int 0])), (zme, .inr (4, [.ref zmeA, .int 0])), (zli, .inr (0, [.ref zln, .ref zll, .ref zlc])), (zln, .inr (4, [.ref zlnA, .int 0])), (zll, .inr (4, [.ref zllA, .int 0])), (zlc, .inr (4, [.ref zlcA, .int 0])), (st, .inr (6, [.ref la, .ref me, .ref li, .int i, .int su, .int fa])), (la, .inr (2, [.ref ld, .ref lz])), (ld, .inr (4, [.ref ldA, .int 0])), (lz, .inr (4, [.ref lzA, .int 0])), (me, .inr (4, [.ref meA, .int 0])), (li, .inr (0, [.ref ln, .ref ll, .ref lc])), (ln, .inr (4, [.ref lnA, .int 0])), (ll, .inr (4, [.ref llA, .int 0])), (lc, .inr (4, [.ref lcA, .int 0]))] H := hP
      have hD : va_D A [(w, .inr (7, [.ref st, .ref hi, .ref re, .ref fo, .ref bu, .ref pa])), (hi, .inr (5, [.ref ri, .int 1, .int 1])), (ri, .inl (KS, 6, .inr (.inr (.inr (.inr rf))))), (zst, .inr (6, [.ref zla, .ref zme, .ref zli, .int tol, .int su, .int fa])), (zla, .inr (2, [.ref zld, .ref zlz])), (zld, .inr (4, [.ref zldA, .int 0])), (zlz, .inr (4, [.ref zlzA, .int 0])), (zme, .inr (4, [.ref zmeA, .int 0])), (zli, .inr (0, [.ref zln, .ref zll, .ref zlc])), (zln, .inr (4, [.ref zlnA, .int 0])), (zll, .inr (4, [.ref zllA, .int 0])), (zlc, .inr (4, [.ref zlcA, .int 0])), (st, .inr (6, [.ref la, .ref me, .ref li, .int i, .int su, .int fa])), (la, .inr (2, [.ref ld, .ref lz])), (ld, .inr (4, [.ref ldA, .int 0])), (lz, .inr (4, [.ref lzA, .int 0])), (me, .inr (4, [.ref meA, .int 0])), (li, .inr (0, [.ref ln, .ref ll, .ref lc])), (ln, .inr (4, [.ref lnA, .int 0])), (ll, .inr (4, [.ref llA, .int 0])), (lc, .inr (4, [.ref lcA, .int 0]))] := hD
      refine lv_iload_n hx hb dX7_setTolerance_48 rfl (lv_at hl 0 rfl) ?_
      have hP9 : va_P D vwCl [(w, .inr (7, [.ref st, .ref hi, .ref re, .ref fo, .ref bu, .ref pa])), (hi, .inr (5, [.ref ri, .int 1, .int 1])), (ri, .inl (KS, 6, .inr (.inr (.inr (.inr rf))))), (zst, .inr (6, [.ref zla, .ref zme, .ref zli, .int tol, .int su, .int fa])), (zla, .inr (2, [.ref zld, .ref zlz])), (zld, .inr (4, [.ref zldA, .int 0])), (zlz, .inr (4, [.ref zlzA, .int 0])), (zme, .inr (4, [.ref zmeA, .int 0])), (zli, .inr (0, [.ref zln, .ref zll, .ref zlc])), (zln, .inr (4, [.ref zlnA, .int 0])), (zll, .inr (4, [.ref zllA, .int 0])), (zlc, .inr (4, [.ref zlcA, .int 0])), (st, .inr (6, [.ref la, .ref me, .ref li, .int i, .int su, .int fa])), (la, .inr (2, [.ref ld, .ref lz])), (ld, .inr (4, [.ref ldA, .int 0])), (lz, .inr (4, [.ref lzA, .int 0])), (me, .inr (4, [.ref meA, .int 0])), (li, .inr (0, [.ref ln, .ref ll, .ref lc])), (ln, .inr (4, [.ref lnA, .int 0])), (ll, .inr (4, [.ref llA, .int 0])), (lc, .inr (4, [.ref lcA, .int 0]))] H := hP.sub [0, 1, 2, 3, 4, 5, 6, 7, 8, 9, 10, 11, 12, 13, 14, 15, 16, 17, 18, 19, 20] rfl
      have hD9 : va_D A [(w, .inr (7, [.ref st, .ref hi, .ref re, .ref fo, .ref bu, .ref pa])), (hi, .inr (5, [.ref ri, .int 1, .int 1])), (ri, .inl (KS, 6, .inr (.inr (.inr (.inr rf))))), (zst, .inr (6, [.ref zla, .ref zme, .ref zli, .int tol, .int su, .int fa])), (zla, .inr (2, [.ref zld, .ref zlz])), (zld, .inr (4, [.ref zldA, .int 0])), (zlz, .inr (4, [.ref zlzA, .int 0])), (zme, .inr (4, [.ref zmeA, .int 0])), (zli, .inr (0, [.ref zln, .ref zll, .ref zlc])), (zln, .inr (4, [.ref zlnA, .int 0])), (zll, .inr (4, [.ref zllA, .int 0])), (zlc, .inr (4, [.ref zlcA, .int 0])), (st, .inr (6, [.ref la, .ref me, .ref li, .int i, .int su, .int fa])), (la, .inr (2, [.ref ld, .ref lz])), (ld, .inr (4, [.ref ldA, .int 0])), (lz, .inr (4, [.ref lzA, .int 0])), (me, .inr (4, [.ref meA, .int 0])), (li, .inr (0, [.ref ln, .ref ll, .ref lc])), (ln, .inr (4, [.ref lnA, .int 0])), (ll, .inr (4, [.ref llA, .int 0])), (lc, .inr (4, [.ref lcA, .int 0]))] := hD.sub [0, 1, 2, 3, 4, 5, 6, 7, 8, 9, 10, 11, 12, 13, 14, 15, 16, 17, 18, 19, 20] (by decide) rfl
      have hK9 : va_K D vwCl [] s := hK.sub [] rfl
      refine vx_ret ?_
      refine W.widen (k := 1) (n := 6) (by first | exact Nat.le_of_ble_eq_true rfl | omega) (by first | exact Nat.le_of_ble_eq_true rfl | omega) ?_
      exact W.iret (v := tol) hx hb hr (fun t ht9 hW9 => ⟨⟨tol, (), rfl, by exact ⟨⟨c_1, c_2⟩, rfl⟩, ⟨by rw [ht9]; exact hP9, va_K.moved hW9.alike hK9, hD9⟩⟩, hS.F ht9⟩) hS.2.2 dX7_setTolerance_49
    · have hc9 := c_2
      obtain ⟨sa, hsa⟩ := hG.2.2.2.1 (142, "tolerance is not 1 to 8") (by decide +kernel)
      exact vx_throwS hx hb hst (own := RX7) (cls := "java/lang/IllegalArgumentException") (text := "tolerance is not 1 to 8") (names := ["java/lang/RuntimeException", "java/lang/Exception"]) (ik := 49) (is := 142) (ic := 53) (sa := sa) hown (by decide +kernel) (by decide +kernel) (ht _ lc_X7_49) (ht _ li_java_lang_IllegalArgumentException) hsa (vx_hat (fun w h => ht w (List.mem_filter.mpr ⟨lh_X7_53.1 w h, (List.mem_filter.mp h).2⟩)) lh_X7_53.2.1 (fun w h => va_Nw.use (k_NX_on (List.mem_filter.mp h).2) (hG.1 w (List.mem_filter.mp h).1 (List.mem_filter.mp h).2))) lh_X7_53.2.2 hG.2.1 hG.2.2.1 hS (by rw [hml]; exact hl.1) dX7_setTolerance_11 dX7_setTolerance_14 dX7_setTolerance_15 dX7_setTolerance_17 dX7_setTolerance_20 (fun x h9 => (htab x h9).elim) (Nat.le_of_ble_eq_true rfl) (Nat.le_of_ble_eq_true rfl) (Nat.le_of_ble_eq_true rfl) (Nat.le_of_ble_eq_true rfl) hlocks (fun t hv9 hz9 hk9 => ⟨(), trivial, ⟨by exact ⟨rfl, fun h9 => c_2 h9.2⟩, (hP.sub [0, 1, 2, 3, 4, 5, 6, 7, 8, 9, 10, 11, 12, 13, 14, 15, 16, 17, 18, 19, 20] rfl).kept (fun k q hk => hk9 _ (vx_lt (hP.sub [0, 1, 2, 3, 4, 5, 6, 7, 8, 9, 10, 11, 12, 13, 14, 15, 16, 17, 18, 19, 20] rfl) hk)), va_K.moved hv9 (hK.sub [] rfl), hD.sub [0, 1, 2, 3, 4, 5, 6, 7, 8, 9, 10, 11, 12, 13, 14, 15, 16, 17, 18, 19, 20] (by decide) rfl⟩, ⟨Nat.le_trans hS.1 hz9, fun q h1 h2 => (hk9 q (Nat.lt_of_lt_of_le h1 hS.1)).trans (hS.2.1 q h1 h2)⟩⟩) hS.2.2 (Nat.le_of_ble_eq_true rfl) (Nat.le_of_ble_eq_true rfl)
set_option maxHeartbeats 4000000 in
set_option maxRecDepth 100000 in
theorem c_W_append (l : Launch) (hst : l.stackTraces = false) (D : va_G) (w : Nat) (st : Nat) (hi : Nat) (re : Nat) (fo : Nat) (bu : Nat) (pa : Nat) (buA : Nat) (K : ClassId) (bf : Nat → Int32) (i : Int32) (sz : Nat) : k_Xi (S := Nat → Int32) l D yX7_append cX7_append 2 (some .int) 6 1 6 82 [.ref w, .int i] [(w, .inr (7, [.ref st, .ref hi, .ref re, .ref fo, .ref bu, .ref pa])), (bu, .inr (4, [.ref buA, .int 0])), (buA, .inl (K, 60, .inl bf))] [(K, .int)] (fun (r : Int32) (bg : Nat → Int32) => k_chr i ∧ r = 1) (fun bg => [(w, .inr (7, [.ref st, .ref hi, .ref re, .ref fo, .ref bu, .ref pa])), (bu, .inr (4, [.ref buA, .int 1])), (buA, .inl (K, 60, .inl bg))]) (fun bg => []) (fun E => E = "java/lang/IllegalArgumentException" ∧ ¬ k_chr i) sz := by
  refine vx_ofW (cc := cX7_append) (maxL := 2) (ret := (some .int)) (by decide) rfl ?_
  intro p e s m args below meth c s₁ B hml htab hv
  obtain ⟨rfl, hsz, hP, hK, hD0, hG⟩ := hv
  have hx := B.exec
  have hb := B.bytes
  have hr := B.returns
  have ht : ∀ v9 ∈ wsA, v9.before ([.ref w, .int i] : List Value).toArray s = true := fun v9 h9 => atoms_spec (ws := k_ws yX7_append cX7_append 2 (some .int)) B.pre v9 (List.mem_cons_of_mem _ h9)
  have hown : s.vm.findClass RX7 = some m.cls := findClass_of_methodNamed B.named
  have S0 : k_C p s m ([.ref w, .int i] : List Value).toArray c cX7_append 2 RX7 := ⟨hx, hb, hml, hown, ht⟩
  have hlocks := B.notSynchronized
  subst hsz
  have hD := hD0.self (sz := s.heap.size)
  unfold k_X
  generalize hAe : va_A [(w, .inr (7, [.ref st, .ref hi, .ref re, .ref fo, .ref bu, .ref pa])), (bu, .inr (4, [.ref buA, .int 0])), (buA, .inl (K, 60, .inl bf))] s.heap.size = A at hD hG ⊢
  have hA : ∀ q : Nat, s.heap.size ≤ q → A q := fun q h => by rw [← hAe]; exact Or.inr h
  have hS : va_S A s.heap s.heap [] := va_S.rf
  have hl := lv_entry ([.ref w, .int i]) (n := 2) (Nat.le_of_ble_eq_true rfl)
  rw [lg_entry_eq]
  generalize (lg_sl ([.ref w, .int i]) ++ List.replicate (2 - (lg_sl ([.ref w, .int i])).length) Slot.unset).toArray = ls at hl ⊢
  have hl : lv_has ls 2 [(0, .ref w), (1, .int i)] := hl
  have hP : va_P D vwCl [(w, .inr (7, [.ref st, .ref hi, .ref re, .ref fo, .ref bu, .ref pa])), (bu, .inr (4, [.ref buA, .int 0])), (buA, .inl (K, 60, .inl bf))] s.heap := hP
  refine lv_iload_n hx hb dX7_append_0 rfl (lv_at hl 1 rfl) ?_
  refine lv_bipush (v := 33) hx hb dX7_append_1 (by decide) ?_
  refine lv_icmp_lt (tgt := 12) hx hb dX7_append_3 (by decide) (fun c_1 => ?_) (fun c_1 => ?_)
  · have hc9 := c_1
    obtain ⟨sa, hsa⟩ := hG.2.2.2.1 (202, "code is not 33 to 126") (by decide +kernel)
    exact vx_throwS hx hb hst (own := RX7) (cls := "java/lang/IllegalArgumentException") (text := "code is not 33 to 126") (names := ["java/lang/RuntimeException", "java/lang/Exception"]) (ik := 49) (is := 202) (ic := 53) (sa := sa) hown (by decide +kernel) (by decide +kernel) (ht _ lc_X7_49) (ht _ li_java_lang_IllegalArgumentException) hsa (vx_hat (fun w h => ht w (List.mem_filter.mpr ⟨lh_X7_53.1 w h, (List.mem_filter.mp h).2⟩)) lh_X7_53.2.1 (fun w h => va_Nw.use (k_NX_on (List.mem_filter.mp h).2) (hG.1 w (List.mem_filter.mp h).1 (List.mem_filter.mp h).2))) lh_X7_53.2.2 hG.2.1 hG.2.2.1 hS (by rw [hml]; exact hl.1) dX7_append_12 dX7_append_15 dX7_append_16 dX7_append_18 dX7_append_21 (fun x h9 => (htab x h9).elim) (Nat.le_of_ble_eq_true rfl) (Nat.le_of_ble_eq_true rfl) (Nat.le_of_ble_eq_true rfl) (Nat.le_of_ble_eq_true rfl) hlocks (fun t hv9 hz9 hk9 => ⟨(), trivial, ⟨by exact ⟨rfl, fun h9 => h9.1 c_1⟩, (hP.sub [0, 1, 2] rfl).kept (fun k q hk => hk9 _ (vx_lt (hP.sub [0, 1, 2] rfl) hk)), va_K.moved hv9 (hK.sub [] rfl), hD.sub [0, 1, 2] (by decide) rfl⟩, ⟨Nat.le_trans hS.1 hz9, fun q h1 h2 => (hk9 q (Nat.lt_of_lt_of_le h1 hS.1)).trans (hS.2.1 q h1 h2)⟩⟩) hS.2.2 (Nat.le_of_ble_eq_true rfl) (Nat.le_of_ble_eq_true rfl)
  · have hc9 := c_1
    refine lv_iload_n hx hb dX7_append_6 rfl (lv_at hl 1 rfl) ?_
    refine lv_bipush (v := 126) hx hb dX7_append_7 (by decide) ?_
    refine lv_icmp_le (tgt := 22) hx hb dX7_append_9 (by decide) (fun c_2 => ?_) (fun c_2 => ?_)
    · have hc9 := c_2
      refine lv_aload_n hx hb dX7_append_22 rfl (lv_at hl 0 rfl) ?_
      refine va_get (D := D) (ci := 7) (v := .ref bu) (C := RX7) (T := TX7) (N := 6) hx hb ht inA_X7 hown hK hP 0 rfl rfl 4 (by decide) (ht _ lf_X7_39) (fun _ h9 => h9) rfl dX7_append_23 ?_
      have ct := k_cut_of (wc := [(bu, .inr (4, [.ref buA, .int 0])), (buA, .inl (K, 60, .inl bf))]) (wr := [(w, .inr (7, [.ref st, .ref hi, .ref re, .ref fo, .ref bu, .ref pa]))]) (tc := [(K, .int)]) hG hS hA hK hP hD [1, 2] [0] [0] rfl rfl (by decide) (by decide) (by decide) rfl
      refine k_endi (As := [.ref bu]) ct (k_runV (As := []) (rest := []) S0 Lv_X7_124 rfl (ci := 4) (q0 := 0) rfl rfl ct (c_Row_isFull l D bu buA K 60 0 bf s.heap.size) hl.1 rfl (Nat.le_of_ble_eq_true rfl) rfl dX7_append_26 ⟨⟨Nat.le_of_ble_eq_true rfl, Nat.le_of_ble_eq_true rfl⟩, Nat.le_of_ble_eq_true rfl, Nat.le_of_ble_eq_true rfl⟩) rfl rfl (fun r_3 _ H locs hw_4 hP hD hK hS => ?_)
      have hK : va_K D vwCl [(K, .int)] s := hK
      have hP : va_P D vwCl [(w, .inr (7, [.ref st, .ref hi, .ref re, .ref fo, .ref bu, .ref pa])), (bu, .inr (4, [.ref buA, .int 0])), (buA, .inl (K, 60, .inl bf))] H := hP
      have hD : va_D A [(w, .inr (7, [.ref st, .ref hi, .ref re, .ref fo, .ref bu, .ref pa])), (bu, .inr (4, [.ref buA, .int 0])), (buA, .inl (K, 60, .inl bf))] := hD
      have hw_4 : r_3 = (if nI 60 ≤ 0 then 1 else 0) := hw_4
      refine lv_if_eq (tgt := 42) hx hb dX7_append_29 (by decide) (fun c_5 => ?_) (fun c9 => absurd hw_4 c9)
      refine lv_aload_n hx hb dX7_append_42 rfl (lv_at hl 0 rfl) ?_
      refine va_get (D := D) (ci := 7) (v := .ref bu) (C := RX7) (T := TX7) (N := 6) hx hb ht inA_X7 hown hK hP 0 rfl rfl 4 (by decide) (ht _ lf_X7_39) (fun _ h9 => h9) rfl dX7_append_43 ?_
      refine lv_iload_n hx hb dX7_append_46 rfl (lv_at hl 1 rfl) ?_
      have ct := k_cut_of (wc := [(bu, .inr (4, [.ref buA, .int 0])), (buA, .inl (K, 60, .inl bf))]) (wr := [(w, .inr (7, [.ref st, .ref hi, .ref re, .ref fo, .ref bu, .ref pa]))]) (tc := [(K, .int)]) hG hS hA hK hP hD [1, 2] [0] [0] rfl rfl (by decide) (by decide) (by decide) rfl
      refine k_endv (As := [.ref bu, .int i]) ct (k_runV (As := [.int i]) (rest := []) S0 Lv_X7_133 rfl (ci := 4) (q0 := 0) rfl rfl ct (c_Row_add l D bu buA K 60 0 bf i (by first | assumption | decide) H.size) hl.1 rfl (Nat.le_of_ble_eq_true rfl) rfl dX7_append_47 ⟨⟨Nat.le_of_ble_eq_true rfl, Nat.le_of_ble_eq_true rfl⟩, Nat.le_of_ble_eq_true rfl, Nat.le_of_ble_eq_true rfl⟩) rfl rfl (fun _ _ H locs hw_7 hP hD hK hS => ?_)
      have hK : va_K D vwCl [(K, .int)] s := hK
      have hP : va_P D vwCl [(w, .inr (7, [.ref st, .ref hi, .ref re, .ref fo, .ref bu, .ref pa])), (bu, .inr (4, [.ref buA, .int (rowLen 60 0)])), (buA, .inl (K, 60, .inl (rowAdd 60 0 bf i)))] H := hP
      have hD : va_D A [(w, .inr (7, [.ref st, .ref hi, .ref re, .ref fo, .ref bu, .ref pa])), (bu, .inr (4, [.ref buA, .int (rowLen 60 0)])), (buA, .inl (K, 60, .inl (rowAdd 60 0 bf i)))] := hD
      have hf_8 : (rowLen 60 0) = 1 := by decide
      have hP : va_P D vwCl [(w, .inr (7, [.ref st, .ref hi, .ref re, .ref fo, .ref bu, .ref pa])), (bu, .inr (4, [.ref buA, .int 1])), (buA, .inl (K, 60, .inl (rowAdd 60 0 bf i)))] H := by rw [← hf_8]; exact hP
      have hD : va_D A [(w, .inr (7, [.ref st, .ref hi, .ref re, .ref fo, .ref bu, .ref pa])), (bu, .inr (4, [.ref buA, .int 1])), (buA, .inl (K, 60, .inl (rowAdd 60 0 bf i)))] := by rw [← hf_8]; exact hD
      refine lv_aload_n hx hb dX7_append_50 rfl (lv_at hl 0 rfl) ?_
      refine va_get (D := D) (ci := 7) (v := .ref bu) (C := RX7) (T := TX7) (N := 6) hx hb ht inA_X7 hown hK hP 0 rfl rfl 4 (by decide) (ht _ lf_X7_39) (fun _ h9 => h9) rfl dX7_append_51 ?_
      have ct := k_cut_of (wc := [(bu, .inr (4, [.ref buA, .int 1]))]) (wr := [(w, .inr (7, [.ref st, .ref hi, .ref re, .ref fo, .ref bu, .ref pa])), (buA, .inl (K, 60, .inl (rowAdd 60 0 bf i)))]) (tc := []) hG hS hA hK hP hD [1] [0, 2] [] rfl rfl (by decide) (by decide) (by decide) rfl
      refine k_endi (As := [.ref bu]) ct (k_runV (As := []) (rest := []) S0 Lv_X7_136 rfl (ci := 4) (q0 := 0) rfl rfl ct (c_Row_size l D bu buA 1 H.size) hl.1 rfl (Nat.le_of_ble_eq_true rfl) rfl dX7_append_54 ⟨⟨Nat.le_of_ble_eq_true rfl, Nat.le_of_ble_eq_true rfl⟩, Nat.le_of_ble_eq_true rfl, Nat.le_of_ble_eq_true rfl⟩) rfl rfl (fun r_9 _ H locs hw_10 hP hD hK hS => ?_)
      have hK : va_K D vwCl [(K, .int)] s := hK
      have hP : va_P D vwCl [(w, .inr (7, [.ref st, .ref hi, .ref re, .ref fo, .ref bu, .ref pa])), (buA, .inl (K, 60, .inl (rowAdd 60 0 bf i))), (bu, .inr (4, [.ref buA, .int 1]))] H := hP
      have hD : va_D A [(w, .inr (7, [.ref st, .ref hi, .ref re, .ref fo, .ref bu, .ref pa])), (buA, .inl (K, 60, .inl (rowAdd 60 0 bf i))), (bu, .inr (4, [.ref buA, .int 1]))] := hD
      have hw_10 : r_9 = 1 := hw_10
      have hw_10 := hw_10.symm
      subst hw_10
      refine k_nrm (y := 1) rfl ?_
      have hP9 : va_P D vwCl [(w, .inr (7, [.ref st, .ref hi, .ref re, .ref fo, .ref bu, .ref pa])), (bu, .inr (4, [.ref buA, .int 1])), (buA, .inl (K, 60, .inl (rowAdd 60 0 bf i)))] H := hP.sub [0, 2, 1] rfl
      have hD9 : va_D A [(w, .inr (7, [.ref st, .ref hi, .ref re, .ref fo, .ref bu, .ref pa])), (bu, .inr (4, [.ref buA, .int 1])), (buA, .inl (K, 60, .inl (rowAdd 60 0 bf i)))] := hD.sub [0, 2, 1] (by decide) rfl
      have hK9 : va_K D vwCl [] s := hK.sub [] rfl
      refine vx_ret ?_
      refine W.widen (k := 1) (n := 6) (by first | exact Nat.le_of_ble_eq_true rfl | omega) (by first | exact Nat.le_of_ble_eq_true rfl | omega) ?_
      exact W.iret (v := 1) hx hb hr (fun t ht9 hW9 => ⟨⟨1, (rowAdd 60 0 bf i), rfl, by exact ⟨⟨c_1, c_2⟩, rfl⟩, ⟨by rw [ht9]; exact hP9, va_K.moved hW9.alike hK9, hD9⟩⟩, hS.F ht9⟩) hS.2.2 dX7_append_57
    · have hc9 := c_2
      obtain ⟨sa, hsa⟩ := hG.2.2.2.1 (202, "code is not 33 to 126") (by decide +kernel)
      exact vx_throwS hx hb hst (own := RX7) (cls := "java/lang/IllegalArgumentException") (text := "code is not 33 to 126") (names := ["java/lang/RuntimeException", "java/lang/Exception"]) (ik := 49) (is := 202) (ic := 53) (sa := sa) hown (by decide +kernel) (by decide +kernel) (ht _ lc_X7_49) (ht _ li_java_lang_IllegalArgumentException) hsa (vx_hat (fun w h => ht w (List.mem_filter.mpr ⟨lh_X7_53.1 w h, (List.mem_filter.mp h).2⟩)) lh_X7_53.2.1 (fun w h => va_Nw.use (k_NX_on (List.mem_filter.mp h).2) (hG.1 w (List.mem_filter.mp h).1 (List.mem_filter.mp h).2))) lh_X7_53.2.2 hG.2.1 hG.2.2.1 hS (by rw [hml]; exact hl.1) dX7_append_12 dX7_append_15 dX7_append_16 dX7_append_18 dX7_append_21 (fun x h9 => (htab x h9).elim) (Nat.le_of_ble_eq_true rfl) (Nat.le_of_ble_eq_true rfl) (Nat.le_of_ble_eq_true rfl) (Nat.le_of_ble_eq_true rfl) hlocks (fun t hv9 hz9 hk9 => ⟨(), trivial, ⟨by exact ⟨rfl, fun h9 => c_2 h9.2⟩, (hP.sub [0, 1, 2] rfl).kept (fun k q hk => hk9 _ (vx_lt (hP.sub [0, 1, 2] rfl) hk)), va_K.moved hv9 (hK.sub [] rfl), hD.sub [0, 1, 2] (by decide) rfl⟩, ⟨Nat.le_trans hS.1 hz9, fun q h1 h2 => (hk9 q (Nat.lt_of_lt_of_le h1 hS.1)).trans (hS.2.1 q h1 h2)⟩⟩) hS.2.2 (Nat.le_of_ble_eq_true rfl) (Nat.le_of_ble_eq_true rfl)
