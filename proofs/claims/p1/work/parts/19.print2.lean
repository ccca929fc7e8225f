set_option maxRecDepth 20000 in
theorem lk_X7_powerOfTen : Cond.code yX7_powerOfTen cX7_powerOfTen 3 (some .int) ∈ wsA := mA 596 rfl rfl
theorem ly_X7_powerOfTen : k_y yX7_powerOfTen 1 := ⟨by decide +kernel, by decide +kernel, by decide +kernel⟩
set_option maxRecDepth 20000 in
theorem ls_X7_powerOfTen : Cond.static yX7_powerOfTen ∈ wsA := mA 595 rfl rfl
set_option maxRecDepth 20000 in
theorem Ls_X7_56 : k_LS RX7 56 yX7_powerOfTen cX7_powerOfTen 3 (some .int) 1 := ⟨mA 594 rfl rfl, ls_X7_powerOfTen, li_BarcodeWand, lk_X7_powerOfTen, ly_X7_powerOfTen⟩
set_option maxRecDepth 20000 in
theorem lk_X2_setDigits : Cond.code yX2_setDigits cX2_setDigits 5 none ∈ wsA := mA 601 rfl rfl
theorem ly_X2_setDigits : k_y yX2_setDigits 2 := ⟨by decide +kernel, by decide +kernel, by decide +kernel⟩
set_option maxRecDepth 20000 in
theorem lm_X2_setDigits : Cond.instanceMethod yX2_setDigits ∈ wsA := mA 599 rfl rfl
set_option maxRecDepth 20000 in
theorem le_X2_setDigits : Cond.selects (yX2_setDigits).cls yX2_setDigits yX2_setDigits ∈ wsA := mA 600 rfl rfl
set_option maxRecDepth 20000 in
theorem Lv_X7_70 : k_LV RX7 70 yX2_setDigits cX2_setDigits 5 none 2 := ⟨mA 598 rfl rfl, lm_X2_setDigits, le_X2_setDigits, li_BarcodeWand_Label, lk_X2_setDigits, ly_X2_setDigits⟩
set_option maxRecDepth 20000 in
theorem lk_X8_check : Cond.code yX8_check cX8_check 5 (some .int) ∈ wsA := mA 857 rfl rfl
theorem ly_X8_check : k_y yX8_check 3 := ⟨by decide +kernel, by decide +kernel, by decide +kernel⟩
set_option maxRecDepth 20000 in
theorem ls_X8_check : Cond.static yX8_check ∈ wsA := mA 856 rfl rfl
set_option maxRecDepth 20000 in
theorem Ls_X8_50 : k_LS RX8 50 yX8_check cX8_check 5 (some .int) 3 := ⟨mA 855 rfl rfl, ls_X8_check, li_BarcodeWandModel, lk_X8_check, ly_X8_check⟩
set_option maxRecDepth 20000 in
theorem lk_X8_isPrint : Cond.code yX8_isPrint cX8_isPrint 4 (some .boolean) ∈ wsA := mA 835 rfl rfl
theorem ly_X8_isPrint : k_y yX8_isPrint 2 := ⟨by decide +kernel, by decide +kernel, by decide +kernel⟩
set_option maxRecDepth 20000 in
theorem ls_X8_isPrint : Cond.static yX8_isPrint ∈ wsA := mA 834 rfl rfl
set_option maxRecDepth 20000 in
theorem Ls_X8_54 : k_LS RX8 54 yX8_isPrint cX8_isPrint 4 (some .boolean) 2 := ⟨mA 833 rfl rfl, ls_X8_isPrint, li_BarcodeWandModel, lk_X8_isPrint, ly_X8_isPrint⟩
set_option maxRecDepth 20000 in
theorem lk_X8_prints : Cond.code yX8_prints cX8_prints 5 (some .int) ∈ wsA := mA 854 rfl rfl
theorem ly_X8_prints : k_y yX8_prints 2 := ⟨by decide +kernel, by decide +kernel, by decide +kernel⟩
set_option maxRecDepth 20000 in
theorem lm_X8_prints : Cond.instanceMethod yX8_prints ∈ wsA := mA 853 rfl rfl
theorem le_X8_prints : Cond.selects (yX8_prints).cls yX8_prints yX8_prints ∈ wsA := mS 24 rfl rfl
set_option maxRecDepth 20000 in
theorem Lv_X8_65 : k_LV RX8 65 yX8_prints cX8_prints 5 (some .int) 2 := ⟨mA 851 rfl rfl, lm_X8_prints, le_X8_prints, li_BarcodeWandModel, lk_X8_prints, ly_X8_prints⟩
theorem dX7_print_0 : decode cX7_print 0 = .ok (.iload_n 2, 1) := by decide +kernel
theorem dX7_print_1 : decode cX7_print 1 = .ok (.iconst 1, 1) := by decide +kernel
theorem dX7_print_2 : decode cX7_print 2 = .ok (.if_icmp .lt 9, 3) := by decide +kernel
theorem dX7_print_5 : decode cX7_print 5 = .ok (.iload_n 2, 1) := by decide +kernel
theorem dX7_print_6 : decode cX7_print 6 = .ok (.bipush 8, 2) := by decide +kernel
theorem dX7_print_8 : decode cX7_print 8 = .ok (.if_icmp .le 13, 3) := by decide +kernel
theorem dX7_print_11 : decode cX7_print 11 = .ok (.new 49, 3) := by decide +kernel
theorem dX7_print_14 : decode cX7_print 14 = .ok (.dup, 1) := by decide +kernel
theorem dX7_print_15 : decode cX7_print 15 = .ok (.ldc 51, 2) := by decide +kernel
theorem dX7_print_17 : decode cX7_print 17 = .ok (.invokespecial 53, 3) := by decide +kernel
theorem dX7_print_20 : decode cX7_print 20 = .ok (.athrow, 1) := by decide +kernel
theorem dX7_print_21 : decode cX7_print 21 = .ok (.iload_n 1, 1) := by decide +kernel
theorem dX7_print_22 : decode cX7_print 22 = .ok (.ifCond .lt 11, 3) := by decide +kernel
theorem dX7_print_25 : decode cX7_print 25 = .ok (.iload_n 1, 1) := by decide +kernel
theorem dX7_print_26 : decode cX7_print 26 = .ok (.iload_n 2, 1) := by decide +kernel
theorem dX7_print_27 : decode cX7_print 27 = .ok (.invokestatic 56, 3) := by decide +kernel
theorem dX7_print_30 : decode cX7_print 30 = .ok (.if_icmp .lt 13, 3) := by decide +kernel
theorem dX7_print_33 : decode cX7_print 33 = .ok (.new 49, 3) := by decide +kernel
theorem dX7_print_36 : decode cX7_print 36 = .ok (.dup, 1) := by decide +kernel
theorem dX7_print_37 : decode cX7_print 37 = .ok (.ldc 60, 2) := by decide +kernel
theorem dX7_print_39 : decode cX7_print 39 = .ok (.invokespecial 53, 3) := by decide +kernel
theorem dX7_print_42 : decode cX7_print 42 = .ok (.athrow, 1) := by decide +kernel
theorem dX7_print_43 : decode cX7_print 43 = .ok (.aload_n 0, 1) := by decide +kernel
theorem dX7_print_44 : decode cX7_print 44 = .ok (.getfield 19, 3) := by decide +kernel
theorem dX7_print_47 : decode cX7_print 47 = .ok (.aload_n 0, 1) := by decide +kernel
theorem dX7_print_48 : decode cX7_print 48 = .ok (.getfield 10, 3) := by decide +kernel
theorem dX7_print_51 : decode cX7_print 51 = .ok (.invokevirtual 62, 3) := by decide +kernel
theorem dX7_print_54 : decode cX7_print 54 = .ok (.aload_n 0, 1) := by decide +kernel
theorem dX7_print_55 : decode cX7_print 55 = .ok (.getfield 10, 3) := by decide +kernel
theorem dX7_print_58 : decode cX7_print 58 = .ok (.getfield 66, 3) := by decide +kernel
theorem dX7_print_61 : decode cX7_print 61 = .ok (.iload_n 1, 1) := by decide +kernel
theorem dX7_print_62 : decode cX7_print 62 = .ok (.iload_n 2, 1) := by decide +kernel
theorem dX7_print_63 : decode cX7_print 63 = .ok (.invokevirtual 70, 3) := by decide +kernel
theorem dX7_print_66 : decode cX7_print 66 = .ok (.aload_n 0, 1) := by decide +kernel
theorem dX7_print_67 : decode cX7_print 67 = .ok (.getfield 10, 3) := by decide +kernel
theorem dX7_print_70 : decode cX7_print 70 = .ok (.getfield 66, 3) := by decide +kernel
theorem dX7_print_73 : decode cX7_print 73 = .ok (.getfield 76, 3) := by decide +kernel
theorem dX7_print_76 : decode cX7_print 76 = .ok (.iload_n 2, 1) := by decide +kernel
theorem dX7_print_77 : decode cX7_print 77 = .ok (.invokevirtual 79, 3) := by decide +kernel
theorem dX7_print_80 : decode cX7_print 80 = .ok (.ireturn, 1) := by decide +kernel
theorem dX8_isPrint_0 : decode cX8_isPrint 0 = .ok (.iconst 1, 1) := by decide +kernel
theorem dX8_isPrint_1 : decode cX8_isPrint 1 = .ok (.istore_n 2, 1) := by decide +kernel
theorem dX8_isPrint_2 : decode cX8_isPrint 2 = .ok (.iconst 0, 1) := by decide +kernel
theorem dX8_isPrint_3 : decode cX8_isPrint 3 = .ok (.istore_n 3, 1) := by decide +kernel
theorem dX8_isPrint_4 : decode cX8_isPrint 4 = .ok (.iload_n 3, 1) := by decide +kernel
theorem dX8_isPrint_5 : decode cX8_isPrint 5 = .ok (.iload_n 1, 1) := by decide +kernel
theorem dX8_isPrint_6 : decode cX8_isPrint 6 = .ok (.if_icmp .ge 20, 3) := by decide +kernel
theorem dX8_isPrint_9 : decode cX8_isPrint 9 = .ok (.iload_n 3, 1) := by decide +kernel
theorem dX8_isPrint_10 : decode cX8_isPrint 10 = .ok (.bipush 8, 2) := by decide +kernel
theorem dX8_isPrint_12 : decode cX8_isPrint 12 = .ok (.if_icmp .ge 14, 3) := by decide +kernel
theorem dX8_isPrint_15 : decode cX8_isPrint 15 = .ok (.iload_n 2, 1) := by decide +kernel
theorem dX8_isPrint_16 : decode cX8_isPrint 16 = .ok (.bipush 10, 2) := by decide +kernel
theorem dX8_isPrint_18 : decode cX8_isPrint 18 = .ok (.imul, 1) := by decide +kernel
theorem dX8_isPrint_19 : decode cX8_isPrint 19 = .ok (.istore_n 2, 1) := by decide +kernel
theorem dX8_isPrint_20 : decode cX8_isPrint 20 = .ok (.iinc 3 1, 3) := by decide +kernel
theorem dX8_isPrint_23 : decode cX8_isPrint 23 = .ok (.goto (-19), 3) := by decide +kernel
theorem dX8_isPrint_26 : decode cX8_isPrint 26 = .ok (.iload_n 1, 1) := by decide +kernel
theorem dX8_isPrint_27 : decode cX8_isPrint 27 = .ok (.iconst 1, 1) := by decide +kernel
theorem dX8_isPrint_28 : decode cX8_isPrint 28 = .ok (.bipush 8, 2) := by decide +kernel
theorem dX8_isPrint_30 : decode cX8_isPrint 30 = .ok (.invokestatic 46, 3) := by decide +kernel
theorem dX8_isPrint_33 : decode cX8_isPrint 33 = .ok (.ifCond .eq 18, 3) := by decide +kernel
theorem dX8_isPrint_36 : decode cX8_isPrint 36 = .ok (.iload_n 0, 1) := by decide +kernel
theorem dX8_isPrint_37 : decode cX8_isPrint 37 = .ok (.iconst 0, 1) := by decide +kernel
theorem dX8_isPrint_38 : decode cX8_isPrint 38 = .ok (.iload_n 2, 1) := by decide +kernel
theorem dX8_isPrint_39 : decode cX8_isPrint 39 = .ok (.iconst 1, 1) := by decide +kernel
theorem dX8_isPrint_40 : decode cX8_isPrint 40 = .ok (.isub, 1) := by decide +kernel
theorem dX8_isPrint_41 : decode cX8_isPrint 41 = .ok (.invokestatic 46, 3) := by decide +kernel
theorem dX8_isPrint_44 : decode cX8_isPrint 44 = .ok (.ifCond .eq 7, 3) := by decide +kernel
theorem dX8_isPrint_47 : decode cX8_isPrint 47 = .ok (.iconst 1, 1) := by decide +kernel
theorem dX8_isPrint_48 : decode cX8_isPrint 48 = .ok (.goto 4, 3) := by decide +kernel
theorem dX8_isPrint_51 : decode cX8_isPrint 51 = .ok (.iconst 0, 1) := by decide +kernel
theorem dX8_isPrint_52 : decode cX8_isPrint 52 = .ok (.ireturn, 1) := by decide +kernel
theorem dX8_check_0 : decode cX8_check 0 = .ok (.iconst 0, 1) := by decide +kernel
theorem dX8_check_1 : decode cX8_check 1 = .ok (.istore_n 3, 1) := by decide +kernel
theorem dX8_check_2 : decode cX8_check 2 = .ok (.iconst 0, 1) := by decide +kernel
theorem dX8_check_3 : decode cX8_check 3 = .ok (.istore 4, 2) := by decide +kernel
theorem dX8_check_5 : decode cX8_check 5 = .ok (.iload 4, 2) := by decide +kernel
theorem dX8_check_7 : decode cX8_check 7 = .ok (.iload_n 2, 1) := by decide +kernel
theorem dX8_check_8 : decode cX8_check 8 = .ok (.if_icmp .ge 40, 3) := by decide +kernel
theorem dX8_check_11 : decode cX8_check 11 = .ok (.iload_n 3, 1) := by decide +kernel
theorem dX8_check_12 : decode cX8_check 12 = .ok (.iload_n 2, 1) := by decide +kernel
theorem dX8_check_13 : decode cX8_check 13 = .ok (.iconst 1, 1) := by decide +kernel
theorem dX8_check_14 : decode cX8_check 14 = .ok (.isub, 1) := by decide +kernel
theorem dX8_check_15 : decode cX8_check 15 = .ok (.iload 4, 2) := by decide +kernel
theorem dX8_check_17 : decode cX8_check 17 = .ok (.isub, 1) := by decide +kernel
theorem dX8_check_18 : decode cX8_check 18 = .ok (.iconst 2, 1) := by decide +kernel
theorem dX8_check_19 : decode cX8_check 19 = .ok (.irem, 1) := by decide +kernel
theorem dX8_check_20 : decode cX8_check 20 = .ok (.ifCond .ne 14, 3) := by decide +kernel
theorem dX8_check_23 : decode cX8_check 23 = .ok (.iconst 3, 1) := by decide +kernel
theorem dX8_check_24 : decode cX8_check 24 = .ok (.aload_n 0, 1) := by decide +kernel
theorem dX8_check_25 : decode cX8_check 25 = .ok (.iload_n 1, 1) := by decide +kernel
theorem dX8_check_26 : decode cX8_check 26 = .ok (.iload 4, 2) := by decide +kernel
theorem dX8_check_28 : decode cX8_check 28 = .ok (.iadd, 1) := by decide +kernel
theorem dX8_check_29 : decode cX8_check 29 = .ok (.iaload, 1) := by decide +kernel
theorem dX8_check_30 : decode cX8_check 30 = .ok (.imul, 1) := by decide +kernel
theorem dX8_check_31 : decode cX8_check 31 = .ok (.goto 9, 3) := by decide +kernel
theorem dX8_check_34 : decode cX8_check 34 = .ok (.aload_n 0, 1) := by decide +kernel
theorem dX8_check_35 : decode cX8_check 35 = .ok (.iload_n 1, 1) := by decide +kernel
theorem dX8_check_36 : decode cX8_check 36 = .ok (.iload 4, 2) := by decide +kernel
theorem dX8_check_38 : decode cX8_check 38 = .ok (.iadd, 1) := by decide +kernel
theorem dX8_check_39 : decode cX8_check 39 = .ok (.iaload, 1) := by decide +kernel
theorem dX8_check_40 : decode cX8_check 40 = .ok (.iadd, 1) := by decide +kernel
theorem dX8_check_41 : decode cX8_check 41 = .ok (.istore_n 3, 1) := by decide +kernel
theorem dX8_check_42 : decode cX8_check 42 = .ok (.iinc 4 1, 3) := by decide +kernel
theorem dX8_check_45 : decode cX8_check 45 = .ok (.goto (-40), 3) := by decide +kernel
theorem dX8_check_48 : decode cX8_check 48 = .ok (.bipush 10, 2) := by decide +kernel
theorem dX8_check_50 : decode cX8_check 50 = .ok (.iload_n 3, 1) := by decide +kernel
theorem dX8_check_51 : decode cX8_check 51 = .ok (.bipush 10, 2) := by decide +kernel
theorem dX8_check_53 : decode cX8_check 53 = .ok (.irem, 1) := by decide +kernel
theorem dX8_check_54 : decode cX8_check 54 = .ok (.isub, 1) := by decide +kernel
theorem dX8_check_55 : decode cX8_check 55 = .ok (.bipush 10, 2) := by decide +kernel
theorem dX8_check_57 : decode cX8_check 57 = .ok (.irem, 1) := by decide +kernel
theorem dX8_check_58 : decode cX8_check 58 = .ok (.ireturn, 1) := by decide +kernel
theorem dX8_prints_0 : decode cX8_prints 0 = .ok (.iload_n 1, 1) := by decide +kernel
theorem dX8_prints_1 : decode cX8_prints 1 = .ok (.istore_n 3, 1) := by decide +kernel
theorem dX8_prints_2 : decode cX8_prints 2 = .ok (.iload_n 2, 1) := by decide +kernel
theorem dX8_prints_3 : decode cX8_prints 3 = .ok (.iconst 1, 1) := by decide +kernel
theorem dX8_prints_4 : decode cX8_prints 4 = .ok (.isub, 1) := by decide +kernel
theorem dX8_prints_5 : decode cX8_prints 5 = .ok (.istore 4, 2) := by decide +kernel
theorem dX8_prints_7 : decode cX8_prints 7 = .ok (.iload 4, 2) := by decide +kernel
theorem dX8_prints_9 : decode cX8_prints 9 = .ok (.ifCond .lt 27, 3) := by decide +kernel
theorem dX8_prints_12 : decode cX8_prints 12 = .ok (.aload_n 0, 1) := by decide +kernel
theorem dX8_prints_13 : decode cX8_prints 13 = .ok (.getfield 7, 3) := by decide +kernel
theorem dX8_prints_16 : decode cX8_prints 16 = .ok (.iconst 1, 1) := by decide +kernel
theorem dX8_prints_17 : decode cX8_prints 17 = .ok (.iload 4, 2) := by decide +kernel
theorem dX8_prints_19 : decode cX8_prints 19 = .ok (.iadd, 1) := by decide +kernel
theorem dX8_prints_20 : decode cX8_prints 20 = .ok (.iload_n 3, 1) := by decide +kernel
theorem dX8_prints_21 : decode cX8_prints 21 = .ok (.bipush 10, 2) := by decide +kernel
theorem dX8_prints_23 : decode cX8_prints 23 = .ok (.irem, 1) := by decide +kernel
theorem dX8_prints_24 : decode cX8_prints 24 = .ok (.iastore, 1) := by decide +kernel
theorem dX8_prints_25 : decode cX8_prints 25 = .ok (.iload_n 3, 1) := by decide +kernel
theorem dX8_prints_26 : decode cX8_prints 26 = .ok (.bipush 10, 2) := by decide +kernel
theorem dX8_prints_28 : decode cX8_prints 28 = .ok (.idiv, 1) := by decide +kernel
theorem dX8_prints_29 : decode cX8_prints 29 = .ok (.istore_n 3, 1) := by decide +kernel
theorem dX8_prints_30 : decode cX8_prints 30 = .ok (.iinc 4 (-1), 3) := by decide +kernel
theorem dX8_prints_33 : decode cX8_prints 33 = .ok (.goto (-26), 3) := by decide +kernel
theorem dX8_prints_36 : decode cX8_prints 36 = .ok (.aload_n 0, 1) := by decide +kernel
theorem dX8_prints_37 : decode cX8_prints 37 = .ok (.getfield 7, 3) := by decide +kernel
theorem dX8_prints_40 : decode cX8_prints 40 = .ok (.iconst 1, 1) := by decide +kernel
theorem dX8_prints_41 : decode cX8_prints 41 = .ok (.iload_n 2, 1) := by decide +kernel
theorem dX8_prints_42 : decode cX8_prints 42 = .ok (.iadd, 1) := by decide +kernel
theorem dX8_prints_43 : decode cX8_prints 43 = .ok (.aload_n 0, 1) := by decide +kernel
theorem dX8_prints_44 : decode cX8_prints 44 = .ok (.getfield 7, 3) := by decide +kernel
theorem dX8_prints_47 : decode cX8_prints 47 = .ok (.iconst 1, 1) := by decide +kernel
theorem dX8_prints_48 : decode cX8_prints 48 = .ok (.iload_n 2, 1) := by decide +kernel
theorem dX8_prints_49 : decode cX8_prints 49 = .ok (.invokestatic 50, 3) := by decide +kernel
theorem dX8_prints_52 : decode cX8_prints 52 = .ok (.iastore, 1) := by decide +kernel
theorem dX8_prints_53 : decode cX8_prints 53 = .ok (.aload_n 0, 1) := by decide +kernel
theorem dX8_prints_54 : decode cX8_prints 54 = .ok (.getfield 7, 3) := by decide +kernel
theorem dX8_prints_57 : decode cX8_prints 57 = .ok (.iconst 0, 1) := by decide +kernel
theorem dX8_prints_58 : decode cX8_prints 58 = .ok (.iload_n 2, 1) := by decide +kernel
theorem dX8_prints_59 : decode cX8_prints 59 = .ok (.iconst 1, 1) := by decide +kernel
theorem dX8_prints_60 : decode cX8_prints 60 = .ok (.iadd, 1) := by decide +kernel
theorem dX8_prints_61 : decode cX8_prints 61 = .ok (.iastore, 1) := by decide +kernel
theorem dX8_prints_62 : decode cX8_prints 62 = .ok (.iconst 0, 1) := by decide +kernel
theorem dX8_prints_63 : decode cX8_prints 63 = .ok (.istore 4, 2) := by decide +kernel
theorem dX8_prints_65 : decode cX8_prints 65 = .ok (.iload 4, 2) := by decide +kernel
theorem dX8_prints_67 : decode cX8_prints 67 = .ok (.bipush 41, 2) := by decide +kernel
theorem dX8_prints_69 : decode cX8_prints 69 = .ok (.if_icmp .ge 20, 3) := by decide +kernel
theorem dX8_prints_72 : decode cX8_prints 72 = .ok (.aload_n 0, 1) := by decide +kernel
theorem dX8_prints_73 : decode cX8_prints 73 = .ok (.getfield 7, 3) := by decide +kernel
theorem dX8_prints_76 : decode cX8_prints 76 = .ok (.bipush 10, 2) := by decide +kernel
theorem dX8_prints_78 : decode cX8_prints 78 = .ok (.iload 4, 2) := by decide +kernel
theorem dX8_prints_80 : decode cX8_prints 80 = .ok (.iadd, 1) := by decide +kernel
theorem dX8_prints_81 : decode cX8_prints 81 = .ok (.iconst 0, 1) := by decide +kernel
theorem dX8_prints_82 : decode cX8_prints 82 = .ok (.iastore, 1) := by decide +kernel
theorem dX8_prints_83 : decode cX8_prints 83 = .ok (.iinc 4 1, 3) := by decide +kernel
theorem dX8_prints_86 : decode cX8_prints 86 = .ok (.goto (-21), 3) := by decide +kernel
theorem dX8_prints_89 : decode cX8_prints 89 = .ok (.aload_n 0, 1) := by decide +kernel
theorem dX8_prints_90 : decode cX8_prints 90 = .ok (.getfield 7, 3) := by decide +kernel
theorem dX8_prints_93 : decode cX8_prints 93 = .ok (.iconst 1, 1) := by decide +kernel
theorem dX8_prints_94 : decode cX8_prints 94 = .ok (.iload_n 2, 1) := by decide +kernel
theorem dX8_prints_95 : decode cX8_prints 95 = .ok (.iadd, 1) := by decide +kernel
theorem dX8_prints_96 : decode cX8_prints 96 = .ok (.iaload, 1) := by decide +kernel
theorem dX8_prints_97 : decode cX8_prints 97 = .ok (.ireturn, 1) := by decide +kernel
theorem dX8_print_0 : decode cX8_print 0 = .ok (.aload_n 0, 1) := by decide +kernel
theorem dX8_print_1 : decode cX8_print 1 = .ok (.iload_n 1, 1) := by decide +kernel
theorem dX8_print_2 : decode cX8_print 2 = .ok (.iload_n 2, 1) := by decide +kernel
theorem dX8_print_3 : decode cX8_print 3 = .ok (.invokestatic 54, 3) := by decide +kernel
theorem dX8_print_6 : decode cX8_print 6 = .ok (.iconst 1, 1) := by decide +kernel
theorem dX8_print_7 : decode cX8_print 7 = .ok (.invokevirtual 58, 3) := by decide +kernel
theorem dX8_print_10 : decode cX8_print 10 = .ok (.ifCond .ne 5, 3) := by decide +kernel
theorem dX8_print_13 : decode cX8_print 13 = .ok (.iconst 0, 1) := by decide +kernel
theorem dX8_print_14 : decode cX8_print 14 = .ok (.ireturn, 1) := by decide +kernel
theorem dX8_print_15 : decode cX8_print 15 = .ok (.aload_n 0, 1) := by decide +kernel
theorem dX8_print_16 : decode cX8_print 16 = .ok (.invokevirtual 62, 3) := by decide +kernel
theorem dX8_print_19 : decode cX8_print 19 = .ok (.aload_n 0, 1) := by decide +kernel
theorem dX8_print_20 : decode cX8_print 20 = .ok (.iload_n 1, 1) := by decide +kernel
theorem dX8_print_21 : decode cX8_print 21 = .ok (.iload_n 2, 1) := by decide +kernel
theorem dX8_print_22 : decode cX8_print 22 = .ok (.invokevirtual 65, 3) := by decide +kernel
theorem dX8_print_25 : decode cX8_print 25 = .ok (.ireturn, 1) := by decide +kernel
set_option maxHeartbeats 4000000 in
set_option maxRecDepth 100000 in
theorem c_W_print (l : Launch) (hst : l.stackTraces = false) (D : va_G) (w : Nat) (st : Nat) (hi : Nat) (re : Nat) (fo : Nat) (bu : Nat) (pa : Nat) (ri : Nat) (KS : ClassId) (rf : Nat → Option Nat) (zst : Nat) (zla : Nat) (zme : Nat) (zli : Nat) (ztol : Int32) (zsu : Int32) (zfa : Int32) (zld : Nat) (zlz : Nat) (zldA : Nat) (zldN : Int32) (zlzA : Nat) (zlzN : Int32) (zmeA : Nat) (zmeN : Int32) (zln : Nat) (zll : Nat) (zlc : Nat) (zlnA : Nat) (zlnN : Int32) (zllA : Nat) (zllN : Int32) (zlcA : Nat) (zlcN : Int32) (la : Nat) (me : Nat) (li : Nat) (tol : Int32) (su : Int32) (fa : Int32) (ld : Nat) (lz : Nat) (ldA : Nat) (lzA : Nat) (meA : Nat) (ln : Nat) (ll : Nat) (lc : Nat) (lnA : Nat) (llA : Nat) (lcA : Nat) (K : ClassId) (ldf : Nat → Int32) (lzf : Nat → Int32) (d : Int32) (z : Int32) (hrf : rf 0 = some zst) (sz : Nat) : k_Xi (S := Int32 × Int32 × (Nat → Int32) × (Nat → Int32)) l D yX7_print cX7_print 3 (some .int) 6 1 6 126 [.ref w, .int d, .int z] [(w, .inr (7, [.ref st, .ref hi, .ref re, .ref fo, .ref bu, .ref pa])), (hi, .inr (5, [.ref ri, .int 0, .int 0])), (ri, .inl (KS, 6, .inr (.inr (.inr (.inr rf))))), (zst, .inr (6, [.ref zla, .ref zme, .ref zli, .int ztol, .int zsu, .int zfa])), (zla, .inr (2, [.ref zld, .ref zlz])), (zld, .inr (4, [.ref zldA, .int zldN])), (zlz, .inr (4, [.ref zlzA, .int zlzN])), (zme, .inr (4, [.ref zmeA, .int zmeN])), (zli, .inr (0, [.ref zln, .ref zll, .ref zlc])), (zln, .inr (4, [.ref zlnA, .int zlnN])), (zll, .inr (4, [.ref zllA, .int zllN])), (zlc, .inr (4, [.ref zlcA, .int zlcN])), (st, .inr (6, [.ref la, .ref me, .ref li, .int tol, .int su, .int fa])), (la, .inr (2, [.ref ld, .ref lz])), (ld, .inr (4, [.ref ldA, .int 0])), (lz, .inr (4, [.ref lzA, .int 0])), (me, .inr (4, [.ref meA, .int 0])), (li, .inr (0, [.ref ln, .ref ll, .ref lc])), (ln, .inr (4, [.ref lnA, .int 0])), (ll, .inr (4, [.ref llA, .int 0])), (lc, .inr (4, [.ref lcA, .int 0])), (ldA, .inl (K, 9, .inl ldf)), (lzA, .inl (K, 41, .inl lzf))] [(K, .int), (KS, .object "BarcodeWand$State")] (fun (r : Int32) (u : Int32 × Int32 × (Nat → Int32) × (Nat → Int32)) => match u with | (n1, n2, g1, g2) => pOk d z ∧ r = chkd (cS d z.toNatClampNeg)) (fun u => match u with | (n1, n2, g1, g2) => [(w, .inr (7, [.ref st, .ref hi, .ref re, .ref fo, .ref bu, .ref pa])), (hi, .inr (5, [.ref ri, .int 1, .int 1])), (ri, .inl (KS, 6, .inr (.inr (.inr (.inr rf))))), (zst, .inr (6, [.ref zla, .ref zme, .ref zli, .int tol, .int su, .int fa])), (zla, .inr (2, [.ref zld, .ref zlz])), (zld, .inr (4, [.ref zldA, .int 0])), (zlz, .inr (4, [.ref zlzA, .int 0])), (zme, .inr (4, [.ref zmeA, .int 0])), (zli, .inr (0, [.ref zln, .ref zll, .ref zlc])), (zln, .inr (4, [.ref zlnA, .int 0])), (zll, .inr (4, [.ref zllA, .int 0])), (zlc, .inr (4, [.ref zlcA, .int 0])), (st, .inr (6, [.ref la, .ref me, .ref li, .int tol, .int su, .int fa])), (la, .inr (2, [.ref ld, .ref lz])), (ld, .inr (4, [.ref ldA, .int n1])), (lz, .inr (4, [.ref lzA, .int n2])), (me, .inr (4, [.ref meA, .int 0])), (li, .inr (0, [.ref ln, .ref ll, .ref lc])), (ln, .inr (4, [.ref lnA, .int 0])), (ll, .inr (4, [.ref llA, .int 0])), (lc, .inr (4, [.ref lcA, .int 0])), (ldA, .inl (K, 9, .inl g1)), (lzA, .inl (K, 41, .inl g2))]) (fun u => match u with | (n1, n2, g1, g2) => []) (fun E => E = "java/lang/IllegalArgumentException" ∧ ¬ pOk d z) sz := by
  refine vx_ofW (cc := cX7_print) (maxL := 3) (ret := (some .int)) (by decide) rfl ?_
  intro p e s m args below meth c s₁ B hml htab hv
  obtain ⟨rfl, hsz, hP, hK, hD0, hG⟩ := hv
  have hx := B.exec
  have hb := B.bytes
  have hr := B.returns
  have ht : ∀ v9 ∈ wsA, v9.before ([.ref w, .int d, .int z] : List Value).toArray s = true := fun v9 h9 => atoms_spec (ws := k_ws yX7_print cX7_print 3 (some .int)) B.pre v9 (List.mem_cons_of_mem _ h9)
  have hown : s.vm.findClass RX7 = some m.cls := findClass_of_methodNamed B.named
  have S0 : k_C p s m ([.ref w, .int d, .int z] : List Value).toArray c cX7_print 3 RX7 := ⟨hx, hb, hml, hown, ht⟩
  have hlocks := B.notSynchronized
  subst hsz
  have hD := hD0.self (sz := s.heap.size)
  unfold k_X
  generalize hAe : va_A [(w, .inr (7, [.ref st, .ref hi, .ref re, .ref fo, .ref bu, .ref pa])), (hi, .inr (5, [.ref ri, .int 0, .int 0])), (ri, .inl (KS, 6, .inr (.inr (.inr (.inr rf))))), (zst, .inr (6, [.ref zla, .ref zme, .ref zli, .int ztol, .int zsu, .int zfa])), (zla, .inr (2, [.ref zld, .ref zlz])), (zld, .inr (4, [.ref zldA, .int zldN])), (zlz, .inr (4, [.ref zlzA, .int zlzN])), (zme, .inr (4, [.ref zmeA, .int zmeN])), (zli, .inr (0, [.ref zln, .ref zll, .ref zlc])), (zln, .inr (4, [.ref zlnA, .int zlnN])), (zll, .inr (4, [.ref zllA, .int zllN])), (zlc, .inr (4, [.ref zlcA, .int zlcN])), (st, .inr (6, [.ref la, .ref me, .ref li, .int tol, .int su, .int fa])), (la, .inr (2, [.ref ld, .ref lz])), (ld, .inr (4, [.ref ldA, .int 0])), (lz, .inr (4, [.ref lzA, .int 0])), (me, .inr (4, [.ref meA, .int 0])), (li, .inr (0, [.ref ln, .ref ll, .ref lc])), (ln, .inr (4, [.ref lnA, .int 0])), (ll, .inr (4, [.ref llA, .int 0])), (lc, .inr (4, [.ref lcA, .int 0])), (ldA, .inl (K, 9, .inl ldf)), (lzA, .inl (K, 41, .inl lzf))] s.heap.size = A at hD hG ⊢
  have hA : ∀ q : Nat, s.heap.size ≤ q → A q := fun q h => by rw [← hAe]; exact Or.inr h
  have hS : va_S A s.heap s.heap [] := va_S.rf
  have hl := lv_entry ([.ref w, .int d, .int z]) (n := 3) (Nat.le_of_ble_eq_true rfl)
  rw [lg_entry_eq]
  generalize (lg_sl ([.ref w, .int d, .int z]) ++ List.replicate (3 - (lg_sl ([.ref w, .int d, .int z])).length) Slot.unset).toArray = ls at hl ⊢
  have hl : lv_has ls 3 [(0, .ref w), (1, .int d), (2, .int z)] := hl
  have hP : va_P D vwCl [(w, .inr (7, [.ref st, .ref hi, .ref re, .ref fo, .ref bu, .ref pa])), (hi, .inr (5, [.ref ri, .int 0, .int 0])), (ri, .inl (KS, 6, .inr (.inr (.inr (.inr rf))))), (zst, .inr (6, [.ref zla, .ref zme, .ref zli, .int ztol, .int zsu, .int zfa])), (zla, .inr (2, [.ref zld, .ref zlz])), (zld, .inr (4, [.ref zldA, .int zldN])), (zlz, .inr (4, [.ref zlzA, .int zlzN])), (zme, .inr (4, [.ref zmeA, .int zmeN])), (zli, .inr (0, [.ref zln, .ref zll, .ref zlc])), (zln, .inr (4, [.ref zlnA, .int zlnN])), (zll, .inr (4, [.ref zllA, .int zllN])), (zlc, .inr (4, [.ref zlcA, .int zlcN])), (st, .inr (6, [.ref la, .ref me, .ref li, .int tol, .int su, .int fa])), (la, .inr (2, [.ref ld, .ref lz])), (ld, .inr (4, [.ref ldA, .int 0])), (lz, .inr (4, [.ref lzA, .int 0])), (me, .inr (4, [.ref meA, .int 0])), (li, .inr (0, [.ref ln, .ref ll, .ref lc])), (ln, .inr (4, [.ref lnA, .int 0])), (ll, .inr (4, [.ref llA, .int 0])), (lc, .inr (4, [.ref lcA, .int 0])), (ldA, .inl (K, 9, .inl ldf)), (lzA, .inl (K, 41, .inl lzf))] s.heap := hP
  refine lv_iload_n hx hb dX7_print_0 rfl (lv_at hl 2 rfl) ?_
  refine lv_iconst (v := 1) hx hb dX7_print_1 (by decide) ?_
  refine lv_icmp_lt (tgt := 11) hx hb dX7_print_2 (by decide) (fun c_1 => ?_) (fun c_1 => ?_)
  · have hc9 := c_1
    obtain ⟨sa, hsa⟩ := hG.2.2.2.1 (51, "count is not 1 to 8") (by decide +kernel)
    exact vx_throwS hx hb hst (own := RX7) (cls := "java/lang/IllegalArgumentException") (text := "count is not 1 to 8") (names := ["java/lang/RuntimeException", "java/lang/Exception"]) (ik := 49) (is := 51) (ic := 53) (sa := sa) hown (by decide +kernel) (by decide +kernel) (ht _ lc_X7_49) (ht _ li_java_lang_IllegalArgumentException) hsa (vx_hat (fun w h => ht w (List.mem_filter.mpr ⟨lh_X7_53.1 w h, (List.mem_filter.mp h).2⟩)) lh_X7_53.2.1 (fun w h => va_Nw.use (k_NX_on (List.mem_filter.mp h).2) (hG.1 w (List.mem_filter.mp h).1 (List.mem_filter.mp h).2))) lh_X7_53.2.2 hG.2.1 hG.2.2.1 hS (by rw [hml]; exact hl.1) dX7_print_11 dX7_print_14 dX7_print_15 dX7_print_17 dX7_print_20 (fun x h9 => (htab x h9).elim) (Nat.le_of_ble_eq_true rfl) (Nat.le_of_ble_eq_true rfl) (Nat.le_of_ble_eq_true rfl) (Nat.le_of_ble_eq_true rfl) hlocks (fun t hv9 hz9 hk9 => ⟨(), trivial, ⟨by exact ⟨rfl, fun h9 => h9.1 c_1⟩, (hP.sub [0, 1, 2, 3, 4, 5, 6, 7, 8, 9, 10, 11, 12, 13, 14, 15, 16, 17, 18, 19, 20, 21, 22] rfl).kept (fun k q hk => hk9 _ (vx_lt (hP.sub [0, 1, 2, 3, 4, 5, 6, 7, 8, 9, 10, 11, 12, 13, 14, 15, 16, 17, 18, 19, 20, 21, 22] rfl) hk)), va_K.moved hv9 (hK.sub [] rfl), hD.sub [0, 1, 2, 3, 4, 5, 6, 7, 8, 9, 10, 11, 12, 13, 14, 15, 16, 17, 18, 19, 20, 21, 22] (by decide) rfl⟩, ⟨Nat.le_trans hS.1 hz9, fun q h1 h2 => (hk9 q (Nat.lt_of_lt_of_le h1 hS.1)).trans (hS.2.1 q h1 h2)⟩⟩) hS.2.2 (Nat.le_of_ble_eq_true rfl) (Nat.le_of_ble_eq_true rfl)
  · have hc9 := c_1
    refine lv_iload_n hx hb dX7_print_5 rfl (lv_at hl 2 rfl) ?_
    refine lv_bipush (v := 8) hx hb dX7_print_6 (by decide) ?_
    refine lv_icmp_le (tgt := 21) hx hb dX7_print_8 (by decide) (fun c_2 => ?_) (fun c_2 => ?_)
    · have hc9 := c_2
      obtain ⟨j, hj1, hj8, hz⟩ := cnt_of c_1 c_2
      refine lv_iload_n hx hb dX7_print_21 rfl (lv_at hl 1 rfl) ?_
      refine lv_if_lt (tgt := 33) hx hb dX7_print_22 (by decide) (fun c_3 => ?_) (fun c_3 => ?_)
      · have hc9 := c_3
        obtain ⟨sa, hsa⟩ := hG.2.2.2.1 (60, "digits is negative or has more than count digits") (by decide +kernel)
        exact vx_throwS hx hb hst (own := RX7) (cls := "java/lang/IllegalArgumentException") (text := "digits is negative or has more than count digits") (names := ["java/lang/RuntimeException", "java/lang/Exception"]) (ik := 49) (is := 60) (ic := 53) (sa := sa) hown (by decide +kernel) (by decide +kernel) (ht _ lc_X7_49) (ht _ li_java_lang_IllegalArgumentException) hsa (vx_hat (fun w h => ht w (List.mem_filter.mpr ⟨lh_X7_53.1 w h, (List.mem_filter.mp h).2⟩)) lh_X7_53.2.1 (fun w h => va_Nw.use (k_NX_on (List.mem_filter.mp h).2) (hG.1 w (List.mem_filter.mp h).1 (List.mem_filter.mp h).2))) lh_X7_53.2.2 hG.2.1 hG.2.2.1 hS (by rw [hml]; exact hl.1) dX7_print_33 dX7_print_36 dX7_print_37 dX7_print_39 dX7_print_42 (fun x h9 => (htab x h9).elim) (Nat.le_of_ble_eq_true rfl) (Nat.le_of_ble_eq_true rfl) (Nat.le_of_ble_eq_true rfl) (Nat.le_of_ble_eq_true rfl) hlocks (fun t hv9 hz9 hk9 => ⟨(), trivial, ⟨by exact ⟨rfl, fun h9 => h9.2.2.1 c_3⟩, (hP.sub [0, 1, 2, 3, 4, 5, 6, 7, 8, 9, 10, 11, 12, 13, 14, 15, 16, 17, 18, 19, 20, 21, 22] rfl).kept (fun k q hk => hk9 _ (vx_lt (hP.sub [0, 1, 2, 3, 4, 5, 6, 7, 8, 9, 10, 11, 12, 13, 14, 15, 16, 17, 18, 19, 20, 21, 22] rfl) hk)), va_K.moved hv9 (hK.sub [] rfl), hD.sub [0, 1, 2, 3, 4, 5, 6, 7, 8, 9, 10, 11, 12, 13, 14, 15, 16, 17, 18, 19, 20, 21, 22] (by decide) rfl⟩, ⟨Nat.le_trans hS.1 hz9, fun q h1 h2 => (hk9 q (Nat.lt_of_lt_of_le h1 hS.1)).trans (hS.2.1 q h1 h2)⟩⟩) hS.2.2 (Nat.le_of_ble_eq_true rfl) (Nat.le_of_ble_eq_true rfl)
      · have hc9 := c_3
        refine lv_iload_n hx hb dX7_print_25 rfl (lv_at hl 1 rfl) ?_
        refine lv_iload_n hx hb dX7_print_26 rfl (lv_at hl 2 rfl) ?_
        have ct := k_cut_of (wc := []) (wr := [(w, .inr (7, [.ref st, .ref hi, .ref re, .ref fo, .ref bu, .ref pa])), (hi, .inr (5, [.ref ri, .int 0, .int 0])), (ri, .inl (KS, 6, .inr (.inr (.inr (.inr rf))))), (zst, .inr (6, [.ref zla, .ref zme, .ref zli, .int ztol, .int zsu, .int zfa])), (zla, .inr (2, [.ref zld, .ref zlz])), (zld, .inr (4, [.ref zldA, .int zldN])), (zlz, .inr (4, [.ref zlzA, .int zlzN])), (zme, .inr (4, [.ref zmeA, .int zmeN])), (zli, .inr (0, [.ref zln, .ref zll, .ref zlc])), (zln, .inr (4, [.ref zlnA, .int zlnN])), (zll, .inr (4, [.ref zllA, .int zllN])), (zlc, .inr (4, [.ref zlcA, .int zlcN])), (st, .inr (6, [.ref la, .ref me, .ref li, .int tol, .int su, .int fa])), (la, .inr (2, [.ref ld, .ref lz])), (ld, .inr (4, [.ref ldA, .int 0])), (lz, .inr (4, [.ref lzA, .int 0])), (me, .inr (4, [.ref meA, .int 0])), (li, .inr (0, [.ref ln, .ref ll, .ref lc])), (ln, .inr (4, [.ref lnA, .int 0])), (ll, .inr (4, [.ref llA, .int 0])), (lc, .inr (4, [.ref lcA, .int 0])), (ldA, .inl (K, 9, .inl ldf)), (lzA, .inl (K, 41, .inl lzf))]) (tc := []) hG hS hA hK hP hD [] [0, 1, 2, 3, 4, 5, 6, 7, 8, 9, 10, 11, 12, 13, 14, 15, 16, 17, 18, 19, 20, 21, 22] [] rfl rfl (by decide) (by decide) (by decide) rfl
        refine k_endi (As := [.int z]) ct (k_runS (As := [.int z]) (rest := [.int d]) S0 Ls_X7_56 ct (c_W_pow l D z j (by assumption) (by omega) s.heap.size) hl.1 rfl (Nat.le_of_ble_eq_true rfl) rfl dX7_print_27 ⟨⟨Nat.le_of_ble_eq_true rfl, Nat.le_of_ble_eq_true rfl⟩, Nat.le_of_ble_eq_true rfl, Nat.le_of_ble_eq_true rfl⟩) rfl rfl (fun r_4 _ H locs hw_5 hP hD hK hS => ?_)
        have hK : va_K D vwCl [(K, .int), (KS, .object "BarcodeWand$State")] s := hK
        have hP : va_P D vwCl [(w, .inr (7, [.ref st, .ref hi, .ref re, .ref fo, .ref bu, .ref pa])), (hi, .inr (5, [.ref ri, .int 0, .int 0])), (ri, .inl (KS, 6, .inr (.inr (.inr (.inr rf))))), (zst, .inr (6, [.ref zla, .ref zme, .ref zli, .int ztol, .int zsu, .int zfa])), (zla, .inr (2, [.ref zld, .ref zlz])), (zld, .inr (4, [.ref zldA, .int zldN])), (zlz, .inr (4, [.ref zlzA, .int zlzN])), (zme, .inr (4, [.ref zmeA, .int zmeN])), (zli, .inr (0, [.ref zln, .ref zll, .ref zlc])), (zln, .inr (4, [.ref zlnA, .int zlnN])), (zll, .inr (4, [.ref zllA, .int zllN])), (zlc, .inr (4, [.ref zlcA, .int zlcN])), (st, .inr (6, [.ref la, .ref me, .ref li, .int tol, .int su, .int fa])), (la, .inr (2, [.ref ld, .ref lz])), (ld, .inr (4, [.ref ldA, .int 0])), (lz, .inr (4, [.ref lzA, .int 0])), (me, .inr (4, [.ref meA, .int 0])), (li, .inr (0, [.ref ln, .ref ll, .ref lc])), (ln, .inr (4, [.ref lnA, .int 0])), (ll, .inr (4, [.ref llA, .int 0])), (lc, .inr (4, [.ref lcA, .int 0])), (ldA, .inl (K, 9, .inl ldf)), (lzA, .inl (K, 41, .inl lzf))] H := hP
        have hD : va_D A [(w, .inr (7, [.ref st, .ref hi, .ref re, .ref fo, .ref bu, .ref pa])), (hi, .inr (5, [.ref ri, .int 0, .int 0])), (ri, .inl (KS, 6, .inr (.inr (.inr (.inr rf))))), (zst, .inr (6, [.ref zla, .ref zme, .ref zli, .int ztol, .int zsu, .int zfa])), (zla, .inr (2, [.ref zld, .ref zlz])), (zld, .inr (4, [.ref zldA, .int zldN])), (zlz, .inr (4, [.ref zlzA, .int zlzN])), (zme, .inr (4, [.ref zmeA, .int zmeN])), (zli, .inr (0, [.ref zln, .ref zll, .ref zlc])), (zln, .inr (4, [.ref zlnA, .int zlnN])), (zll, .inr (4, [.ref zllA, .int zllN])), (zlc, .inr (4, [.ref zlcA, .int zlcN])), (st, .inr (6, [.ref la, .ref me, .ref li, .int tol, .int su, .int fa])), (la, .inr (2, [.ref ld, .ref lz])), (ld, .inr (4, [.ref ldA, .int 0])), (lz, .inr (4, [.ref lzA, .int 0])), (me, .inr (4, [.ref meA, .int 0])), (li, .inr (0, [.ref ln, .ref ll, .ref lc])), (ln, .inr (4, [.ref lnA, .int 0])), (ll, .inr (4, [.ref llA, .int 0])), (lc, .inr (4, [.ref lcA, .int 0])), (ldA, .inl (K, 9, .inl ldf)), (lzA, .inl (K, 41, .inl lzf))] := hD
        have hw_5 : r_4 = (pw10 j) := hw_5
        have hw_5 := hw_5.symm
        subst hw_5
        refine k_nrm (y := (pw10 j)) rfl ?_
        refine lv_icmp_lt (tgt := 43) hx hb dX7_print_30 (by decide) (fun c_6 => ?_) (fun c_6 => ?_)
        · have hc9 := c_6
          refine lv_aload_n hx hb dX7_print_43 rfl (lv_at hl 0 rfl) ?_
          refine va_get (D := D) (ci := 7) (v := .ref hi) (C := RX7) (T := TX7) (N := 6) hx hb ht inA_X7 hown hK hP 0 rfl rfl 1 (by decide) (ht _ lf_X7_19) (fun _ h9 => h9) rfl dX7_print_44 ?_
          refine lv_aload_n hx hb dX7_print_47 rfl (lv_at hl 0 rfl) ?_
          refine va_get (D := D) (ci := 7) (v := .ref st) (C := RX7) (T := TX7) (N := 6) hx hb ht inA_X7 hown hK hP 0 rfl rfl 0 (by decide) (ht _ lf_X7_10) (fun _ h9 => h9) rfl dX7_print_48 ?_
          have ct := k_cut_of (wc := [(hi, .inr (5, [.ref ri, .int 0, .int 0])), (ri, .inl (KS, 6, .inr (.inr (.inr (.inr rf))))), (zst, .inr (6, [.ref zla, .ref zme, .ref zli, .int ztol, .int zsu, .int zfa])), (zla, .inr (2, [.ref zld, .ref zlz])), (zld, .inr (4, [.ref zldA, .int zldN])), (zlz, .inr (4, [.ref zlzA, .int zlzN])), (zme, .inr (4, [.ref zmeA, .int zmeN])), (zli, .inr (0, [.ref zln, .ref zll, .ref zlc])), (zln, .inr (4, [.ref zlnA, .int zlnN])), (zll, .inr (4, [.ref zllA, .int zllN])), (zlc, .inr (4, [.ref zlcA, .int zlcN])), (st, .inr (6, [.ref la, .ref me, .ref li, .int tol, .int su, .int fa])), (la, .inr (2, [.ref ld, .ref lz])), (ld, .inr (4, [.ref ldA, .int 0])), (lz, .inr (4, [.ref lzA, .int 0])), (me, .inr (4, [.ref meA, .int 0])), (li, .inr (0, [.ref ln, .ref ll, .ref lc])), (ln, .inr (4, [.ref lnA, .int 0])), (ll, .inr (4, [.ref llA, .int 0])), (lc, .inr (4, [.ref lcA, .int 0]))]) (wr := [(w, .inr (7, [.ref st, .ref hi, .ref re, .ref fo, .ref bu, .ref pa])), (ldA, .inl (K, 9, .inl ldf)), (lzA, .inl (K, 41, .inl lzf))]) (tc := [(KS, .object "BarcodeWand$State")]) hG hS hA hK hP hD [1, 2, 3, 4, 5, 6, 7, 8, 9, 10, 11, 12, 13, 14, 15, 16, 17, 18, 19, 20] [0, 21, 22] [1] rfl rfl (by decide) (by decide) (by decide) rfl
          refine k_endv (As := [.ref hi, .ref st]) ct (k_runV (As := [.ref st]) (rest := []) S0 Lv_X7_62 rfl (ci := 5) (q0 := 0) rfl rfl ct (c_Saved_save0 l D hi ri KS rf zst zla zme zli ztol zsu zfa zld zlz zldA zldN zlzA zlzN zmeA zmeN zln zll zlc zlnA zlnN zllA zllN zlcA zlcN st la me li tol su fa ld lz ldA lzA meA ln ll lc lnA llA lcA (by assumption) H.size) hl.1 rfl (Nat.le_of_ble_eq_true rfl) rfl dX7_print_51 ⟨⟨Nat.le_of_ble_eq_true rfl, Nat.le_of_ble_eq_true rfl⟩, Nat.le_of_ble_eq_true rfl, Nat.le_of_ble_eq_true rfl⟩) rfl rfl (fun _ _ H locs hw_8 hP hD hK hS => ?_)
          have hK : va_K D vwCl [(K, .int), (KS, .object "BarcodeWand$State")] s := hK
          have hP : va_P D vwCl [(w, .inr (7, [.ref st, .ref hi, .ref re, .ref fo, .ref bu, .ref pa])), (ldA, .inl (K, 9, .inl ldf)), (lzA, .inl (K, 41, .inl lzf)), (hi, .inr (5, [.ref ri, .int 1, .int 1])), (ri, .inl (KS, 6, .inr (.inr (.inr (.inr rf))))), (zst, .inr (6, [.ref zla, .ref zme, .ref zli, .int tol, .int su, .int fa])), (zla, .inr (2, [.ref zld, .ref zlz])), (zld, .inr (4, [.ref zldA, .int 0])), (zlz, .inr (4, [.ref zlzA, .int 0])), (zme, .inr (4, [.ref zmeA, .int 0])), (zli, .inr (0, [.ref zln, .ref zll, .ref zlc])), (zln, .inr (4, [.ref zlnA, .int 0])), (zll, .inr (4, [.ref zllA, .int 0])), (zlc, .inr (4, [.ref zlcA, .int 0])), (st, .inr (6, [.ref la, .ref me, .ref li, .int tol, .int su, .int fa])), (la, .inr (2, [.ref ld, .ref lz])), (ld, .inr (4, [.ref ldA, .int 0])), (lz, .inr (4, [.ref lzA, .int 0])), (me, .inr (4, [.ref meA, .int 0])), (li, .inr (0, [.ref ln, .ref ll, .ref lc])), (ln, .inr (4, [.ref lnA, .int 0])), (ll, .inr (4, [.ref llA, .int 0])), (lc, .inr (4, [.ref lcA, .int 0]))] H := hP
          have hD : va_D A [(w, .inr (7, [.ref st, .ref hi, .ref re, .ref fo, .ref bu, .ref pa])), (ldA, .inl (K, 9, .inl ldf)), (lzA, .inl (K, 41, .inl lzf)), (hi, .inr (5, [.ref ri, .int 1, .int 1])), (ri, .inl (KS, 6, .inr (.inr (.inr (.inr rf))))), (zst, .inr (6, [.ref zla, .ref zme, .ref zli, .int tol, .int su, .int fa])), (zla, .inr (2, [.ref zld, .ref zlz])), (zld, .inr (4, [.ref zldA, .int 0])), (zlz, .inr (4, [.ref zlzA, .int 0])), (zme, .inr (4, [.ref zmeA, .int 0])), (zli, .inr (0, [.ref zln, .ref zll, .ref zlc])), (zln, .inr (4, [.ref zlnA, .int 0])), (zll, .inr (4, [.ref zllA, .int 0])), (zlc, .inr (4, [.ref zlcA, .int 0])), (st, .inr (6, [.ref la, .ref me, .ref li, .int tol, .int su, .int fa])), (la, .inr (2, [.ref ld, .ref lz])), (ld, .inr (4, [.ref ldA, .int 0])), (lz, .inr (4, [.ref lzA, .int 0])), (me, .inr (4, [.ref meA, .int 0])), (li, .inr (0, [.ref ln, .ref ll, .ref lc])), (ln, .inr (4, [.ref lnA, .int 0])), (ll, .inr (4, [.ref llA, .int 0])), (lc, .inr (4, [.ref lcA, .int 0]))] := hD
          refine lv_aload_n hx hb dX7_print_54 rfl (lv_at hl 0 rfl) ?_
          refine va_get (D := D) (ci := 7) (v := .ref st) (C := RX7) (T := TX7) (N := 6) hx hb ht inA_X7 hown hK hP 0 rfl rfl 0 (by decide) (ht _ lf_X7_10) (fun _ h9 => h9) rfl dX7_print_55 ?_
          refine va_get (D := D) (ci := 6) (v := .ref la) (C := RX6) (T := TX6) (N := 6) hx hb ht inA_X6 hown hK hP 14 rfl rfl 0 (by decide) (ht _ lf_X7_66) (fun _ h9 => h9) rfl dX7_print_58 ?_
          refine lv_iload_n hx hb dX7_print_61 rfl (lv_at hl 1 rfl) ?_
          refine lv_iload_n hx hb dX7_print_62 rfl (lv_at hl 2 rfl) ?_
          have ct := k_cut_of (wc := [(la, .inr (2, [.ref ld, .ref lz])), (ld, .inr (4, [.ref ldA, .int 0])), (ldA, .inl (K, 9, .inl ldf)), (lz, .inr (4, [.ref lzA, .int 0])), (lzA, .inl (K, 41, .inl lzf))]) (wr := [(w, .inr (7, [.ref st, .ref hi, .ref re, .ref fo, .ref bu, .ref pa])), (hi, .inr (5, [.ref ri, .int 1, .int 1])), (ri, .inl (KS, 6, .inr (.inr (.inr (.inr rf))))), (zst, .inr (6, [.ref zla, .ref zme, .ref zli, .int tol, .int su, .int fa])), (zla, .inr (2, [.ref zld, .ref zlz])), (zld, .inr (4, [.ref zldA, .int 0])), (zlz, .inr (4, [.ref zlzA, .int 0])), (zme, .inr (4, [.ref zmeA, .int 0])), (zli, .inr (0, [.ref zln, .ref zll, .ref zlc])), (zln, .inr (4, [.ref zlnA, .int 0])), (zll, .inr (4, [.ref zllA, .int 0])), (zlc, .inr (4, [.ref zlcA, .int 0])), (st, .inr (6, [.ref la, .ref me, .ref li, .int tol, .int su, .int fa])), (me, .inr (4, [.ref meA, .int 0])), (li, .inr (0, [.ref ln, .ref ll, .ref lc])), (ln, .inr (4, [.ref lnA, .int 0])), (ll, .inr (4, [.ref llA, .int 0])), (lc, .inr (4, [.ref lcA, .int 0]))]) (tc := [(K, .int)]) hG hS hA hK hP hD [15, 16, 1, 17, 2] [0, 3, 4, 5, 6, 7, 8, 9, 10, 11, 12, 13, 14, 18, 19, 20, 21, 22] [0] rfl rfl (by decide) (by decide) (by decide) rfl
          refine k_endv (As := [.ref la, .int d, .int z]) ct (k_runV (As := [.int d, .int z]) (rest := []) S0 Lv_X7_70 rfl (ci := 2) (q0 := 0) rfl rfl ct (c_setDigits l D la ld lz ldA 0 K ldf lzA 0 lzf d z j (by assumption) (by assumption) (by assumption) H.size) hl.1 rfl (Nat.le_of_ble_eq_true rfl) rfl dX7_print_63 ⟨⟨Nat.le_of_ble_eq_true rfl, Nat.le_of_ble_eq_true rfl⟩, Nat.le_of_ble_eq_true rfl, Nat.le_of_ble_eq_true rfl⟩) rfl rfl (fun _ _ H locs hw_10 hP hD hK hS => ?_)
          have hK : va_K D vwCl [(K, .int), (KS, .object "BarcodeWand$State")] s := hK
          have hP : va_P D vwCl [(w, .inr (7, [.ref st, .ref hi, .ref re, .ref fo, .ref bu, .ref pa])), (hi, .inr (5, [.ref ri, .int 1, .int 1])), (ri, .inl (KS, 6, .inr (.inr (.inr (.inr rf))))), (zst, .inr (6, [.ref zla, .ref zme, .ref zli, .int tol, .int su, .int fa])), (zla, .inr (2, [.ref zld, .ref zlz])), (zld, .inr (4, [.ref zldA, .int 0])), (zlz, .inr (4, [.ref zlzA, .int 0])), (zme, .inr (4, [.ref zmeA, .int 0])), (zli, .inr (0, [.ref zln, .ref zll, .ref zlc])), (zln, .inr (4, [.ref zlnA, .int 0])), (zll, .inr (4, [.ref zllA, .int 0])), (zlc, .inr (4, [.ref zlcA, .int 0])), (st, .inr (6, [.ref la, .ref me, .ref li, .int tol, .int su, .int fa])), (me, .inr (4, [.ref meA, .int 0])), (li, .inr (0, [.ref ln, .ref ll, .ref lc])), (ln, .inr (4, [.ref lnA, .int 0])), (ll, .inr (4, [.ref llA, .int 0])), (lc, .inr (4, [.ref lcA, .int 0])), (la, .inr (2, [.ref ld, .ref lz])), (ld, .inr (4, [.ref ldA, .int (nI (j + 1))])), (ldA, .inl (K, 9, .inl (upd (dgs d 0 j (zf ldf (j + 1)) j) j (chkd (csum (dgs d 0 j (zf ldf (j + 1)) j) j j))))), (lz, .inr (4, [.ref lzA, .int (nI (4 * j + 9))])), (lzA, .inl (K, 41, .inl (zf lzf (4 * j + 9))))] H := hP
          have hD : va_D A [(w, .inr (7, [.ref st, .ref hi, .ref re, .ref fo, .ref bu, .ref pa])), (hi, .inr (5, [.ref ri, .int 1, .int 1])), (ri, .inl (KS, 6, .inr (.inr (.inr (.inr rf))))), (zst, .inr (6, [.ref zla, .ref zme, .ref zli, .int tol, .int su, .int fa])), (zla, .inr (2, [.ref zld, .ref zlz])), (zld, .inr (4, [.ref zldA, .int 0])), (zlz, .inr (4, [.ref zlzA, .int 0])), (zme, .inr (4, [.ref zmeA, .int 0])), (zli, .inr (0, [.ref zln, .ref zll, .ref zlc])), (zln, .inr (4, [.ref zlnA, .int 0])), (zll, .inr (4, [.ref zllA, .int 0])), (zlc, .inr (4, [.ref zlcA, .int 0])), (st, .inr (6, [.ref la, .ref me, .ref li, .int tol, .int su, .int fa])), (me, .inr (4, [.ref meA, .int 0])), (li, .inr (0, [.ref ln, .ref ll, .ref lc])), (ln, .inr (4, [.ref lnA, .int 0])), (ll, .inr (4, [.ref llA, .int 0])), (lc, .inr (4, [.ref lcA, .int 0])), (la, .inr (2, [.ref ld, .ref lz])), (ld, .inr (4, [.ref ldA, .int (nI (j + 1))])), (ldA, .inl (K, 9, .inl (upd (dgs d 0 j (zf ldf (j + 1)) j) j (chkd (csum (dgs d 0 j (zf ldf (j + 1)) j) j j))))), (lz, .inr (4, [.ref lzA, .int (nI (4 * j + 9))])), (lzA, .inl (K, 41, .inl (zf lzf (4 * j + 9))))] := hD
          refine lv_aload_n hx hb dX7_print_66 rfl (lv_at hl 0 rfl) ?_
          refine va_get (D := D) (ci := 7) (v := .ref st) (C := RX7) (T := TX7) (N := 6) hx hb ht inA_X7 hown hK hP 0 rfl rfl 0 (by decide) (ht _ lf_X7_10) (fun _ h9 => h9) rfl dX7_print_67 ?_
          refine va_get (D := D) (ci := 6) (v := .ref la) (C := RX6) (T := TX6) (N := 6) hx hb ht inA_X6 hown hK hP 12 rfl rfl 0 (by decide) (ht _ lf_X7_66) (fun _ h9 => h9) rfl dX7_print_70 ?_
          refine va_get (D := D) (ci := 2) (v := .ref ld) (C := RX2) (T := TX2) (N := 2) hx hb ht inA_X2 hown hK hP 18 rfl rfl 0 (by decide) (ht _ lf_X7_76) (fun _ h9 => h9) rfl dX7_print_73 ?_
          refine lv_iload_n hx hb dX7_print_76 rfl (lv_at hl 2 rfl) ?_
          have ct := k_cut_of (wc := [(ld, .inr (4, [.ref ldA, .int (nI (j + 1))])), (ldA, .inl (K, 9, .inl (upd (dgs d 0 j (zf ldf (j + 1)) j) j (chkd (csum (dgs d 0 j (zf ldf (j + 1)) j) j j)))))]) (wr := [(w, .inr (7, [.ref st, .ref hi, .ref re, .ref fo, .ref bu, .ref pa])), (hi, .inr (5, [.ref ri, .int 1, .int 1])), (ri, .inl (KS, 6, .inr (.inr (.inr (.inr rf))))), (zst, .inr (6, [.ref zla, .ref zme, .ref zli, .int tol, .int su, .int fa])), (zla, .inr (2, [.ref zld, .ref zlz])), (zld, .inr (4, [.ref zldA, .int 0])), (zlz, .inr (4, [.ref zlzA, .int 0])), (zme, .inr (4, [.ref zmeA, .int 0])), (zli, .inr (0, [.ref zln, .ref zll, .ref zlc])), (zln, .inr (4, [.ref zlnA, .int 0])), (zll, .inr (4, [.ref zllA, .int 0])), (zlc, .inr (4, [.ref zlcA, .int 0])), (st, .inr (6, [.ref la, .ref me, .ref li, .int tol, .int su, .int fa])), (me, .inr (4, [.ref meA, .int 0])), (li, .inr (0, [.ref ln, .ref ll, .ref lc])), (ln, .inr (4, [.ref lnA, .int 0])), (ll, .inr (4, [.ref llA, .int 0])), (lc, .inr (4, [.ref lcA, .int 0])), (la, .inr (2, [.ref ld, .ref lz])), (lz, .inr (4, [.ref lzA, .int (nI (4 * j + 9))])), (lzA, .inl (K, 41, .inl (zf lzf (4 * j + 9))))]) (tc := [(K, .int)]) hG hS hA hK hP hD [19, 20] [0, 1, 2, 3, 4, 5, 6, 7, 8, 9, 10, 11, 12, 13, 14, 15, 16, 17, 18, 21, 22] [0] rfl rfl (by decide) (by decide) (by decide) rfl
          refine k_endi (As := [.ref ld, .int z]) ct (k_runV (As := [.int z]) (rest := []) S0 Lv_X7_79 rfl (ci := 4) (q0 := 0) rfl rfl ct (c_Row_at l D ld ldA K 9 (nI (j + 1)) (upd (dgs d 0 j (zf ldf (j + 1)) j) j (chkd (csum (dgs d 0 j (zf ldf (j + 1)) j) j j))) z (by first | assumption | decide) H.size) hl.1 rfl (Nat.le_of_ble_eq_true rfl) rfl dX7_print_77 ⟨⟨Nat.le_of_ble_eq_true rfl, Nat.le_of_ble_eq_true rfl⟩, Nat.le_of_ble_eq_true rfl, Nat.le_of_ble_eq_true rfl⟩) rfl rfl (fun r_11 _ H locs hw_12 hP hD hK hS => ?_)
          have hK : va_K D vwCl [(K, .int), (KS, .object "BarcodeWand$State")] s := hK
          have hP : va_P D vwCl [(w, .inr (7, [.ref st, .ref hi, .ref re, .ref fo, .ref bu, .ref pa])), (hi, .inr (5, [.ref ri, .int 1, .int 1])), (ri, .inl (KS, 6, .inr (.inr (.inr (.inr rf))))), (zst, .inr (6, [.ref zla, .ref zme, .ref zli, .int tol, .int su, .int fa])), (zla, .inr (2, [.ref zld, .ref zlz])), (zld, .inr (4, [.ref zldA, .int 0])), (zlz, .inr (4, [.ref zlzA, .int 0])), (zme, .inr (4, [.ref zmeA, .int 0])), (zli, .inr (0, [.ref zln, .ref zll, .ref zlc])), (zln, .inr (4, [.ref zlnA, .int 0])), (zll, .inr (4, [.ref zllA, .int 0])), (zlc, .inr (4, [.ref zlcA, .int 0])), (st, .inr (6, [.ref la, .ref me, .ref li, .int tol, .int su, .int fa])), (me, .inr (4, [.ref meA, .int 0])), (li, .inr (0, [.ref ln, .ref ll, .ref lc])), (ln, .inr (4, [.ref lnA, .int 0])), (ll, .inr (4, [.ref llA, .int 0])), (lc, .inr (4, [.ref lcA, .int 0])), (la, .inr (2, [.ref ld, .ref lz])), (lz, .inr (4, [.ref lzA, .int (nI (4 * j + 9))])), (lzA, .inl (K, 41, .inl (zf lzf (4 * j + 9)))), (ld, .inr (4, [.ref ldA, .int (nI (j + 1))])), (ldA, .inl (K, 9, .inl (upd (dgs d 0 j (zf ldf (j + 1)) j) j (chkd (csum (dgs d 0 j (zf ldf (j + 1)) j) j j)))))] H := hP
          have hD : va_D A [(w, .inr (7, [.ref st, .ref hi, .ref re, .ref fo, .ref bu, .ref pa])), (hi, .inr (5, [.ref ri, .int 1, .int 1])), (ri, .inl (KS, 6, .inr (.inr (.inr (.inr rf))))), (zst, .inr (6, [.ref zla, .ref zme, .ref zli, .int tol, .int su, .int fa])), (zla, .inr (2, [.ref zld, .ref zlz])), (zld, .inr (4, [.ref zldA, .int 0])), (zlz, .inr (4, [.ref zlzA, .int 0])), (zme, .inr (4, [.ref zmeA, .int 0])), (zli, .inr (0, [.ref zln, .ref zll, .ref zlc])), (zln, .inr (4, [.ref zlnA, .int 0])), (zll, .inr (4, [.ref zllA, .int 0])), (zlc, .inr (4, [.ref zlcA, .int 0])), (st, .inr (6, [.ref la, .ref me, .ref li, .int tol, .int su, .int fa])), (me, .inr (4, [.ref meA, .int 0])), (li, .inr (0, [.ref ln, .ref ll, .ref lc])), (ln, .inr (4, [.ref lnA, .int 0])), (ll, .inr (4, [.ref llA, .int 0])), (lc, .inr (4, [.ref lcA, .int 0])), (la, .inr (2, [.ref ld, .ref lz])), (lz, .inr (4, [.ref lzA, .int (nI (4 * j + 9))])), (lzA, .inl (K, 41, .inl (zf lzf (4 * j + 9)))), (ld, .inr (4, [.ref ldA, .int (nI (j + 1))])), (ldA, .inl (K, 9, .inl (upd (dgs d 0 j (zf ldf (j + 1)) j) j (chkd (csum (dgs d 0 j (zf ldf (j + 1)) j) j j)))))] := hD
          have hw_12 : r_11 = rowAt 9 (nI (j + 1)) (upd (dgs d 0 j (zf ldf (j + 1)) j) j (chkd (csum (dgs d 0 j (zf ldf (j + 1)) j) j j))) z := hw_12
          have hr9 : r_11 = chkd (cS d z.toNatClampNeg) := by rw [hw_12, hz, rowAt_lt (by omega) (by omega) (by decide), nI_clamp (by omega), pk_us, csum_dgs (d := d) (f := zf ldf (j + 1)) (fun x hx => by rw [Nat.zero_add]) j (Nat.le_refl j)]
          have hP9 : va_P D vwCl [(w, .inr (7, [.ref st, .ref hi, .ref re, .ref fo, .ref bu, .ref pa])), (hi, .inr (5, [.ref ri, .int 1, .int 1])), (ri, .inl (KS, 6, .inr (.inr (.inr (.inr rf))))), (zst, .inr (6, [.ref zla, .ref zme, .ref zli, .int tol, .int su, .int fa])), (zla, .inr (2, [.ref zld, .ref zlz])), (zld, .inr (4, [.ref zldA, .int 0])), (zlz, .inr (4, [.ref zlzA, .int 0])), (zme, .inr (4, [.ref zmeA, .int 0])), (zli, .inr (0, [.ref zln, .ref zll, .ref zlc])), (zln, .inr (4, [.ref zlnA, .int 0])), (zll, .inr (4, [.ref zllA, .int 0])), (zlc, .inr (4, [.ref zlcA, .int 0])), (st, .inr (6, [.ref la, .ref me, .ref li, .int tol, .int su, .int fa])), (la, .inr (2, [.ref ld, .ref lz])), (ld, .inr (4, [.ref ldA, .int (nI (j + 1))])), (lz, .inr (4, [.ref lzA, .int (nI (4 * j + 9))])), (me, .inr (4, [.ref meA, .int 0])), (li, .inr (0, [.ref ln, .ref ll, .ref lc])), (ln, .inr (4, [.ref lnA, .int 0])), (ll, .inr (4, [.ref llA, .int 0])), (lc, .inr (4, [.ref lcA, .int 0])), (ldA, .inl (K, 9, .inl (upd (dgs d 0 j (zf ldf (j + 1)) j) j (chkd (csum (dgs d 0 j (zf ldf (j + 1)) j) j j))))), (lzA, .inl (K, 41, .inl (zf lzf (4 * j + 9))))] H := hP.sub [0, 1, 2, 3, 4, 5, 6, 7, 8, 9, 10, 11, 12, 18, 21, 19, 13, 14, 15, 16, 17, 22, 20] rfl
          have hD9 : va_D A [(w, .inr (7, [.ref st, .ref hi, .ref re, .ref fo, .ref bu, .ref pa])), (hi, .inr (5, [.ref ri, .int 1, .int 1])), (ri, .inl (KS, 6, .inr (.inr (.inr (.inr rf))))), (zst, .inr (6, [.ref zla, .ref zme, .ref zli, .int tol, .int su, .int fa])), (zla, .inr (2, [.ref zld, .ref zlz])), (zld, .inr (4, [.ref zldA, .int 0])), (zlz, .inr (4, [.ref zlzA, .int 0])), (zme, .inr (4, [.ref zmeA, .int 0])), (zli, .inr (0, [.ref zln, .ref zll, .ref zlc])), (zln, .inr (4, [.ref zlnA, .int 0])), (zll, .inr (4, [.ref zllA, .int 0])), (zlc, .inr (4, [.ref zlcA, .int 0])), (st, .inr (6, [.ref la, .ref me, .ref li, .int tol, .int su, .int fa])), (la, .inr (2, [.ref ld, .ref lz])), (ld, .inr (4, [.ref ldA, .int (nI (j + 1))])), (lz, .inr (4, [.ref lzA, .int (nI (4 * j + 9))])), (me, .inr (4, [.ref meA, .int 0])), (li, .inr (0, [.ref ln, .ref ll, .ref lc])), (ln, .inr (4, [.ref lnA, .int 0])), (ll, .inr (4, [.ref llA, .int 0])), (lc, .inr (4, [.ref lcA, .int 0])), (ldA, .inl (K, 9, .inl (upd (dgs d 0 j (zf ldf (j + 1)) j) j (chkd (csum (dgs d 0 j (zf ldf (j + 1)) j) j j))))), (lzA, .inl (K, 41, .inl (zf lzf (4 * j + 9))))] := hD.sub [0, 1, 2, 3, 4, 5, 6, 7, 8, 9, 10, 11, 12, 18, 21, 19, 13, 14, 15, 16, 17, 22, 20] (by decide) rfl
          have hK9 : va_K D vwCl [] s := hK.sub [] rfl
          refine vx_ret ?_
          refine W.widen (k := 1) (n := 6) (by first | exact Nat.le_of_ble_eq_true rfl | omega) (by first | exact Nat.le_of_ble_eq_true rfl | omega) ?_
          exact W.iret (v := r_11) hx hb hr (fun t ht9 hW9 => ⟨⟨r_11, ((nI (j + 1)), (nI (4 * j + 9)), (upd (dgs d 0 j (zf ldf (j + 1)) j) j (chkd (csum (dgs d 0 j (zf ldf (j + 1)) j) j j))), (zf lzf (4 * j + 9))), rfl, by exact ⟨⟨c_1, c_2, c_3, by rw [hz, nI_clamp (by omega)]; exact c_6⟩, hr9⟩, ⟨by rw [ht9]; exact hP9, va_K.moved hW9.alike hK9, hD9⟩⟩, hS.F ht9⟩) hS.2.2 dX7_print_80
        · have hc9 := c_6
          obtain ⟨sa, hsa⟩ := hG.2.2.2.1 (60, "digits is negative or has more than count digits") (by decide +kernel)
          exact vx_throwS hx hb hst (own := RX7) (cls := "java/lang/IllegalArgumentException") (text := "digits is negative or has more than count digits") (names := ["java/lang/RuntimeException", "java/lang/Exception"]) (ik := 49) (is := 60) (ic := 53) (sa := sa) hown (by decide +kernel) (by decide +kernel) (ht _ lc_X7_49) (ht _ li_java_lang_IllegalArgumentException) hsa (vx_hat (fun w h => ht w (List.mem_filter.mpr ⟨lh_X7_53.1 w h, (List.mem_filter.mp h).2⟩)) lh_X7_53.2.1 (fun w h => va_Nw.use (k_NX_on (List.mem_filter.mp h).2) (hG.1 w (List.mem_filter.mp h).1 (List.mem_filter.mp h).2))) lh_X7_53.2.2 hG.2.1 hG.2.2.1 hS (by rw [hml]; exact hl.1) dX7_print_33 dX7_print_36 dX7_print_37 dX7_print_39 dX7_print_42 (fun x h9 => (htab x h9).elim) (Nat.le_of_ble_eq_true rfl) (Nat.le_of_ble_eq_true rfl) (Nat.le_of_ble_eq_true rfl) (Nat.le_of_ble_eq_true rfl) hlocks (fun t hv9 hz9 hk9 => ⟨(), trivial, ⟨by exact ⟨rfl, fun h9 => c_6 (by have h8 := h9.2.2.2; rw [hz, nI_clamp (by omega)] at h8; exact h8)⟩, (hP.sub [0, 1, 2, 3, 4, 5, 6, 7, 8, 9, 10, 11, 12, 13, 14, 15, 16, 17, 18, 19, 20, 21, 22] rfl).kept (fun k q hk => hk9 _ (vx_lt (hP.sub [0, 1, 2, 3, 4, 5, 6, 7, 8, 9, 10, 11, 12, 13, 14, 15, 16, 17, 18, 19, 20, 21, 22] rfl) hk)), va_K.moved hv9 (hK.sub [] rfl), hD.sub [0, 1, 2, 3, 4, 5, 6, 7, 8, 9, 10, 11, 12, 13, 14, 15, 16, 17, 18, 19, 20, 21, 22] (by decide) rfl⟩, ⟨Nat.le_trans hS.1 hz9, fun q h1 h2 => (hk9 q (Nat.lt_of_lt_of_le h1 hS.1)).trans (hS.2.1 q h1 h2)⟩⟩) hS.2.2 (Nat.le_of_ble_eq_true rfl) (Nat.le_of_ble_eq_true rfl)
    · have hc9 := c_2
      obtain ⟨sa, hsa⟩ := hG.2.2.2.1 (51, "count is not 1 to 8") (by decide +kernel)
      exact vx_throwS hx hb hst (own := RX7) (cls := "java/lang/IllegalArgumentException") (text := "count is not 1 to 8") (names := ["java/lang/RuntimeException", "java/lang/Exception"]) (ik := 49) (is := 51) (ic := 53) (sa := sa) hown (by decide +kernel) (by decide +kernel) (ht _ lc_X7_49) (ht _ li_java_lang_IllegalArgumentException) hsa (vx_hat (fun w h => ht w (List.mem_filter.mpr ⟨lh_X7_53.1 w h, (List.mem_filter.mp h).2⟩)) lh_X7_53.2.1 (fun w h => va_Nw.use (k_NX_on (List.mem_filter.mp h).2) (hG.1 w (List.mem_filter.mp h).1 (List.mem_filter.mp h).2))) lh_X7_53.2.2 hG.2.1 hG.2.2.1 hS (by rw [hml]; exact hl.1) dX7_print_11 dX7_print_14 dX7_print_15 dX7_print_17 dX7_print_20 (fun x h9 => (htab x h9).elim) (Nat.le_of_ble_eq_true rfl) (Nat.le_of_ble_eq_true rfl) (Nat.le_of_ble_eq_true rfl) (Nat.le_of_ble_eq_true rfl) hlocks (fun t hv9 hz9 hk9 => ⟨(), trivial, ⟨by exact ⟨rfl, fun h9 => c_2 h9.2.1⟩, (hP.sub [0, 1, 2, 3, 4, 5, 6, 7, 8, 9, 10, 11, 12, 13, 14, 15, 16, 17, 18, 19, 20, 21, 22] rfl).kept (fun k q hk => hk9 _ (vx_lt (hP.sub [0, 1, 2, 3, 4, 5, 6, 7, 8, 9, 10, 11, 12, 13, 14, 15, 16, 17, 18, 19, 20, 21, 22] rfl) hk)), va_K.moved hv9 (hK.sub [] rfl), hD.sub [0, 1, 2, 3, 4, 5, 6, 7, 8, 9, 10, 11, 12, 13, 14, 15, 16, 17, 18, 19, 20, 21, 22] (by decide) rfl⟩, ⟨Nat.le_trans hS.1 hz9, fun q h1 h2 => (hk9 q (Nat.lt_of_lt_of_le h1 hS.1)).trans (hS.2.1 q h1 h2)⟩⟩) hS.2.2 (Nat.le_of_ble_eq_true rfl) (Nat.le_of_ble_eq_true rfl)
theorem isp1 {z : Int32} {i : Nat} (hi : i ≤ 8) (hlt : ∀ m, m < i → ¬ z ≤ nI m) (h : z ≤ nI i ∨ (8 : Int32) ≤ nI i) (j : Nat) (hj : j ≤ 8) (hz : z = nI j) : j = i := by
  rcases Nat.lt_trichotomy j i with q | q | q
  · exact absurd (by rw [hz]; exact nI_le (Nat.le_refl j) (by omega)) (hlt j q)
  · exact q
  · rcases h with h | h
    · rw [hz] at h
      exact absurd h (nI_ge q (by omega))
    · exact absurd h (nI_ge (b := 8) (by omega) (by omega))
theorem chk_ix {j k : Nat} (h : k < j) : nI j - 1 - nI k = nI (j - 1 - k) := by
  rw [show (1 : Int32) = nI 1 from rfl, pk_sub (by omega), pk_sub (by omega)]
theorem tS_all {d : Int32} {j : Nat} {g : Nat → Int32} (hg : ∀ x, x < j → g x = rem10 (rs d (j - 1 - x))) : tS g j j = cS d j := by
  have h := tS_cS hg j (Nat.le_refl j)
  rw [Nat.sub_self, show cS d 0 = 0 from rfl, Int32.add_zero] at h
  exact h
def zr (f : Nat → Int32) (i : Nat) : Nat → Int32 := fun x => if 10 ≤ x ∧ x < 10 + i then 0 else f x
theorem zr_0 (f : Nat → Int32) : zr f 0 = f := by
  funext x
  unfold zr
  rw [if_neg (by omega)]
theorem zr_s (f : Nat → Int32) (i : Nat) : upd (zr f i) (10 + i) 0 = zr f (i + 1) := by
  funext x
  unfold upd zr
  by_cases hx : x = 10 + i
  · rw [if_pos hx, if_pos (by omega)]
  · rw [if_neg hx]
    by_cases h2 : 10 ≤ x ∧ x < 10 + i
    · rw [if_pos h2, if_pos (by omega)]
    · rw [if_neg h2, if_neg (by omega)]
theorem zr_lo {f : Nat → Int32} {i x : Nat} (h : x < 10) : zr f i x = f x := by
  unfold zr
  rw [if_neg (by omega)]
set_option maxHeartbeats 4000000 in
set_option maxRecDepth 100000 in
theorem c_M_isPrint (l : Launch) (D : va_G) (d : Int32) (z : Int32) (sz : Nat) : k_Mi (S := Unit) l D yX8_isPrint cX8_isPrint 4 (some .boolean) 1 0 0 22 [.int d, .int z] [] [] (fun (r : Int32) (_ : Unit) => (r = 1 ∧ pOk d z) ∨ (r = 0 ∧ ¬ pOk d z)) (fun _ => []) (fun _ => []) sz := by
  refine Met.ofW (cc := cX8_isPrint) (maxL := 4) (ret := (some .boolean)) (by decide) rfl ?_
  intro p e s m args below meth c s₁ B hml hv
  obtain ⟨rfl, hsz, hP, hK, hD0, hG⟩ := hv
  have hx := B.exec
  have hb := B.bytes
  have hr := B.returns
  have ht : ∀ v9 ∈ wsA, v9.before ([.int d, .int z] : List Value).toArray s = true := fun v9 h9 => atoms_spec (ws := k_ws yX8_isPrint cX8_isPrint 4 (some .boolean)) B.pre v9 (List.mem_cons_of_mem _ h9)
  have hown : s.vm.findClass RX8 = some m.cls := findClass_of_methodNamed B.named
  have S0 : k_C p s m ([.int d, .int z] : List Value).toArray c cX8_isPrint 4 RX8 := ⟨hx, hb, hml, hown, ht⟩
  have hlocks := B.notSynchronized
  subst hsz
  have hD := hD0.self (sz := s.heap.size)
  generalize hAe : va_A [] s.heap.size = A at hD hG ⊢
  have hA : ∀ q : Nat, s.heap.size ≤ q → A q := fun q h => by rw [← hAe]; exact Or.inr h
  have hS : va_S A s.heap s.heap [] := va_S.rf
  have hl := lv_entry ([.int d, .int z]) (n := 4) (Nat.le_of_ble_eq_true rfl)
  rw [lg_entry_eq]
  generalize (lg_sl ([.int d, .int z]) ++ List.replicate (4 - (lg_sl ([.int d, .int z])).length) Slot.unset).toArray = ls at hl ⊢
  have hl : lv_has ls 4 [(0, .int d), (1, .int z)] := hl
  have hP : va_P D vwCl [] s.heap := hP
  refine lv_iconst (v := 1) hx hb dX8_isPrint_0 (by decide) ?_
  refine lv_istore_n (lv' := [(2, .int 1), (0, .int d), (1, .int z)]) hx hb dX8_isPrint_1 rfl hl (by decide) rfl (fun ls hl => ?_)
  refine lv_iconst (v := 0) hx hb dX8_isPrint_2 (by decide) ?_
  refine lv_istore_n (lv' := [(3, .int 0), (2, .int 1), (0, .int d), (1, .int z)]) hx hb dX8_isPrint_3 rfl hl (by decide) rfl (fun ls hl => ?_)
  have hl : lv_has ls 4 [(3, .int 0), (2, .int (pw10 0)), (0, .int d), (1, .int z)] := hl
  have hl : lv_has ls 4 [(3, .int (nI 0)), (2, .int (pw10 0)), (0, .int d), (1, .int z)] := hl
  refine k_loop (ι := Nat) (fun (i : Nat) H9 locs9 ls9 => (i ≤ 8) ∧ (∀ m, m < i → ¬ z ≤ nI m) ∧ va_P D vwCl [] H9 ∧ va_D A [] ∧ va_S A s.heap H9 locs9 ∧ lv_has ls9 4 [(2, .int (pw10 i)), (3, .int (nI i)), (0, .int d), (1, .int z)]) (fun (i : Nat) => 8 - i) ?_ (0) ⟨(Nat.zero_le _), (fun m9 h9 => absurd h9 (Nat.not_lt_zero m9)), hP.sub [] rfl, hD.sub [] (by decide) rfl, hS, lv_sub hl [1, 0, 2, 3] rfl⟩
  intro x9 H locs ls hF9 ih9
  obtain ⟨i, hv9⟩ : ∃ z, z = x9 := ⟨_, rfl⟩
  subst hv9
  obtain ⟨hi, hlt, hP, hD, hS, hl⟩ := hF9
  try dsimp only at ih9
  have hP : va_P D vwCl [] H := hP
  have hD : va_D A [] := hD
  have hl : lv_has ls 4 [(2, .int (pw10 i)), (3, .int (nI i)), (0, .int d), (1, .int z)] := hl
  refine lv_iload_n hx hb dX8_isPrint_4 rfl (lv_at hl 1 rfl) ?_
  refine lv_iload_n hx hb dX8_isPrint_5 rfl (lv_at hl 3 rfl) ?_
  refine lv_icmp_ge (tgt := 26) hx hb dX8_isPrint_6 (by decide) (fun c_1 => ?_) (fun c_1 => ?_)
  · have hc9 := c_1
    refine lv_iload_n hx hb dX8_isPrint_26 rfl (lv_at hl 3 rfl) ?_
    refine lv_iconst (v := 1) hx hb dX8_isPrint_27 (by decide) ?_
    refine lv_bipush (v := 8) hx hb dX8_isPrint_28 (by decide) ?_
    have ct := k_cut_of (wc := []) (wr := []) (tc := []) hG hS hA hK hP hD [] [] [] rfl rfl (by decide) (by decide) (by decide) rfl
    refine k_endi (As := [.int z, .int 1, .int 8]) ct (k_runS (As := [.int z, .int 1, .int 8]) (rest := []) S0 Ls_X8_46 ct (c_M_in l D z 1 8 H.size) hl.1 rfl (Nat.le_of_ble_eq_true rfl) rfl dX8_isPrint_30 ⟨⟨Nat.le_of_ble_eq_true rfl, Nat.le_of_ble_eq_true rfl⟩, Nat.le_of_ble_eq_true rfl, Nat.le_of_ble_eq_true rfl⟩) rfl rfl (fun r_2 _ H locs hw_3 hP hD hK hS => ?_)
    have hK : va_K D vwCl [] s := hK
    have hP : va_P D vwCl [] H := hP
    have hD : va_D A [] := hD
    rcases hw_3 with ⟨hr9, c_4, c_5⟩ | ⟨hr9, c_6⟩
    · subst hr9
      refine lv_if_eq (tgt := 51) hx hb dX8_isPrint_33 (by decide) (fun c9 => absurd c9 (by decide)) (fun _ => ?_)
      refine lv_iload_n hx hb dX8_isPrint_36 rfl (lv_at hl 2 rfl) ?_
      refine lv_iconst (v := 0) hx hb dX8_isPrint_37 (by decide) ?_
      refine lv_iload_n hx hb dX8_isPrint_38 rfl (lv_at hl 0 rfl) ?_
      refine lv_iconst (v := 1) hx hb dX8_isPrint_39 (by decide) ?_
      refine lv_isub hx hb dX8_isPrint_40 ?_
      refine k_nrm (y := (pw10 i - 1)) (rfl) ?_
      have ct := k_cut_of (wc := []) (wr := []) (tc := []) hG hS hA hK hP hD [] [] [] rfl rfl (by decide) (by decide) (by decide) rfl
      refine k_endi (As := [.int d, .int 0, .int (pw10 i - 1)]) ct (k_runS (As := [.int d, .int 0, .int (pw10 i - 1)]) (rest := []) S0 Ls_X8_46 ct (c_M_in l D d 0 (pw10 i - 1) H.size) hl.1 rfl (Nat.le_of_ble_eq_true rfl) rfl dX8_isPrint_41 ⟨⟨Nat.le_of_ble_eq_true rfl, Nat.le_of_ble_eq_true rfl⟩, Nat.le_of_ble_eq_true rfl, Nat.le_of_ble_eq_true rfl⟩) rfl rfl (fun r_7 _ H locs hw_8 hP hD hK hS => ?_)
      have hK : va_K D vwCl [] s := hK
      have hP : va_P D vwCl [] H := hP
      have hD : va_D A [] := hD
      rcases hw_8 with ⟨hr9, c_9, c_10⟩ | ⟨hr9, c_11⟩
      · subst hr9
        refine lv_if_eq (tgt := 51) hx hb dX8_isPrint_44 (by decide) (fun c9 => absurd c9 (by decide)) (fun _ => ?_)
        refine lv_iconst (v := 1) hx hb dX8_isPrint_47 (by decide) ?_
        refine lv_goto (tgt := 52) hx hb dX8_isPrint_48 (by decide) ?_
        have hP9 : va_P D vwCl [] H := hP.sub [] rfl
        have hD9 : va_D A [] := hD.sub [] (by decide) rfl
        have hK9 : va_K D vwCl [] s := hK.sub [] rfl
        exact W.zret (v := 1) hx hb hr (rfl) (fun t ht9 hW9 => ⟨⟨1, (), rfl, by (obtain ⟨j, hj1, hj8, hz⟩ := cnt_of c_4 (fa_of_nlt c_5); obtain rfl := isp1 hi hlt (Or.inl c_1) j hj8 hz; exact Or.inl ⟨rfl, c_4, fa_of_nlt c_5, c_9, by rw [hz, nI_clamp (by omega)]; exact pw_y hj8 c_10⟩), ⟨by rw [ht9]; exact hP9, va_K.moved hW9.alike hK9, hD9⟩⟩, hS.F ht9⟩) hS.2.2 dX8_isPrint_52
      · subst hr9
        refine lv_if_eq (tgt := 51) hx hb dX8_isPrint_44 (by decide) (fun _ => ?_) (fun c9 => absurd (by decide) c9)
        refine lv_iconst (v := 0) hx hb dX8_isPrint_51 (by decide) ?_
        have hP9 : va_P D vwCl [] H := hP.sub [] rfl
        have hD9 : va_D A [] := hD.sub [] (by decide) rfl
        have hK9 : va_K D vwCl [] s := hK.sub [] rfl
        exact W.zret (v := 0) hx hb hr (rfl) (fun t ht9 hW9 => ⟨⟨0, (), rfl, by (obtain ⟨j, hj1, hj8, hz⟩ := cnt_of c_4 (fa_of_nlt c_5); obtain rfl := isp1 hi hlt (Or.inl c_1) j hj8 hz; exact Or.inr ⟨rfl, fun hk => c_11.elim hk.2.2.1 (fun q9 => pw_n hj8 q9 (by have h8 := hk.2.2.2; rw [hz, nI_clamp (by omega)] at h8; exact h8))⟩), ⟨by rw [ht9]; exact hP9, va_K.moved hW9.alike hK9, hD9⟩⟩, hS.F ht9⟩) hS.2.2 dX8_isPrint_52
    · subst hr9
      refine lv_if_eq (tgt := 51) hx hb dX8_isPrint_33 (by decide) (fun _ => ?_) (fun c9 => absurd (by decide) c9)
      refine lv_iconst (v := 0) hx hb dX8_isPrint_51 (by decide) ?_
      have hP9 : va_P D vwCl [] H := hP.sub [] rfl
      have hD9 : va_D A [] := hD.sub [] (by decide) rfl
      have hK9 : va_K D vwCl [] s := hK.sub [] rfl
      exact W.zret (v := 0) hx hb hr (rfl) (fun t ht9 hW9 => ⟨⟨0, (), rfl, by exact Or.inr ⟨rfl, fun hk => rg_n c_6 ⟨hk.1, hk.2.1⟩⟩, ⟨by rw [ht9]; exact hP9, va_K.moved hW9.alike hK9, hD9⟩⟩, hS.F ht9⟩) hS.2.2 dX8_isPrint_52
  · have hc9 := c_1
    refine lv_iload_n hx hb dX8_isPrint_9 rfl (lv_at hl 1 rfl) ?_
    refine lv_bipush (v := 8) hx hb dX8_isPrint_10 (by decide) ?_
    refine lv_icmp_ge (tgt := 26) hx hb dX8_isPrint_12 (by decide) (fun c_12 => ?_) (fun c_12 => ?_)
    · have hc9 := c_12
      refine lv_iload_n hx hb dX8_isPrint_26 rfl (lv_at hl 3 rfl) ?_
      refine lv_iconst (v := 1) hx hb dX8_isPrint_27 (by decide) ?_
      refine lv_bipush (v := 8) hx hb dX8_isPrint_28 (by decide) ?_
      have ct := k_cut_of (wc := []) (wr := []) (tc := []) hG hS hA hK hP hD [] [] [] rfl rfl (by decide) (by decide) (by decide) rfl
      refine k_endi (As := [.int z, .int 1, .int 8]) ct (k_runS (As := [.int z, .int 1, .int 8]) (rest := []) S0 Ls_X8_46 ct (c_M_in l D z 1 8 H.size) hl.1 rfl (Nat.le_of_ble_eq_true rfl) rfl dX8_isPrint_30 ⟨⟨Nat.le_of_ble_eq_true rfl, Nat.le_of_ble_eq_true rfl⟩, Nat.le_of_ble_eq_true rfl, Nat.le_of_ble_eq_true rfl⟩) rfl rfl (fun r_13 _ H locs hw_14 hP hD hK hS => ?_)
      have hK : va_K D vwCl [] s := hK
      have hP : va_P D vwCl [] H := hP
      have hD : va_D A [] := hD
      rcases hw_14 with ⟨hr9, c_15, c_16⟩ | ⟨hr9, c_17⟩
      · subst hr9
        refine lv_if_eq (tgt := 51) hx hb dX8_isPrint_33 (by decide) (fun c9 => absurd c9 (by decide)) (fun _ => ?_)
        refine lv_iload_n hx hb dX8_isPrint_36 rfl (lv_at hl 2 rfl) ?_
        refine lv_iconst (v := 0) hx hb dX8_isPrint_37 (by decide) ?_
        refine lv_iload_n hx hb dX8_isPrint_38 rfl (lv_at hl 0 rfl) ?_
        refine lv_iconst (v := 1) hx hb dX8_isPrint_39 (by decide) ?_
        refine lv_isub hx hb dX8_isPrint_40 ?_
        refine k_nrm (y := (pw10 i - 1)) (rfl) ?_
        have ct := k_cut_of (wc := []) (wr := []) (tc := []) hG hS hA hK hP hD [] [] [] rfl rfl (by decide) (by decide) (by decide) rfl
        refine k_endi (As := [.int d, .int 0, .int (pw10 i - 1)]) ct (k_runS (As := [.int d, .int 0, .int (pw10 i - 1)]) (rest := []) S0 Ls_X8_46 ct (c_M_in l D d 0 (pw10 i - 1) H.size) hl.1 rfl (Nat.le_of_ble_eq_true rfl) rfl dX8_isPrint_41 ⟨⟨Nat.le_of_ble_eq_true rfl, Nat.le_of_ble_eq_true rfl⟩, Nat.le_of_ble_eq_true rfl, Nat.le_of_ble_eq_true rfl⟩) rfl rfl (fun r_18 _ H locs hw_19 hP hD hK hS => ?_)
        have hK : va_K D vwCl [] s := hK
        have hP : va_P D vwCl [] H := hP
        have hD : va_D A [] := hD
        rcases hw_19 with ⟨hr9, c_20, c_21⟩ | ⟨hr9, c_22⟩
        · subst hr9
          refine lv_if_eq (tgt := 51) hx hb dX8_isPrint_44 (by decide) (fun c9 => absurd c9 (by decide)) (fun _ => ?_)
          refine lv_iconst (v := 1) hx hb dX8_isPrint_47 (by decide) ?_
          refine lv_goto (tgt := 52) hx hb dX8_isPrint_48 (by decide) ?_
          have hP9 : va_P D vwCl [] H := hP.sub [] rfl
          have hD9 : va_D A [] := hD.sub [] (by decide) rfl
          have hK9 : va_K D vwCl [] s := hK.sub [] rfl
          exact W.zret (v := 1) hx hb hr (rfl) (fun t ht9 hW9 => ⟨⟨1, (), rfl, by (obtain ⟨j, hj1, hj8, hz⟩ := cnt_of c_15 (fa_of_nlt c_16); obtain rfl := isp1 hi hlt (Or.inr c_12) j hj8 hz; exact Or.inl ⟨rfl, c_15, fa_of_nlt c_16, c_20, by rw [hz, nI_clamp (by omega)]; exact pw_y hj8 c_21⟩), ⟨by rw [ht9]; exact hP9, va_K.moved hW9.alike hK9, hD9⟩⟩, hS.F ht9⟩) hS.2.2 dX8_isPrint_52
        · subst hr9
          refine lv_if_eq (tgt := 51) hx hb dX8_isPrint_44 (by decide) (fun _ => ?_) (fun c9 => absurd (by decide) c9)
          refine lv_iconst (v := 0) hx hb dX8_isPrint_51 (by decide) ?_
          have hP9 : va_P D vwCl [] H := hP.sub [] rfl
          have hD9 : va_D A [] := hD.sub [] (by decide) rfl
          have hK9 : va_K D vwCl [] s := hK.sub [] rfl
          exact W.zret (v := 0) hx hb hr (rfl) (fun t ht9 hW9 => ⟨⟨0, (), rfl, by (obtain ⟨j, hj1, hj8, hz⟩ := cnt_of c_15 (fa_of_nlt c_16); obtain rfl := isp1 hi hlt (Or.inr c_12) j hj8 hz; exact Or.inr ⟨rfl, fun hk => c_22.elim hk.2.2.1 (fun q9 => pw_n hj8 q9 (by have h8 := hk.2.2.2; rw [hz, nI_clamp (by omega)] at h8; exact h8))⟩), ⟨by rw [ht9]; exact hP9, va_K.moved hW9.alike hK9, hD9⟩⟩, hS.F ht9⟩) hS.2.2 dX8_isPrint_52
      · subst hr9
        refine lv_if_eq (tgt := 51) hx hb dX8_isPrint_33 (by decide) (fun _ => ?_) (fun c9 => absurd (by decide) c9)
        refine lv_iconst (v := 0) hx hb dX8_isPrint_51 (by decide) ?_
        have hP9 : va_P D vwCl [] H := hP.sub [] rfl
        have hD9 : va_D A [] := hD.sub [] (by decide) rfl
        have hK9 : va_K D vwCl [] s := hK.sub [] rfl
        exact W.zret (v := 0) hx hb hr (rfl) (fun t ht9 hW9 => ⟨⟨0, (), rfl, by exact Or.inr ⟨rfl, fun hk => rg_n c_17 ⟨hk.1, hk.2.1⟩⟩, ⟨by rw [ht9]; exact hP9, va_K.moved hW9.alike hK9, hD9⟩⟩, hS.F ht9⟩) hS.2.2 dX8_isPrint_52
    · have hc9 := c_12
      have hik : i + 1 ≤ 8 := by rcases Nat.lt_or_ge i 8 with q9 | q9; exact q9; exact absurd (nI_le (a := 8) q9 (by omega)) c_12
      refine lv_iload_n hx hb dX8_isPrint_15 rfl (lv_at hl 0 rfl) ?_
      refine lv_bipush (v := 10) hx hb dX8_isPrint_16 (by decide) ?_
      refine lv_imul hx hb dX8_isPrint_18 ?_
      refine k_nrm (y := (pw10 (i + 1))) (rfl) ?_
      refine lv_istore_n (lv' := [(2, .int (pw10 (i + 1))), (3, .int (nI i)), (0, .int d), (1, .int z)]) hx hb dX8_isPrint_19 rfl hl (by decide) rfl (fun ls hl => ?_)
      obtain ⟨x_23, ex_23⟩ : ∃ z : Int32, z = (nI i) + 1 := ⟨_, rfl⟩
      refine lv_iinc (v := x_23) (lv' := [(3, .int x_23), (2, .int (pw10 (i + 1))), (0, .int d), (1, .int z)]) hx hb dX8_isPrint_20 hl (k := 1) rfl (by rw [ex_23]; rfl) (by decide) rfl (fun ls hl => ?_)
      refine lv_goto (tgt := 4) hx hb dX8_isPrint_23 (by decide) ?_
      have he9 : x_23 = (nI (i + 1)) := by rw [ex_23]; exact nI_1 i
      rw [he9] at hl
      have hl : lv_has ls 4 [(3, .int (nI (i + 1))), (2, .int (pw10 (i + 1))), (0, .int d), (1, .int z)] := hl
      exact ih9 (i + 1) H locs ls (by omega) ⟨hik, (lt_s hlt c_1), hP.sub [] rfl, hD.sub [] (by decide) rfl, hS, lv_sub hl [1, 0, 2, 3] rfl⟩
set_option maxHeartbeats 4000000 in
set_option maxRecDepth 100000 in
theorem c_M_check (l : Launch) (D : va_G) (ms : Nat) (K : ClassId) (sf : Nat → Int32) (z : Int32) (j : Nat) (hz : z = nI j) (hj8 : j ≤ 8) (sz : Nat) : k_Mi (S := Unit) l D yX8_check cX8_check 5 (some .int) 0 0 0 0 [.ref ms, .int 1, .int z] [(ms, .inl (K, 889, .inl sf))] [(K, .int)] (fun (r : Int32) (_ : Unit) => r = (chkd (tS (fun q9 => sf (1 + q9)) j j))) (fun _ => [(ms, .inl (K, 889, .inl sf))]) (fun _ => []) sz := by
  refine Met.ofW (cc := cX8_check) (maxL := 5) (ret := (some .int)) (by decide) rfl ?_
  intro p e s m args below meth c s₁ B hml hv
  obtain ⟨rfl, hsz, hP, hK, hD0, hG⟩ := hv
  have hx := B.exec
  have hb := B.bytes
  have hr := B.returns
  have ht : ∀ v9 ∈ wsA, v9.before ([.ref ms, .int 1, .int z] : List Value).toArray s = true := fun v9 h9 => atoms_spec (ws := k_ws yX8_check cX8_check 5 (some .int)) B.pre v9 (List.mem_cons_of_mem _ h9)
  have hown : s.vm.findClass RX8 = some m.cls := findClass_of_methodNamed B.named
  have S0 : k_C p s m ([.ref ms, .int 1, .int z] : List Value).toArray c cX8_check 5 RX8 := ⟨hx, hb, hml, hown, ht⟩
  have hlocks := B.notSynchronized
  subst hsz
  have hD := hD0.self (sz := s.heap.size)
  generalize hAe : va_A [(ms, .inl (K, 889, .inl sf))] s.heap.size = A at hD hG ⊢
  have hA : ∀ q : Nat, s.heap.size ≤ q → A q := fun q h => by rw [← hAe]; exact Or.inr h
  have hS : va_S A s.heap s.heap [] := va_S.rf
  have hl := lv_entry ([.ref ms, .int 1, .int z]) (n := 5) (Nat.le_of_ble_eq_true rfl)
  rw [lg_entry_eq]
  generalize (lg_sl ([.ref ms, .int 1, .int z]) ++ List.replicate (5 - (lg_sl ([.ref ms, .int 1, .int z])).length) Slot.unset).toArray = ls at hl ⊢
  have hl : lv_has ls 5 [(0, .ref ms), (1, .int 1), (2, .int z)] := hl
  have hP : va_P D vwCl [(ms, .inl (K, 889, .inl sf))] s.heap := hP
  refine lv_iconst (v := 0) hx hb dX8_check_0 (by decide) ?_
  refine lv_istore_n (lv' := [(3, .int 0), (0, .ref ms), (1, .int 1), (2, .int z)]) hx hb dX8_check_1 rfl hl (by decide) rfl (fun ls hl => ?_)
  refine lv_iconst (v := 0) hx hb dX8_check_2 (by decide) ?_
  refine lv_istore (lv' := [(4, .int 0), (3, .int 0), (0, .ref ms), (1, .int 1), (2, .int z)]) hx hb dX8_check_3 hl (by decide) rfl (fun ls hl => ?_)
  have he9 : z = (nI j) := hz
  rw [he9] at hl
  have hl : lv_has ls 5 [(4, .int 0), (3, .int 0), (0, .ref ms), (1, .int 1), (2, .int (nI j))] := hl
  have hl : lv_has ls 5 [(4, .int 0), (3, .int (tS (fun q9 => sf (1 + q9)) j 0)), (0, .ref ms), (1, .int 1), (2, .int (nI j))] := hl
  have hl : lv_has ls 5 [(4, .int (nI 0)), (3, .int (tS (fun q9 => sf (1 + q9)) j 0)), (0, .ref ms), (1, .int 1), (2, .int (nI j))] := hl
  refine k_loop (ι := Nat) (fun (k : Nat) H9 locs9 ls9 => (k ≤ j) ∧ va_P D vwCl [(ms, .inl (K, 889, .inl sf))] H9 ∧ va_D A [(ms, .inl (K, 889, .inl sf))] ∧ va_S A s.heap H9 locs9 ∧ lv_has ls9 5 [(3, .int (tS (fun q9 => sf (1 + q9)) j k)), (4, .int (nI k)), (0, .ref ms), (1, .int 1), (2, .int (nI j))]) (fun (k : Nat) => j - k) ?_ (0) ⟨(Nat.zero_le _), hP.sub [0] rfl, hD.sub [0] (by decide) rfl, hS, lv_sub hl [1, 0, 2, 3, 4] rfl⟩
  intro x9 H locs ls hF9 ih9
  obtain ⟨k, hv9⟩ : ∃ z, z = x9 := ⟨_, rfl⟩
  subst hv9
  obtain ⟨hk, hP, hD, hS, hl⟩ := hF9
  try dsimp only at ih9
  have hP : va_P D vwCl [(ms, .inl (K, 889, .inl sf))] H := hP
  have hD : va_D A [(ms, .inl (K, 889, .inl sf))] := hD
  have hl : lv_has ls 5 [(3, .int (tS (fun q9 => sf (1 + q9)) j k)), (4, .int (nI k)), (0, .ref ms), (1, .int 1), (2, .int (nI j))] := hl
  refine lv_iload hx hb dX8_check_5 (lv_at hl 1 rfl) ?_
  refine lv_iload_n hx hb dX8_check_7 rfl (lv_at hl 4 rfl) ?_
  refine lv_icmp_ge (tgt := 48) hx hb dX8_check_8 (by decide) (fun c_1 => ?_) (fun c_1 => ?_)
  · have hc9 := c_1
    obtain rfl : j = k := by rcases Nat.lt_or_ge k j with q9 | q9; exact absurd c_1 (nI_ge q9 (by omega)); omega
    refine lv_bipush (v := 10) hx hb dX8_check_48 (by decide) ?_
    refine lv_iload_n hx hb dX8_check_50 rfl (lv_at hl 0 rfl) ?_
    refine lv_bipush (v := 10) hx hb dX8_check_51 (by decide) ?_
    refine lv_irem hx hb dX8_check_53 (by decide) ?_
    refine k_nrm (y := (rem10 (tS (fun q9 => sf (1 + q9)) j j))) (rfl) ?_
    refine lv_isub hx hb dX8_check_54 ?_
    refine k_nrm (y := (10 - rem10 (tS (fun q9 => sf (1 + q9)) j j))) (rfl) ?_
    refine lv_bipush (v := 10) hx hb dX8_check_55 (by decide) ?_
    refine lv_irem hx hb dX8_check_57 (by decide) ?_
    refine k_nrm (y := (chkd (tS (fun q9 => sf (1 + q9)) j j))) (rfl) ?_
    have hP9 : va_P D vwCl [(ms, .inl (K, 889, .inl sf))] H := hP.sub [0] rfl
    have hD9 : va_D A [(ms, .inl (K, 889, .inl sf))] := hD.sub [0] (by decide) rfl
    have hK9 : va_K D vwCl [] s := hK.sub [] rfl
    exact W.iret (v := (chkd (tS (fun q9 => sf (1 + q9)) j j))) hx hb hr (fun t ht9 hW9 => ⟨⟨(chkd (tS (fun q9 => sf (1 + q9)) j j)), (), rfl, by first | rfl | trivial | (simp only [hk, c_1, if_true, if_false, reduceIte, and_self]; done) | simp_all, ⟨by rw [ht9]; exact hP9, va_K.moved hW9.alike hK9, hD9⟩⟩, hS.F ht9⟩) hS.2.2 dX8_check_58
  · have hc9 := c_1
    have hik : k + 1 ≤ j := by rcases Nat.lt_or_ge k j with q9 | q9; exact q9; exact absurd (nI_le q9 (by omega)) c_1
    refine lv_iload_n hx hb dX8_check_11 rfl (lv_at hl 0 rfl) ?_
    refine lv_iload_n hx hb dX8_check_12 rfl (lv_at hl 4 rfl) ?_
    refine lv_iconst (v := 1) hx hb dX8_check_13 (by decide) ?_
    refine lv_isub hx hb dX8_check_14 ?_
    refine k_nrm (y := (nI j - 1)) (rfl) ?_
    refine lv_iload hx hb dX8_check_15 (lv_at hl 1 rfl) ?_
    refine lv_isub hx hb dX8_check_17 ?_
    refine k_nrm (y := (nI (j - 1 - k))) (chk_ix hik) ?_
    refine lv_iconst (v := 2) hx hb dX8_check_18 (by decide) ?_
    refine lv_irem hx hb dX8_check_19 (by decide) ?_
    refine k_nrm (y := (nI ((j - 1 - k) % 2))) (pk_rem (a := j - 1 - k) (d := 2) (by omega) (by omega) (by omega)) ?_
    refine lv_if_ne (tgt := 34) hx hb dX8_check_20 (by decide) (fun c_2 => ?_) (fun c_2 => ?_)
    · have hc9 := c_2
      refine lv_aload_n hx hb dX8_check_34 rfl (lv_at hl 2 rfl) ?_
      refine lv_iload_n hx hb dX8_check_35 rfl (lv_at hl 3 rfl) ?_
      refine lv_iload hx hb dX8_check_36 (lv_at hl 1 rfl) ?_
      refine lv_iadd hx hb dX8_check_38 ?_
      refine k_nrm (y := (nI (1 + k))) (nI_add 1 k) ?_
      refine va_iald hx hb hK hP 0 0 rfl rfl (vp_in_nI (by omega) (by omega)) dX8_check_39 ?_
      refine k_nrm (y := sf (1 + k)) (by rw [nI_clamp (by omega)]) ?_
      refine lv_iadd hx hb dX8_check_40 ?_
      refine k_nrm (y := (tS (fun q9 => sf (1 + q9)) j (k + 1))) (by rw [show (tS (fun q9 => sf (1 + q9)) j (k + 1)) = (tS (fun q9 => sf (1 + q9)) j k) + (if (j - 1 - k) % 2 = 0 then 3 * sf (1 + k) else sf (1 + k)) from rfl, if_neg (fun q9 => c_2 (congrArg nI q9))]) ?_
      refine lv_istore_n (lv' := [(3, .int (tS (fun q9 => sf (1 + q9)) j (k + 1))), (4, .int (nI k)), (0, .ref ms), (1, .int 1), (2, .int (nI j))]) hx hb dX8_check_41 rfl hl (by decide) rfl (fun ls hl => ?_)
      obtain ⟨x_3, ex_3⟩ : ∃ z : Int32, z = (nI k) + 1 := ⟨_, rfl⟩
      refine lv_iinc (v := x_3) (lv' := [(4, .int x_3), (3, .int (tS (fun q9 => sf (1 + q9)) j (k + 1))), (0, .ref ms), (1, .int 1), (2, .int (nI j))]) hx hb dX8_check_42 hl (k := 1) rfl (by rw [ex_3]; rfl) (by decide) rfl (fun ls hl => ?_)
      refine lv_goto (tgt := 5) hx hb dX8_check_45 (by decide) ?_
      have he9 : x_3 = (nI (k + 1)) := by rw [ex_3]; exact nI_1 k
      rw [he9] at hl
      have hl : lv_has ls 5 [(4, .int (nI (k + 1))), (3, .int (tS (fun q9 => sf (1 + q9)) j (k + 1))), (0, .ref ms), (1, .int 1), (2, .int (nI j))] := hl
      exact ih9 (k + 1) H locs ls (by omega) ⟨hik, hP.sub [0] rfl, hD.sub [0] (by decide) rfl, hS, lv_sub hl [1, 0, 2, 3, 4] rfl⟩
    · have hc9 := c_2
      refine lv_iconst (v := 3) hx hb dX8_check_23 (by decide) ?_
      refine lv_aload_n hx hb dX8_check_24 rfl (lv_at hl 2 rfl) ?_
      refine lv_iload_n hx hb dX8_check_25 rfl (lv_at hl 3 rfl) ?_
      refine lv_iload hx hb dX8_check_26 (lv_at hl 1 rfl) ?_
      refine lv_iadd hx hb dX8_check_28 ?_
      refine k_nrm (y := (nI (1 + k))) (nI_add 1 k) ?_
      refine va_iald hx hb hK hP 0 0 rfl rfl (vp_in_nI (by omega) (by omega)) dX8_check_29 ?_
      refine k_nrm (y := sf (1 + k)) (by rw [nI_clamp (by omega)]) ?_
      refine lv_imul hx hb dX8_check_30 ?_
      refine k_nrm (y := (3 * sf (1 + k))) (rfl) ?_
      refine lv_goto (tgt := 40) hx hb dX8_check_31 (by decide) ?_
      refine lv_iadd hx hb dX8_check_40 ?_
      refine k_nrm (y := (tS (fun q9 => sf (1 + q9)) j (k + 1))) (by rw [show (tS (fun q9 => sf (1 + q9)) j (k + 1)) = (tS (fun q9 => sf (1 + q9)) j k) + (if (j - 1 - k) % 2 = 0 then 3 * sf (1 + k) else sf (1 + k)) from rfl, if_pos ((nI_eq (a := (j - 1 - k) % 2) (b := 0) (by omega) (by omega)).mp c_2)]) ?_
      refine lv_istore_n (lv' := [(3, .int (tS (fun q9 => sf (1 + q9)) j (k + 1))), (4, .int (nI k)), (0, .ref ms), (1, .int 1), (2, .int (nI j))]) hx hb dX8_check_41 rfl hl (by decide) rfl (fun ls hl => ?_)
      obtain ⟨x_4, ex_4⟩ : ∃ z : Int32, z = (nI k) + 1 := ⟨_, rfl⟩
      refine lv_iinc (v := x_4) (lv' := [(4, .int x_4), (3, .int (tS (fun q9 => sf (1 + q9)) j (k + 1))), (0, .ref ms), (1, .int 1), (2, .int (nI j))]) hx hb dX8_check_42 hl (k := 1) rfl (by rw [ex_4]; rfl) (by decide) rfl (fun ls hl => ?_)
      refine lv_goto (tgt := 5) hx hb dX8_check_45 (by decide) ?_
      have he9 : x_4 = (nI (k + 1)) := by rw [ex_4]; exact nI_1 k
      rw [he9] at hl
      have hl : lv_has ls 5 [(4, .int (nI (k + 1))), (3, .int (tS (fun q9 => sf (1 + q9)) j (k + 1))), (0, .ref ms), (1, .int 1), (2, .int (nI j))] := hl
      exact ih9 (k + 1) H locs ls (by omega) ⟨hik, hP.sub [0] rfl, hD.sub [0] (by decide) rfl, hS, lv_sub hl [1, 0, 2, 3, 4] rfl⟩
set_option maxHeartbeats 4000000 in
set_option maxRecDepth 100000 in
theorem c_M_prints (l : Launch) (D : va_G) (mo : Nat) (ms : Nat) (sv : Int32) (mb : Nat) (th : Int32) (mk : Nat) (ml : Int32) (mfd : Nat) (mf : Int32) (sp : Int32) (on : Int32) (tw : Int32) (K : ClassId) (sf : Nat → Int32) (d : Int32) (z : Int32) (j : Nat) (hz : z = nI j) (hj1 : 1 ≤ j) (hj8 : j ≤ 8) (sz : Nat) : k_Mi (S := Nat → Int32) l D yX8_prints cX8_prints 5 (some .int) 1 0 0 24 [.ref mo, .int d, .int z] [(mo, .inr (8, [.ref ms, .int sv, .ref mb, .int 0, .int th, .ref mk, .int ml, .ref mfd, .int mf, .int sp, .int on, .int tw])), (ms, .inl (K, 889, .inl sf))] [(K, .int)] (fun (r : Int32) (sg : Nat → Int32) => r = (chkd (cS d j))) (fun sg => [(mo, .inr (8, [.ref ms, .int sv, .ref mb, .int 0, .int th, .ref mk, .int ml, .ref mfd, .int mf, .int sp, .int on, .int tw])), (ms, .inl (K, 889, .inl sg))]) (fun sg => []) sz := by
  refine Met.ofW (cc := cX8_prints) (maxL := 5) (ret := (some .int)) (by decide) rfl ?_
  intro p e s m args below meth c s₁ B hml hv
  obtain ⟨rfl, hsz, hP, hK, hD0, hG⟩ := hv
  have hx := B.exec
  have hb := B.bytes
  have hr := B.returns
  have ht : ∀ v9 ∈ wsA, v9.before ([.ref mo, .int d, .int z] : List Value).toArray s = true := fun v9 h9 => atoms_spec (ws := k_ws yX8_prints cX8_prints 5 (some .int)) B.pre v9 (List.mem_cons_of_mem _ h9)
  have hown : s.vm.findClass RX8 = some m.cls := findClass_of_methodNamed B.named
  have S0 : k_C p s m ([.ref mo, .int d, .int z] : List Value).toArray c cX8_prints 5 RX8 := ⟨hx, hb, hml, hown, ht⟩
  have hlocks := B.notSynchronized
  subst hsz
  have hD := hD0.self (sz := s.heap.size)
  generalize hAe : va_A [(mo, .inr (8, [.ref ms, .int sv, .ref mb, .int 0, .int th, .ref mk, .int ml, .ref mfd, .int mf, .int sp, .int on, .int tw])), (ms, .inl (K, 889, .inl sf))] s.heap.size = A at hD hG ⊢
  have hA : ∀ q : Nat, s.heap.size ≤ q → A q := fun q h => by rw [← hAe]; exact Or.inr h
  have hS : va_S A s.heap s.heap [] := va_S.rf
  have hl := lv_entry ([.ref mo, .int d, .int z]) (n := 5) (Nat.le_of_ble_eq_true rfl)
  rw [lg_entry_eq]
  generalize (lg_sl ([.ref mo, .int d, .int z]) ++ List.replicate (5 - (lg_sl ([.ref mo, .int d, .int z])).length) Slot.unset).toArray = ls at hl ⊢
  have hl : lv_has ls 5 [(0, .ref mo), (1, .int d), (2, .int z)] := hl
  have hP : va_P D vwCl [(mo, .inr (8, [.ref ms, .int sv, .ref mb, .int 0, .int th, .ref mk, .int ml, .ref mfd, .int mf, .int sp, .int on, .int tw])), (ms, .inl (K, 889, .inl sf))] s.heap := hP
  have he9 : z = (nI j) := hz
  rw [he9] at hl
  have hl : lv_has ls 5 [(0, .ref mo), (1, .int d), (2, .int (nI j))] := hl
  refine lv_iload_n hx hb dX8_prints_0 rfl (lv_at hl 1 rfl) ?_
  refine lv_istore_n (lv' := [(3, .int d), (0, .ref mo), (1, .int d), (2, .int (nI j))]) hx hb dX8_prints_1 rfl hl (by decide) rfl (fun ls hl => ?_)
  refine lv_iload_n hx hb dX8_prints_2 rfl (lv_at hl 3 rfl) ?_
  refine lv_iconst (v := 1) hx hb dX8_prints_3 (by decide) ?_
  refine lv_isub hx hb dX8_prints_4 ?_
  refine k_nrm (y := (kd j 0)) (rfl) ?_
  refine lv_istore (lv' := [(4, .int (kd j 0)), (3, .int d), (0, .ref mo), (1, .int d), (2, .int (nI j))]) hx hb dX8_prints_5 hl (by decide) rfl (fun ls hl => ?_)
  have hl : lv_has ls 5 [(4, .int (kd j 0)), (3, .int (rs d 0)), (0, .ref mo), (1, .int d), (2, .int (nI j))] := hl
  have hf_1 : sf = (dgs d 1 j sf 0) := (dgs_0 d 1 j sf).symm
  have hP : va_P D vwCl [(mo, .inr (8, [.ref ms, .int sv, .ref mb, .int 0, .int th, .ref mk, .int ml, .ref mfd, .int mf, .int sp, .int on, .int tw])), (ms, .inl (K, 889, .inl (dgs d 1 j sf 0)))] s.heap := by rw [← hf_1]; exact hP
  have hD : va_D A [(mo, .inr (8, [.ref ms, .int sv, .ref mb, .int 0, .int th, .ref mk, .int ml, .ref mfd, .int mf, .int sp, .int on, .int tw])), (ms, .inl (K, 889, .inl (dgs d 1 j sf 0)))] := by rw [← hf_1]; exact hD
  refine k_loop (ι := Nat) (fun (i : Nat) H9 locs9 ls9 => (i ≤ j) ∧ va_P D vwCl [(mo, .inr (8, [.ref ms, .int sv, .ref mb, .int 0, .int th, .ref mk, .int ml, .ref mfd, .int mf, .int sp, .int on, .int tw])), (ms, .inl (K, 889, .inl (dgs d 1 j sf i)))] H9 ∧ va_D A [(mo, .inr (8, [.ref ms, .int sv, .ref mb, .int 0, .int th, .ref mk, .int ml, .ref mfd, .int mf, .int sp, .int on, .int tw])), (ms, .inl (K, 889, .inl (dgs d 1 j sf i)))] ∧ va_S A s.heap H9 locs9 ∧ lv_has ls9 5 [(3, .int (rs d i)), (4, .int (kd j i)), (0, .ref mo), (1, .int d), (2, .int (nI j))]) (fun (i : Nat) => j - i) ?_ (0) ⟨(Nat.zero_le _), hP.sub [0, 1] rfl, hD.sub [0, 1] (by decide) rfl, hS, lv_sub hl [1, 0, 2, 3, 4] rfl⟩
  intro x9 H locs ls hF9 ih9
  obtain ⟨i, hv9⟩ : ∃ z, z = x9 := ⟨_, rfl⟩
  subst hv9
  obtain ⟨hi, hP, hD, hS, hl⟩ := hF9
  try dsimp only at ih9
  have hP : va_P D vwCl [(mo, .inr (8, [.ref ms, .int sv, .ref mb, .int 0, .int th, .ref mk, .int ml, .ref mfd, .int mf, .int sp, .int on, .int tw])), (ms, .inl (K, 889, .inl (dgs d 1 j sf i)))] H := hP
  have hD : va_D A [(mo, .inr (8, [.ref ms, .int sv, .ref mb, .int 0, .int th, .ref mk, .int ml, .ref mfd, .int mf, .int sp, .int on, .int tw])), (ms, .inl (K, 889, .inl (dgs d 1 j sf i)))] := hD
  have hl : lv_has ls 5 [(3, .int (rs d i)), (4, .int (kd j i)), (0, .ref mo), (1, .int d), (2, .int (nI j))] := hl
  refine lv_iload hx hb dX8_prints_7 (lv_at hl 1 rfl) ?_
  refine lv_if_lt (tgt := 36) hx hb dX8_prints_9 (by decide) (fun c_2 => ?_) (fun c_2 => ?_)
  · have hc9 := c_2
    obtain rfl : j = i := by rcases Nat.lt_or_ge i j with q9 | q9; exact absurd c_2 (kd_pos q9 (by omega)); omega
    refine lv_aload_n hx hb dX8_prints_36 rfl (lv_at hl 2 rfl) ?_
    refine va_get (D := D) (ci := 8) (v := .ref ms) (C := RX8) (T := TX8) (N := 12) hx hb ht inA_X8 hown hK hP 0 rfl rfl 0 (by decide) (ht _ lf_X8_7) (fun _ h9 => h9) rfl dX8_prints_37 ?_
    refine lv_iconst (v := 1) hx hb dX8_prints_40 (by decide) ?_
    refine lv_iload_n hx hb dX8_prints_41 rfl (lv_at hl 4 rfl) ?_
    refine lv_iadd hx hb dX8_prints_42 ?_
    refine k_nrm (y := (nI (1 + j))) (nI_add 1 j) ?_
    refine lv_aload_n hx hb dX8_prints_43 rfl (lv_at hl 2 rfl) ?_
    refine va_get (D := D) (ci := 8) (v := .ref ms) (C := RX8) (T := TX8) (N := 12) hx hb ht inA_X8 hown hK hP 0 rfl rfl 0 (by decide) (ht _ lf_X8_7) (fun _ h9 => h9) rfl dX8_prints_44 ?_
    refine lv_iconst (v := 1) hx hb dX8_prints_47 (by decide) ?_
    refine lv_iload_n hx hb dX8_prints_48 rfl (lv_at hl 4 rfl) ?_
    have ct := k_cut_of (wc := [(ms, .inl (K, 889, .inl (dgs d 1 j sf j)))]) (wr := [(mo, .inr (8, [.ref ms, .int sv, .ref mb, .int 0, .int th, .ref mk, .int ml, .ref mfd, .int mf, .int sp, .int on, .int tw]))]) (tc := [(K, .int)]) hG hS hA hK hP hD [1] [0] [0] rfl rfl (by decide) (by decide) (by decide) rfl
    refine k_endi (As := [.ref ms, .int 1, .int (nI j)]) ct (k_runS (As := [.ref ms, .int 1, .int (nI j)]) (rest := [.int (nI (1 + j)), .ref ms]) S0 Ls_X8_50 ct (c_M_check l D ms K (dgs d 1 j sf j) (nI j) j rfl (by assumption) H.size) hl.1 rfl (Nat.le_of_ble_eq_true rfl) rfl dX8_prints_49 ⟨⟨Nat.le_of_ble_eq_true rfl, Nat.le_of_ble_eq_true rfl⟩, Nat.le_of_ble_eq_true rfl, Nat.le_of_ble_eq_true rfl⟩) rfl rfl (fun r_3 _ H locs hw_4 hP hD hK hS => ?_)
    have hK : va_K D vwCl [(K, .int)] s := hK
    have hP : va_P D vwCl [(mo, .inr (8, [.ref ms, .int sv, .ref mb, .int 0, .int th, .ref mk, .int ml, .ref mfd, .int mf, .int sp, .int on, .int tw])), (ms, .inl (K, 889, .inl (dgs d 1 j sf j)))] H := hP
    have hD : va_D A [(mo, .inr (8, [.ref ms, .int sv, .ref mb, .int 0, .int th, .ref mk, .int ml, .ref mfd, .int mf, .int sp, .int on, .int tw])), (ms, .inl (K, 889, .inl (dgs d 1 j sf j)))] := hD
    have hw_4 : r_3 = (chkd (tS (fun q9 => (dgs d 1 j sf j) (1 + q9)) j j)) := hw_4
    have hw_4 := hw_4.symm
    subst hw_4
    refine k_nrm (y := (chkd (tS (fun q9 => (dgs d 1 j sf j) (1 + q9)) j j))) rfl ?_
    refine k_nrm (y := (chkd (cS d j))) (by rw [tS_all (d := d) (fun x9 h9 => dgs_at (o := 1) h9)]) ?_
    refine va_iast hx hb hK hP hD hS 1 0 rfl rfl (vp_in_nI (by omega) (by omega)) dX8_prints_52 (fun H locs hP hD hS => ?_)
    have hP : va_P D vwCl [(mo, .inr (8, [.ref ms, .int sv, .ref mb, .int 0, .int th, .ref mk, .int ml, .ref mfd, .int mf, .int sp, .int on, .int tw])), (ms, .inl (K, 889, .inl (upd (dgs d 1 j sf j) ((nI (1 + j)).toNatClampNeg) (chkd (cS d j)))))] H := hP
    have hD : va_D A [(mo, .inr (8, [.ref ms, .int sv, .ref mb, .int 0, .int th, .ref mk, .int ml, .ref mfd, .int mf, .int sp, .int on, .int tw])), (ms, .inl (K, 889, .inl (upd (dgs d 1 j sf j) ((nI (1 + j)).toNatClampNeg) (chkd (cS d j)))))] := hD
    have hf9 : upd (dgs d 1 j sf j) ((nI (1 + j)).toNatClampNeg) (chkd (cS d j)) = (upd (dgs d 1 j sf j) (1 + j) (chkd (cS d j))) := by rw [nI_clamp (by omega)]
    rw [hf9] at hP hD
    have hP : va_P D vwCl [(mo, .inr (8, [.ref ms, .int sv, .ref mb, .int 0, .int th, .ref mk, .int ml, .ref mfd, .int mf, .int sp, .int on, .int tw])), (ms, .inl (K, 889, .inl (upd (dgs d 1 j sf j) (1 + j) (chkd (cS d j)))))] H := hP
    have hD : va_D A [(mo, .inr (8, [.ref ms, .int sv, .ref mb, .int 0, .int th, .ref mk, .int ml, .ref mfd, .int mf, .int sp, .int on, .int tw])), (ms, .inl (K, 889, .inl (upd (dgs d 1 j sf j) (1 + j) (chkd (cS d j)))))] := hD
    refine lv_aload_n hx hb dX8_prints_53 rfl (lv_at hl 2 rfl) ?_
    refine va_get (D := D) (ci := 8) (v := .ref ms) (C := RX8) (T := TX8) (N := 12) hx hb ht inA_X8 hown hK hP 0 rfl rfl 0 (by decide) (ht _ lf_X8_7) (fun _ h9 => h9) rfl dX8_prints_54 ?_
    refine lv_iconst (v := 0) hx hb dX8_prints_57 (by decide) ?_
    refine lv_iload_n hx hb dX8_prints_58 rfl (lv_at hl 4 rfl) ?_
    refine lv_iconst (v := 1) hx hb dX8_prints_59 (by decide) ?_
    refine lv_iadd hx hb dX8_prints_60 ?_
    refine k_nrm (y := (nI (j + 1))) (nI_1 j) ?_
    refine va_iast hx hb hK hP hD hS 1 0 rfl rfl (by unfold vp_in; decide) dX8_prints_61 (fun H locs hP hD hS => ?_)
    have hP : va_P D vwCl [(mo, .inr (8, [.ref ms, .int sv, .ref mb, .int 0, .int th, .ref mk, .int ml, .ref mfd, .int mf, .int sp, .int on, .int tw])), (ms, .inl (K, 889, .inl (upd (upd (dgs d 1 j sf j) (1 + j) (chkd (cS d j))) ((0 : Int32).toNatClampNeg) (nI (j + 1)))))] H := hP
    have hD : va_D A [(mo, .inr (8, [.ref ms, .int sv, .ref mb, .int 0, .int th, .ref mk, .int ml, .ref mfd, .int mf, .int sp, .int on, .int tw])), (ms, .inl (K, 889, .inl (upd (upd (dgs d 1 j sf j) (1 + j) (chkd (cS d j))) ((0 : Int32).toNatClampNeg) (nI (j + 1)))))] := hD
    have hf9 : upd (upd (dgs d 1 j sf j) (1 + j) (chkd (cS d j))) ((0 : Int32).toNatClampNeg) (nI (j + 1)) = (upd (upd (dgs d 1 j sf j) (1 + j) (chkd (cS d j))) 0 (nI (j + 1))) := rfl
    rw [hf9] at hP hD
    have hP : va_P D vwCl [(mo, .inr (8, [.ref ms, .int sv, .ref mb, .int 0, .int th, .ref mk, .int ml, .ref mfd, .int mf, .int sp, .int on, .int tw])), (ms, .inl (K, 889, .inl (upd (upd (dgs d 1 j sf j) (1 + j) (chkd (cS d j))) 0 (nI (j + 1)))))] H := hP
    have hD : va_D A [(mo, .inr (8, [.ref ms, .int sv, .ref mb, .int 0, .int th, .ref mk, .int ml, .ref mfd, .int mf, .int sp, .int on, .int tw])), (ms, .inl (K, 889, .inl (upd (upd (dgs d 1 j sf j) (1 + j) (chkd (cS d j))) 0 (nI (j + 1)))))] := hD
    refine lv_iconst (v := 0) hx hb dX8_prints_62 (by decide) ?_
    refine lv_istore (lv' := [(4, .int 0), (3, .int (rs d j)), (0, .ref mo), (1, .int d), (2, .int (nI j))]) hx hb dX8_prints_63 hl (by decide) rfl (fun ls hl => ?_)
    have hl : lv_has ls 5 [(4, .int (nI 0)), (3, .int (rs d j)), (0, .ref mo), (1, .int d), (2, .int (nI j))] := hl
    have hf_5 : (upd (upd (dgs d 1 j sf j) (1 + j) (chkd (cS d j))) 0 (nI (j + 1))) = (zr (upd (upd (dgs d 1 j sf j) (1 + j) (chkd (cS d j))) 0 (nI (j + 1))) 0) := (zr_0 _).symm
    have hP : va_P D vwCl [(mo, .inr (8, [.ref ms, .int sv, .ref mb, .int 0, .int th, .ref mk, .int ml, .ref mfd, .int mf, .int sp, .int on, .int tw])), (ms, .inl (K, 889, .inl (zr (upd (upd (dgs d 1 j sf j) (1 + j) (chkd (cS d j))) 0 (nI (j + 1))) 0)))] H := by rw [← hf_5]; exact hP
    have hD : va_D A [(mo, .inr (8, [.ref ms, .int sv, .ref mb, .int 0, .int th, .ref mk, .int ml, .ref mfd, .int mf, .int sp, .int on, .int tw])), (ms, .inl (K, 889, .inl (zr (upd (upd (dgs d 1 j sf j) (1 + j) (chkd (cS d j))) 0 (nI (j + 1))) 0)))] := by rw [← hf_5]; exact hD
    refine k_loop (ι := Nat) (fun (k : Nat) H9 locs9 ls9 => (k ≤ 41) ∧ va_P D vwCl [(mo, .inr (8, [.ref ms, .int sv, .ref mb, .int 0, .int th, .ref mk, .int ml, .ref mfd, .int mf, .int sp, .int on, .int tw])), (ms, .inl (K, 889, .inl (zr (upd (upd (dgs d 1 j sf j) (1 + j) (chkd (cS d j))) 0 (nI (j + 1))) k)))] H9 ∧ va_D A [(mo, .inr (8, [.ref ms, .int sv, .ref mb, .int 0, .int th, .ref mk, .int ml, .ref mfd, .int mf, .int sp, .int on, .int tw])), (ms, .inl (K, 889, .inl (zr (upd (upd (dgs d 1 j sf j) (1 + j) (chkd (cS d j))) 0 (nI (j + 1))) k)))] ∧ va_S A s.heap H9 locs9 ∧ lv_has ls9 5 [(4, .int (nI k)), (0, .ref mo), (1, .int d), (2, .int (nI j))]) (fun (k : Nat) => 41 - k) ?_ (0) ⟨(Nat.zero_le _), hP.sub [0, 1] rfl, hD.sub [0, 1] (by decide) rfl, hS, lv_sub hl [0, 2, 3, 4] rfl⟩
    intro x9 H locs ls hF9 ih9
    obtain ⟨k, hv9⟩ : ∃ z, z = x9 := ⟨_, rfl⟩
    subst hv9
    obtain ⟨hk, hP, hD, hS, hl⟩ := hF9
    try dsimp only at ih9
    have hP : va_P D vwCl [(mo, .inr (8, [.ref ms, .int sv, .ref mb, .int 0, .int th, .ref mk, .int ml, .ref mfd, .int mf, .int sp, .int on, .int tw])), (ms, .inl (K, 889, .inl (zr (upd (upd (dgs d 1 j sf j) (1 + j) (chkd (cS d j))) 0 (nI (j + 1))) k)))] H := hP
    have hD : va_D A [(mo, .inr (8, [.ref ms, .int sv, .ref mb, .int 0, .int th, .ref mk, .int ml, .ref mfd, .int mf, .int sp, .int on, .int tw])), (ms, .inl (K, 889, .inl (zr (upd (upd (dgs d 1 j sf j) (1 + j) (chkd (cS d j))) 0 (nI (j + 1))) k)))] := hD
    have hl : lv_has ls 5 [(4, .int (nI k)), (0, .ref mo), (1, .int d), (2, .int (nI j))] := hl
    refine lv_iload hx hb dX8_prints_65 (lv_at hl 0 rfl) ?_
    refine lv_bipush (v := 41) hx hb dX8_prints_67 (by decide) ?_
    refine lv_icmp_ge (tgt := 89) hx hb dX8_prints_69 (by decide) (fun c_6 => ?_) (fun c_6 => ?_)
    · have hc9 := c_6
      obtain rfl : 41 = k := by rcases Nat.lt_or_ge k 41 with q9 | q9; exact absurd c_6 (nI_ge (b := 41) q9 (by omega)); omega
      refine lv_aload_n hx hb dX8_prints_89 rfl (lv_at hl 1 rfl) ?_
      refine va_get (D := D) (ci := 8) (v := .ref ms) (C := RX8) (T := TX8) (N := 12) hx hb ht inA_X8 hown hK hP 0 rfl rfl 0 (by decide) (ht _ lf_X8_7) (fun _ h9 => h9) rfl dX8_prints_90 ?_
      refine lv_iconst (v := 1) hx hb dX8_prints_93 (by decide) ?_
      refine lv_iload_n hx hb dX8_prints_94 rfl (lv_at hl 3 rfl) ?_
      refine lv_iadd hx hb dX8_prints_95 ?_
      refine k_nrm (y := (nI (1 + j))) (nI_add 1 j) ?_
      refine va_iald hx hb hK hP 1 0 rfl rfl (vp_in_nI (by omega) (by omega)) dX8_prints_96 ?_
      refine k_nrm (y := (chkd (cS d j))) (by rw [nI_clamp (by omega), zr_lo (by omega), pk_un (by omega), pk_us]) ?_
      have hP9 : va_P D vwCl [(mo, .inr (8, [.ref ms, .int sv, .ref mb, .int 0, .int th, .ref mk, .int ml, .ref mfd, .int mf, .int sp, .int on, .int tw])), (ms, .inl (K, 889, .inl (zr (upd (upd (dgs d 1 j sf j) (1 + j) (chkd (cS d j))) 0 (nI (j + 1))) 41)))] H := hP.sub [0, 1] rfl
      have hD9 : va_D A [(mo, .inr (8, [.ref ms, .int sv, .ref mb, .int 0, .int th, .ref mk, .int ml, .ref mfd, .int mf, .int sp, .int on, .int tw])), (ms, .inl (K, 889, .inl (zr (upd (upd (dgs d 1 j sf j) (1 + j) (chkd (cS d j))) 0 (nI (j + 1))) 41)))] := hD.sub [0, 1] (by decide) rfl
      have hK9 : va_K D vwCl [] s := hK.sub [] rfl
      exact W.iret (v := (chkd (cS d j))) hx hb hr (fun t ht9 hW9 => ⟨⟨(chkd (cS d j)), (zr (upd (upd (dgs d 1 j sf j) (1 + j) (chkd (cS d j))) 0 (nI (j + 1))) 41), rfl, by first | rfl | trivial | (simp only [hi, c_2, hk, c_6, if_true, if_false, reduceIte, and_self]; done) | simp_all, ⟨by rw [ht9]; exact hP9, va_K.moved hW9.alike hK9, hD9⟩⟩, hS.F ht9⟩) hS.2.2 dX8_prints_97
    · have hc9 := c_6
      have hkk : k + 1 ≤ 41 := by rcases Nat.lt_or_ge k 41 with q9 | q9; exact q9; exact absurd (nI_le (a := 41) q9 (by omega)) c_6
      refine lv_aload_n hx hb dX8_prints_72 rfl (lv_at hl 1 rfl) ?_
      refine va_get (D := D) (ci := 8) (v := .ref ms) (C := RX8) (T := TX8) (N := 12) hx hb ht inA_X8 hown hK hP 0 rfl rfl 0 (by decide) (ht _ lf_X8_7) (fun _ h9 => h9) rfl dX8_prints_73 ?_
      refine lv_bipush (v := 10) hx hb dX8_prints_76 (by decide) ?_
      refine lv_iload hx hb dX8_prints_78 (lv_at hl 0 rfl) ?_
      refine lv_iadd hx hb dX8_prints_80 ?_
      refine k_nrm (y := (nI (10 + k))) (nI_add 10 k) ?_
      refine lv_iconst (v := 0) hx hb dX8_prints_81 (by decide) ?_
      refine va_iast hx hb hK hP hD hS 1 0 rfl rfl (vp_in_nI (by omega) (by omega)) dX8_prints_82 (fun H locs hP hD hS => ?_)
      have hP : va_P D vwCl [(mo, .inr (8, [.ref ms, .int sv, .ref mb, .int 0, .int th, .ref mk, .int ml, .ref mfd, .int mf, .int sp, .int on, .int tw])), (ms, .inl (K, 889, .inl (upd (zr (upd (upd (dgs d 1 j sf j) (1 + j) (chkd (cS d j))) 0 (nI (j + 1))) k) ((nI (10 + k)).toNatClampNeg) 0)))] H := hP
      have hD : va_D A [(mo, .inr (8, [.ref ms, .int sv, .ref mb, .int 0, .int th, .ref mk, .int ml, .ref mfd, .int mf, .int sp, .int on, .int tw])), (ms, .inl (K, 889, .inl (upd (zr (upd (upd (dgs d 1 j sf j) (1 + j) (chkd (cS d j))) 0 (nI (j + 1))) k) ((nI (10 + k)).toNatClampNeg) 0)))] := hD
      have hf9 : upd (zr (upd (upd (dgs d 1 j sf j) (1 + j) (chkd (cS d j))) 0 (nI (j + 1))) k) ((nI (10 + k)).toNatClampNeg) 0 = (zr (upd (upd (dgs d 1 j sf j) (1 + j) (chkd (cS d j))) 0 (nI (j + 1))) (k + 1)) := by rw [nI_clamp (by omega)]; exact zr_s _ k
      rw [hf9] at hP hD
      have hP : va_P D vwCl [(mo, .inr (8, [.ref ms, .int sv, .ref mb, .int 0, .int th, .ref mk, .int ml, .ref mfd, .int mf, .int sp, .int on, .int tw])), (ms, .inl (K, 889, .inl (zr (upd (upd (dgs d 1 j sf j) (1 + j) (chkd (cS d j))) 0 (nI (j + 1))) (k + 1))))] H := hP
      have hD : va_D A [(mo, .inr (8, [.ref ms, .int sv, .ref mb, .int 0, .int th, .ref mk, .int ml, .ref mfd, .int mf, .int sp, .int on, .int tw])), (ms, .inl (K, 889, .inl (zr (upd (upd (dgs d 1 j sf j) (1 + j) (chkd (cS d j))) 0 (nI (j + 1))) (k + 1))))] := hD
      obtain ⟨x_7, ex_7⟩ : ∃ z : Int32, z = (nI k) + 1 := ⟨_, rfl⟩
      refine lv_iinc (v := x_7) (lv' := [(4, .int x_7), (0, .ref mo), (1, .int d), (2, .int (nI j))]) hx hb dX8_prints_83 hl (k := 0) rfl (by rw [ex_7]; rfl) (by decide) rfl (fun ls hl => ?_)
      refine lv_goto (tgt := 65) hx hb dX8_prints_86 (by decide) ?_
      have he9 : x_7 = (nI (k + 1)) := by rw [ex_7]; exact nI_1 k
      rw [he9] at hl
      have hl : lv_has ls 5 [(4, .int (nI (k + 1))), (0, .ref mo), (1, .int d), (2, .int (nI j))] := hl
      exact ih9 (k + 1) H locs ls (by omega) ⟨hkk, hP.sub [0, 1] rfl, hD.sub [0, 1] (by decide) rfl, hS, lv_sub hl [0, 1, 2, 3] rfl⟩
  · have hc9 := c_2
    have hik : i + 1 ≤ j := by rcases Nat.lt_or_ge i j with q9 | q9; exact q9; exact absurd (kd_neg q9 (by omega)) c_2
    refine lv_aload_n hx hb dX8_prints_12 rfl (lv_at hl 2 rfl) ?_
    refine va_get (D := D) (ci := 8) (v := .ref ms) (C := RX8) (T := TX8) (N := 12) hx hb ht inA_X8 hown hK hP 0 rfl rfl 0 (by decide) (ht _ lf_X8_7) (fun _ h9 => h9) rfl dX8_prints_13 ?_
    refine lv_iconst (v := 1) hx hb dX8_prints_16 (by decide) ?_
    refine lv_iload hx hb dX8_prints_17 (lv_at hl 1 rfl) ?_
    refine lv_iadd hx hb dX8_prints_19 ?_
    refine k_nrm (y := (nI (1 + (j - 1 - i)))) (by rw [kd_lt hik]; exact nI_add 1 _) ?_
    refine lv_iload_n hx hb dX8_prints_20 rfl (lv_at hl 0 rfl) ?_
    refine lv_bipush (v := 10) hx hb dX8_prints_21 (by decide) ?_
    refine lv_irem hx hb dX8_prints_23 (by decide) ?_
    refine k_nrm (y := (rem10 (rs d i))) (rfl) ?_
    refine va_iast hx hb hK hP hD hS 1 0 rfl rfl (vp_in_nI (by omega) (by omega)) dX8_prints_24 (fun H locs hP hD hS => ?_)
    have hP : va_P D vwCl [(mo, .inr (8, [.ref ms, .int sv, .ref mb, .int 0, .int th, .ref mk, .int ml, .ref mfd, .int mf, .int sp, .int on, .int tw])), (ms, .inl (K, 889, .inl (upd (dgs d 1 j sf i) ((nI (1 + (j - 1 - i))).toNatClampNeg) (rem10 (rs d i)))))] H := hP
    have hD : va_D A [(mo, .inr (8, [.ref ms, .int sv, .ref mb, .int 0, .int th, .ref mk, .int ml, .ref mfd, .int mf, .int sp, .int on, .int tw])), (ms, .inl (K, 889, .inl (upd (dgs d 1 j sf i) ((nI (1 + (j - 1 - i))).toNatClampNeg) (rem10 (rs d i)))))] := hD
    have hf9 : upd (dgs d 1 j sf i) ((nI (1 + (j - 1 - i))).toNatClampNeg) (rem10 (rs d i)) = (dgs d 1 j sf (i + 1)) := by rw [nI_clamp (by omega)]; exact dgs_s hik
    rw [hf9] at hP hD
    have hP : va_P D vwCl [(mo, .inr (8, [.ref ms, .int sv, .ref mb, .int 0, .int th, .ref mk, .int ml, .ref mfd, .int mf, .int sp, .int on, .int tw])), (ms, .inl (K, 889, .inl (dgs d 1 j sf (i + 1))))] H := hP
    have hD : va_D A [(mo, .inr (8, [.ref ms, .int sv, .ref mb, .int 0, .int th, .ref mk, .int ml, .ref mfd, .int mf, .int sp, .int on, .int tw])), (ms, .inl (K, 889, .inl (dgs d 1 j sf (i + 1))))] := hD
    refine lv_iload_n hx hb dX8_prints_25 rfl (lv_at hl 0 rfl) ?_
    refine lv_bipush (v := 10) hx hb dX8_prints_26 (by decide) ?_
    refine lv_idiv hx hb dX8_prints_28 (by decide) ?_
    refine k_nrm (y := (rs d (i + 1))) (rfl) ?_
    refine lv_istore_n (lv' := [(3, .int (rs d (i + 1))), (4, .int (kd j i)), (0, .ref mo), (1, .int d), (2, .int (nI j))]) hx hb dX8_prints_29 rfl hl (by decide) rfl (fun ls hl => ?_)
    obtain ⟨x_8, ex_8⟩ : ∃ z : Int32, z = (kd j i) + (-1) := ⟨_, rfl⟩
    refine lv_iinc (v := x_8) (lv' := [(4, .int x_8), (3, .int (rs d (i + 1))), (0, .ref mo), (1, .int d), (2, .int (nI j))]) hx hb dX8_prints_30 hl (k := 1) rfl (by rw [ex_8]; rfl) (by decide) rfl (fun ls hl => ?_)
    refine lv_goto (tgt := 7) hx hb dX8_prints_33 (by decide) ?_
    have he9 : x_8 = (kd j (i + 1)) := by rw [ex_8]; exact kd_s j i
    rw [he9] at hl
    have hl : lv_has ls 5 [(4, .int (kd j (i + 1))), (3, .int (rs d (i + 1))), (0, .ref mo), (1, .int d), (2, .int (nI j))] := hl
    exact ih9 (i + 1) H locs ls (by omega) ⟨hik, hP.sub [0, 1] rfl, hD.sub [0, 1] (by decide) rfl, hS, lv_sub hl [1, 0, 2, 3, 4] rfl⟩
set_option maxHeartbeats 4000000 in
set_option maxRecDepth 100000 in
theorem c_M_print (l : Launch) (D : va_G) (mo : Nat) (ms : Nat) (mb : Nat) (th : Int32) (mk : Nat) (ml : Int32) (mfd : Nat) (mf : Int32) (sp : Int32) (on : Int32) (tw : Int32) (K : ClassId) (sf : Nat → Int32) (d : Int32) (z : Int32) (hs0 : sf 0 = 0) (hs51 : sf 51 = 0) (hs93 : sf 93 = 4) (hs94 : sf 94 = 0) (hs125 : sf 125 = 0) (hs126 : sf 126 = 0) (sz : Nat) : k_Mi (S := Int32 × Int32 × (Nat → Int32)) l D yX8_print cX8_print 3 (some .int) 2 0 0 48 [.ref mo, .int d, .int z] [(mo, .inr (8, [.ref ms, .int 0, .ref mb, .int 0, .int th, .ref mk, .int ml, .ref mfd, .int mf, .int sp, .int on, .int tw])), (ms, .inl (K, 889, .inl sf))] [(K, .int)] (fun (r : Int32) (u : Int32 × Int32 × (Nat → Int32)) => match u with | (th1, sv1, sg) => (pOk d z ∧ r = chkd (cS d z.toNatClampNeg) ∧ th1 = 0) ∨ (¬ pOk d z ∧ th1 = 1)) (fun u => match u with | (th1, sv1, sg) => [(mo, .inr (8, [.ref ms, .int sv1, .ref mb, .int 0, .int th1, .ref mk, .int ml, .ref mfd, .int mf, .int sp, .int on, .int tw])), (ms, .inl (K, 889, .inl sg))]) (fun u => match u with | (th1, sv1, sg) => []) sz := by
  refine Met.ofW (cc := cX8_print) (maxL := 3) (ret := (some .int)) (by decide) rfl ?_
  intro p e s m args below meth c s₁ B hml hv
  obtain ⟨rfl, hsz, hP, hK, hD0, hG⟩ := hv
  have hx := B.exec
  have hb := B.bytes
  have hr := B.returns
  have ht : ∀ v9 ∈ wsA, v9.before ([.ref mo, .int d, .int z] : List Value).toArray s = true := fun v9 h9 => atoms_spec (ws := k_ws yX8_print cX8_print 3 (some .int)) B.pre v9 (List.mem_cons_of_mem _ h9)
  have hown : s.vm.findClass RX8 = some m.cls := findClass_of_methodNamed B.named
  have S0 : k_C p s m ([.ref mo, .int d, .int z] : List Value).toArray c cX8_print 3 RX8 := ⟨hx, hb, hml, hown, ht⟩
  have hlocks := B.notSynchronized
  subst hsz
  have hD := hD0.self (sz := s.heap.size)
  generalize hAe : va_A [(mo, .inr (8, [.ref ms, .int 0, .ref mb, .int 0, .int th, .ref mk, .int ml, .ref mfd, .int mf, .int sp, .int on, .int tw])), (ms, .inl (K, 889, .inl sf))] s.heap.size = A at hD hG ⊢
  have hA : ∀ q : Nat, s.heap.size ≤ q → A q := fun q h => by rw [← hAe]; exact Or.inr h
  have hS : va_S A s.heap s.heap [] := va_S.rf
  have hl := lv_entry ([.ref mo, .int d, .int z]) (n := 3) (Nat.le_of_ble_eq_true rfl)
  rw [lg_entry_eq]
  generalize (lg_sl ([.ref mo, .int d, .int z]) ++ List.replicate (3 - (lg_sl ([.ref mo, .int d, .int z])).length) Slot.unset).toArray = ls at hl ⊢
  have hl : lv_has ls 3 [(0, .ref mo), (1, .int d), (2, .int z)] := hl
  have hP : va_P D vwCl [(mo, .inr (8, [.ref ms, .int 0, .ref mb, .int 0, .int th, .ref mk, .int ml, .ref mfd, .int mf, .int sp, .int on, .int tw])), (ms, .inl (K, 889, .inl sf))] s.heap := hP
  refine lv_aload_n hx hb dX8_print_0 rfl (lv_at hl 0 rfl) ?_
  refine lv_iload_n hx hb dX8_print_1 rfl (lv_at hl 1 rfl) ?_
  refine lv_iload_n hx hb dX8_print_2 rfl (lv_at hl 2 rfl) ?_
  have ct := k_cut_of (wc := []) (wr := [(mo, .inr (8, [.ref ms, .int 0, .ref mb, .int 0, .int th, .ref mk, .int ml, .ref mfd, .int mf, .int sp, .int on, .int tw])), (ms, .inl (K, 889, .inl sf))]) (tc := []) hG hS hA hK hP hD [] [0, 1] [] rfl rfl (by decide) (by decide) (by decide) rfl
  refine k_endi (As := [.int d, .int z]) ct (k_runS (As := [.int d, .int z]) (rest := [.ref mo]) S0 Ls_X8_54 ct (c_M_isPrint l D d z s.heap.size) hl.1 rfl (Nat.le_of_ble_eq_true rfl) rfl dX8_print_3 ⟨⟨Nat.le_of_ble_eq_true rfl, Nat.le_of_ble_eq_true rfl⟩, Nat.le_of_ble_eq_true rfl, Nat.le_of_ble_eq_true rfl⟩) rfl rfl (fun r_1 _ H locs hw_2 hP hD hK hS => ?_)
  have hK : va_K D vwCl [(K, .int)] s := hK
  have hP : va_P D vwCl [(mo, .inr (8, [.ref ms, .int 0, .ref mb, .int 0, .int th, .ref mk, .int ml, .ref mfd, .int mf, .int sp, .int on, .int tw])), (ms, .inl (K, 889, .inl sf))] H := hP
  have hD : va_D A [(mo, .inr (8, [.ref ms, .int 0, .ref mb, .int 0, .int th, .ref mk, .int ml, .ref mfd, .int mf, .int sp, .int on, .int tw])), (ms, .inl (K, 889, .inl sf))] := hD
  rcases hw_2 with ⟨hr9, c_3⟩ | ⟨hr9, c_4⟩
  · subst hr9
    refine lv_iconst (v := 1) hx hb dX8_print_6 (by decide) ?_
    have ct := k_cut_of (wc := [(mo, .inr (8, [.ref ms, .int 0, .ref mb, .int 0, .int th, .ref mk, .int ml, .ref mfd, .int mf, .int sp, .int on, .int tw]))]) (wr := [(ms, .inl (K, 889, .inl sf))]) (tc := []) hG hS hA hK hP hD [0] [1] [] rfl rfl (by decide) (by decide) (by decide) rfl
    refine k_endi (As := [.ref mo, .int 1, .int 1]) ct (k_runV (As := [.int 1, .int 1]) (rest := []) S0 Lv_X8_58 rfl (ci := 8) (q0 := 0) rfl rfl ct (c_M_goes11 l D mo ms 0 mb th mk ml mfd mf sp on tw H.size) hl.1 rfl (Nat.le_of_ble_eq_true rfl) rfl dX8_print_7 ⟨⟨Nat.le_of_ble_eq_true rfl, Nat.le_of_ble_eq_true rfl⟩, Nat.le_of_ble_eq_true rfl, Nat.le_of_ble_eq_true rfl⟩) rfl rfl (fun r_5 _ H locs hw_6 hP hD hK hS => ?_)
    have hK : va_K D vwCl [(K, .int)] s := hK
    have hP : va_P D vwCl [(ms, .inl (K, 889, .inl sf)), (mo, .inr (8, [.ref ms, .int 0, .ref mb, .int 0, .int 0, .ref mk, .int ml, .ref mfd, .int mf, .int sp, .int on, .int tw]))] H := hP
    have hD : va_D A [(ms, .inl (K, 889, .inl sf)), (mo, .inr (8, [.ref ms, .int 0, .ref mb, .int 0, .int 0, .ref mk, .int ml, .ref mfd, .int mf, .int sp, .int on, .int tw]))] := hD
    have hw_6 : r_5 = 1 := hw_6
    have hw_6 := hw_6.symm
    subst hw_6
    refine k_nrm (y := 1) rfl ?_
    refine lv_if_ne (tgt := 15) hx hb dX8_print_10 (by decide) (fun _ => ?_) (fun c9 => absurd c9 (by decide))
    obtain ⟨j, hj1, hj8, hz⟩ := cnt_of c_3.1 c_3.2.1
    refine lv_aload_n hx hb dX8_print_15 rfl (lv_at hl 0 rfl) ?_
    have ct := k_cut_of (wc := [(mo, .inr (8, [.ref ms, .int 0, .ref mb, .int 0, .int 0, .ref mk, .int ml, .ref mfd, .int mf, .int sp, .int on, .int tw])), (ms, .inl (K, 889, .inl sf))]) (wr := []) (tc := [(K, .int)]) hG hS hA hK hP hD [1, 0] [] [0] rfl rfl (by decide) (by decide) (by decide) rfl
    refine k_endv (As := [.ref mo]) ct (k_runV (As := []) (rest := []) S0 Lv_X8_62 rfl (ci := 8) (q0 := 0) rfl rfl ct (c_M_saves l D mo ms mb 0 mk ml mfd mf sp on tw K sf H.size) hl.1 rfl (Nat.le_of_ble_eq_true rfl) rfl dX8_print_16 ⟨⟨Nat.le_of_ble_eq_true rfl, Nat.le_of_ble_eq_true rfl⟩, Nat.le_of_ble_eq_true rfl, Nat.le_of_ble_eq_true rfl⟩) rfl rfl (fun _ _ H locs hw_8 hP hD hK hS => ?_)
    have hK : va_K D vwCl [(K, .int)] s := hK
    have hP : va_P D vwCl [(mo, .inr (8, [.ref ms, .int 1, .ref mb, .int 0, .int 0, .ref mk, .int ml, .ref mfd, .int mf, .int sp, .int on, .int tw])), (ms, .inl (K, 889, .inl (cpf sf 127)))] H := hP
    have hD : va_D A [(mo, .inr (8, [.ref ms, .int 1, .ref mb, .int 0, .int 0, .ref mk, .int ml, .ref mfd, .int mf, .int sp, .int on, .int tw])), (ms, .inl (K, 889, .inl (cpf sf 127)))] := hD
    refine lv_aload_n hx hb dX8_print_19 rfl (lv_at hl 0 rfl) ?_
    refine lv_iload_n hx hb dX8_print_20 rfl (lv_at hl 1 rfl) ?_
    refine lv_iload_n hx hb dX8_print_21 rfl (lv_at hl 2 rfl) ?_
    have ct := k_cut_of (wc := [(mo, .inr (8, [.ref ms, .int 1, .ref mb, .int 0, .int 0, .ref mk, .int ml, .ref mfd, .int mf, .int sp, .int on, .int tw])), (ms, .inl (K, 889, .inl (cpf sf 127)))]) (wr := []) (tc := [(K, .int)]) hG hS hA hK hP hD [0, 1] [] [0] rfl rfl (by decide) (by decide) (by decide) rfl
    refine k_endi (As := [.ref mo, .int d, .int z]) ct (k_runV (As := [.int d, .int z]) (rest := []) S0 Lv_X8_65 rfl (ci := 8) (q0 := 0) rfl rfl ct (c_M_prints l D mo ms 1 mb 0 mk ml mfd mf sp on tw K (cpf sf 127) d z j (by assumption) (by assumption) (by assumption) H.size) hl.1 rfl (Nat.le_of_ble_eq_true rfl) rfl dX8_print_22 ⟨⟨Nat.le_of_ble_eq_true rfl, Nat.le_of_ble_eq_true rfl⟩, Nat.le_of_ble_eq_true rfl, Nat.le_of_ble_eq_true rfl⟩) rfl rfl (fun r_9 sg_10 H locs hw_11 hP hD hK hS => ?_)
    have hK : va_K D vwCl [(K, .int)] s := hK
    have hP : va_P D vwCl [(mo, .inr (8, [.ref ms, .int 1, .ref mb, .int 0, .int 0, .ref mk, .int ml, .ref mfd, .int mf, .int sp, .int on, .int tw])), (ms, .inl (K, 889, .inl sg_10))] H := hP
    have hD : va_D A [(mo, .inr (8, [.ref ms, .int 1, .ref mb, .int 0, .int 0, .ref mk, .int ml, .ref mfd, .int mf, .int sp, .int on, .int tw])), (ms, .inl (K, 889, .inl sg_10))] := hD
    have hw_11 : r_9 = (chkd (cS d j)) := hw_11
    have hw_11 := hw_11.symm
    subst hw_11
    refine k_nrm (y := (chkd (cS d j))) rfl ?_
    have hP9 : va_P D vwCl [(mo, .inr (8, [.ref ms, .int 1, .ref mb, .int 0, .int 0, .ref mk, .int ml, .ref mfd, .int mf, .int sp, .int on, .int tw])), (ms, .inl (K, 889, .inl sg_10))] H := hP.sub [0, 1] rfl
    have hD9 : va_D A [(mo, .inr (8, [.ref ms, .int 1, .ref mb, .int 0, .int 0, .ref mk, .int ml, .ref mfd, .int mf, .int sp, .int on, .int tw])), (ms, .inl (K, 889, .inl sg_10))] := hD.sub [0, 1] (by decide) rfl
    have hK9 : va_K D vwCl [] s := hK.sub [] rfl
    exact W.iret (v := (chkd (cS d j))) hx hb hr (fun t ht9 hW9 => ⟨⟨(chkd (cS d j)), (0, 1, sg_10), rfl, by exact Or.inl ⟨c_3, by rw [hz, nI_clamp (by omega)], rfl⟩, ⟨by rw [ht9]; exact hP9, va_K.moved hW9.alike hK9, hD9⟩⟩, hS.F ht9⟩) hS.2.2 dX8_print_25
  · subst hr9
    refine lv_iconst (v := 1) hx hb dX8_print_6 (by decide) ?_
    have ct := k_cut_of (wc := [(mo, .inr (8, [.ref ms, .int 0, .ref mb, .int 0, .int th, .ref mk, .int ml, .ref mfd, .int mf, .int sp, .int on, .int tw]))]) (wr := [(ms, .inl (K, 889, .inl sf))]) (tc := []) hG hS hA hK hP hD [0] [1] [] rfl rfl (by decide) (by decide) (by decide) rfl
    refine k_endi (As := [.ref mo, .int 0, .int 1]) ct (k_runV (As := [.int 0, .int 1]) (rest := []) S0 Lv_X8_58 rfl (ci := 8) (q0 := 0) rfl rfl ct (c_M_goes0 l D mo ms 0 mb th mk ml mfd mf sp on tw 1 H.size) hl.1 rfl (Nat.le_of_ble_eq_true rfl) rfl dX8_print_7 ⟨⟨Nat.le_of_ble_eq_true rfl, Nat.le_of_ble_eq_true rfl⟩, Nat.le_of_ble_eq_true rfl, Nat.le_of_ble_eq_true rfl⟩) rfl rfl (fun r_12 _ H locs hw_13 hP hD hK hS => ?_)
    have hK : va_K D vwCl [(K, .int)] s := hK
    have hP : va_P D vwCl [(ms, .inl (K, 889, .inl sf)), (mo, .inr (8, [.ref ms, .int 0, .ref mb, .int 0, .int 1, .ref mk, .int ml, .ref mfd, .int mf, .int sp, .int on, .int tw]))] H := hP
    have hD : va_D A [(ms, .inl (K, 889, .inl sf)), (mo, .inr (8, [.ref ms, .int 0, .ref mb, .int 0, .int 1, .ref mk, .int ml, .ref mfd, .int mf, .int sp, .int on, .int tw]))] := hD
    have hw_13 : r_12 = 0 := hw_13
    have hw_13 := hw_13.symm
    subst hw_13
    refine k_nrm (y := 0) rfl ?_
    refine lv_if_ne (tgt := 15) hx hb dX8_print_10 (by decide) (fun c9 => absurd (by decide) c9) (fun _ => ?_)
    refine lv_iconst (v := 0) hx hb dX8_print_13 (by decide) ?_
    have hP9 : va_P D vwCl [(mo, .inr (8, [.ref ms, .int 0, .ref mb, .int 0, .int 1, .ref mk, .int ml, .ref mfd, .int mf, .int sp, .int on, .int tw])), (ms, .inl (K, 889, .inl sf))] H := hP.sub [1, 0] rfl
    have hD9 : va_D A [(mo, .inr (8, [.ref ms, .int 0, .ref mb, .int 0, .int 1, .ref mk, .int ml, .ref mfd, .int mf, .int sp, .int on, .int tw])), (ms, .inl (K, 889, .inl sf))] := hD.sub [1, 0] (by decide) rfl
    have hK9 : va_K D vwCl [] s := hK.sub [] rfl
    exact W.iret (v := 0) hx hb hr (fun t ht9 hW9 => ⟨⟨0, (1, 0, sf), rfl, by exact Or.inr ⟨c_4, rfl⟩, ⟨by rw [ht9]; exact hP9, va_K.moved hW9.alike hK9, hD9⟩⟩, hS.F ht9⟩) hS.2.2 dX8_print_14
