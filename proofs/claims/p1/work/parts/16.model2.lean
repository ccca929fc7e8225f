set_option maxRecDepth 20000 in
theorem lk_X8_copies : Cond.code yX8_copies cX8_copies 4 none ∈ wsA := mA 850 rfl rfl
theorem ly_X8_copies : k_y yX8_copies 2 := ⟨by decide +kernel, by decide +kernel, by decide +kernel⟩
set_option maxRecDepth 20000 in
theorem lm_X8_copies : Cond.instanceMethod yX8_copies ∈ wsA := mA 849 rfl rfl
theorem le_X8_copies : Cond.selects (yX8_copies).cls yX8_copies yX8_copies ∈ wsA := mS 23 rfl rfl
set_option maxRecDepth 20000 in
theorem Lv_X8_30 : k_LV RX8 30 yX8_copies cX8_copies 4 none 2 := ⟨mA 847 rfl rfl, lm_X8_copies, le_X8_copies, li_BarcodeWandModel, lk_X8_copies, ly_X8_copies⟩
set_option maxRecDepth 20000 in
theorem lf_X8_78 : Cond.fieldLink RX8 78 "BarcodeWandModel" "manyLooked" "I" ∈ wsA := mA 793 rfl rfl
set_option maxRecDepth 20000 in
theorem lf_X8_98 : Cond.fieldLink RX8 98 "BarcodeWandModel" "manyFound" "I" ∈ wsA := mA 795 rfl rfl
set_option maxRecDepth 20000 in
theorem lk_X8_fails : Cond.code yX8_fails cX8_fails 4 (some .int) ∈ wsA := mA 926 rfl rfl
theorem ly_X8_fails : k_y yX8_fails 2 := ⟨by decide +kernel, by decide +kernel, by decide +kernel⟩
set_option maxRecDepth 20000 in
theorem lm_X8_fails : Cond.instanceMethod yX8_fails ∈ wsA := mA 925 rfl rfl
theorem le_X8_fails : Cond.selects (yX8_fails).cls yX8_fails yX8_fails ∈ wsA := mS 34 rfl rfl
set_option maxRecDepth 20000 in
theorem Lv_X8_112 : k_LV RX8 112 yX8_fails cX8_fails 4 (some .int) 2 := ⟨mA 923 rfl rfl, lm_X8_fails, le_X8_fails, li_BarcodeWandModel, lk_X8_fails, ly_X8_fails⟩
set_option maxRecDepth 20000 in
theorem lk_X8_looksAtMeasurement : Cond.code yX8_looksAtMeasurement cX8_looksAtMeasurement 2 none ∈ wsA := mA 918 rfl rfl
theorem ly_X8_looksAtMeasurement : k_y yX8_looksAtMeasurement 0 := ⟨by decide +kernel, by decide +kernel, by decide +kernel⟩
set_option maxRecDepth 20000 in
theorem lm_X8_looksAtMeasurement : Cond.instanceMethod yX8_looksAtMeasurement ∈ wsA := mA 917 rfl rfl
theorem le_X8_looksAtMeasurement : Cond.selects (yX8_looksAtMeasurement).cls yX8_looksAtMeasurement yX8_looksAtMeasurement ∈ wsA := mS 32 rfl rfl
set_option maxRecDepth 20000 in
theorem Lv_X8_119 : k_LV RX8 119 yX8_looksAtMeasurement cX8_looksAtMeasurement 2 none 0 := ⟨mA 915 rfl rfl, lm_X8_looksAtMeasurement, le_X8_looksAtMeasurement, li_BarcodeWandModel, lk_X8_looksAtMeasurement, ly_X8_looksAtMeasurement⟩
set_option maxRecDepth 20000 in
theorem lk_X8_reads : Cond.code yX8_reads cX8_reads 4 (some .int) ∈ wsA := mA 922 rfl rfl
theorem ly_X8_reads : k_y yX8_reads 1 := ⟨by decide +kernel, by decide +kernel, by decide +kernel⟩
set_option maxRecDepth 20000 in
theorem lm_X8_reads : Cond.instanceMethod yX8_reads ∈ wsA := mA 921 rfl rfl
theorem le_X8_reads : Cond.selects (yX8_reads).cls yX8_reads yX8_reads ∈ wsA := mS 33 rfl rfl
set_option maxRecDepth 20000 in
theorem Lv_X8_122 : k_LV RX8 122 yX8_reads cX8_reads 4 (some .int) 1 := ⟨mA 919 rfl rfl, lm_X8_reads, le_X8_reads, li_BarcodeWandModel, lk_X8_reads, ly_X8_reads⟩
set_option maxRecDepth 20000 in
theorem lx_X8_193 : Cond.constantLong RX8 193 4025 ∈ wsA := mA 1118 rfl rfl
set_option maxRecDepth 20000 in
theorem lx_X8_195 : Cond.constantLong RX8 195 31 ∈ wsA := mA 1119 rfl rfl
set_option maxRecDepth 20000 in
theorem lk_X8_result : Cond.code yX8_result cX8_result 1 (some .int) ∈ wsA := mA 993 rfl rfl
theorem ly_X8_result : k_y yX8_result 0 := ⟨by decide +kernel, by decide +kernel, by decide +kernel⟩
set_option maxRecDepth 20000 in
theorem lm_X8_result : Cond.instanceMethod yX8_result ∈ wsA := mA 991 rfl rfl
set_option maxRecDepth 20000 in
theorem le_X8_result : Cond.selects (yX8_result).cls yX8_result yX8_result ∈ wsA := mA 992 rfl rfl
set_option maxRecDepth 20000 in
theorem Lv_X8_197 : k_LV RX8 197 yX8_result cX8_result 1 (some .int) 0 := ⟨mA 1120 rfl rfl, lm_X8_result, le_X8_result, li_BarcodeWandModel, lk_X8_result, ly_X8_result⟩
set_option maxRecDepth 20000 in
theorem lk_X8_reason : Cond.code yX8_reason cX8_reason 2 (some .int) ∈ wsA := mA 997 rfl rfl
theorem ly_X8_reason : k_y yX8_reason 1 := ⟨by decide +kernel, by decide +kernel, by decide +kernel⟩
set_option maxRecDepth 20000 in
theorem lm_X8_reason : Cond.instanceMethod yX8_reason ∈ wsA := mA 995 rfl rfl
set_option maxRecDepth 20000 in
theorem le_X8_reason : Cond.selects (yX8_reason).cls yX8_reason yX8_reason ∈ wsA := mA 996 rfl rfl
set_option maxRecDepth 20000 in
theorem Lv_X8_200 : k_LV RX8 200 yX8_reason cX8_reason 2 (some .int) 1 := ⟨mA 1121 rfl rfl, lm_X8_reason, le_X8_reason, li_BarcodeWandModel, lk_X8_reason, ly_X8_reason⟩
set_option maxRecDepth 20000 in
theorem lk_X8_leastTolerance : Cond.code yX8_leastTolerance cX8_leastTolerance 2 (some .int) ∈ wsA := mA 1049 rfl rfl
theorem ly_X8_leastTolerance : k_y yX8_leastTolerance 0 := ⟨by decide +kernel, by decide +kernel, by decide +kernel⟩
set_option maxRecDepth 20000 in
theorem lm_X8_leastTolerance : Cond.instanceMethod yX8_leastTolerance ∈ wsA := mA 1047 rfl rfl
set_option maxRecDepth 20000 in
theorem le_X8_leastTolerance : Cond.selects (yX8_leastTolerance).cls yX8_leastTolerance yX8_leastTolerance ∈ wsA := mA 1048 rfl rfl
set_option maxRecDepth 20000 in
theorem Lv_X8_204 : k_LV RX8 204 yX8_leastTolerance cX8_leastTolerance 2 (some .int) 0 := ⟨mA 1122 rfl rfl, lm_X8_leastTolerance, le_X8_leastTolerance, li_BarcodeWandModel, lk_X8_leastTolerance, ly_X8_leastTolerance⟩
theorem dX8_copies_0 : decode cX8_copies 0 = .ok (.iconst 0, 1) := by decide +kernel
theorem dX8_copies_1 : decode cX8_copies 1 = .ok (.istore_n 3, 1) := by decide +kernel
theorem dX8_copies_2 : decode cX8_copies 2 = .ok (.iload_n 3, 1) := by decide +kernel
theorem dX8_copies_3 : decode cX8_copies 3 = .ok (.bipush 127, 2) := by decide +kernel
theorem dX8_copies_5 : decode cX8_copies 5 = .ok (.if_icmp .ge 31, 3) := by decide +kernel
theorem dX8_copies_8 : decode cX8_copies 8 = .ok (.aload_n 0, 1) := by decide +kernel
theorem dX8_copies_9 : decode cX8_copies 9 = .ok (.getfield 7, 3) := by decide +kernel
theorem dX8_copies_12 : decode cX8_copies 12 = .ok (.bipush 127, 2) := by decide +kernel
theorem dX8_copies_14 : decode cX8_copies 14 = .ok (.iload_n 2, 1) := by decide +kernel
theorem dX8_copies_15 : decode cX8_copies 15 = .ok (.imul, 1) := by decide +kernel
theorem dX8_copies_16 : decode cX8_copies 16 = .ok (.iload_n 3, 1) := by decide +kernel
theorem dX8_copies_17 : decode cX8_copies 17 = .ok (.iadd, 1) := by decide +kernel
theorem dX8_copies_18 : decode cX8_copies 18 = .ok (.aload_n 0, 1) := by decide +kernel
theorem dX8_copies_19 : decode cX8_copies 19 = .ok (.getfield 7, 3) := by decide +kernel
theorem dX8_copies_22 : decode cX8_copies 22 = .ok (.bipush 127, 2) := by decide +kernel
theorem dX8_copies_24 : decode cX8_copies 24 = .ok (.iload_n 1, 1) := by decide +kernel
theorem dX8_copies_25 : decode cX8_copies 25 = .ok (.imul, 1) := by decide +kernel
theorem dX8_copies_26 : decode cX8_copies 26 = .ok (.iload_n 3, 1) := by decide +kernel
theorem dX8_copies_27 : decode cX8_copies 27 = .ok (.iadd, 1) := by decide +kernel
theorem dX8_copies_28 : decode cX8_copies 28 = .ok (.iaload, 1) := by decide +kernel
theorem dX8_copies_29 : decode cX8_copies 29 = .ok (.iastore, 1) := by decide +kernel
theorem dX8_copies_30 : decode cX8_copies 30 = .ok (.iinc 3 1, 3) := by decide +kernel
theorem dX8_copies_33 : decode cX8_copies 33 = .ok (.goto (-31), 3) := by decide +kernel
theorem dX8_copies_36 : decode cX8_copies 36 = .ok (.return_, 1) := by decide +kernel
theorem dX8_saves_0 : decode cX8_saves 0 = .ok (.aload_n 0, 1) := by decide +kernel
theorem dX8_saves_1 : decode cX8_saves 1 = .ok (.getfield 27, 3) := by decide +kernel
theorem dX8_saves_4 : decode cX8_saves 4 = .ok (.bipush 6, 2) := by decide +kernel
theorem dX8_saves_6 : decode cX8_saves 6 = .ok (.if_icmp .ne 35, 3) := by decide +kernel
theorem dX8_saves_9 : decode cX8_saves 9 = .ok (.iconst 1, 1) := by decide +kernel
theorem dX8_saves_10 : decode cX8_saves 10 = .ok (.istore_n 1, 1) := by decide +kernel
theorem dX8_saves_11 : decode cX8_saves 11 = .ok (.iload_n 1, 1) := by decide +kernel
theorem dX8_saves_12 : decode cX8_saves 12 = .ok (.bipush 6, 2) := by decide +kernel
theorem dX8_saves_14 : decode cX8_saves 14 = .ok (.if_icmp .ge 17, 3) := by decide +kernel
theorem dX8_saves_17 : decode cX8_saves 17 = .ok (.aload_n 0, 1) := by decide +kernel
theorem dX8_saves_18 : decode cX8_saves 18 = .ok (.iload_n 1, 1) := by decide +kernel
theorem dX8_saves_19 : decode cX8_saves 19 = .ok (.iconst 1, 1) := by decide +kernel
theorem dX8_saves_20 : decode cX8_saves 20 = .ok (.iadd, 1) := by decide +kernel
theorem dX8_saves_21 : decode cX8_saves 21 = .ok (.iload_n 1, 1) := by decide +kernel
theorem dX8_saves_22 : decode cX8_saves 22 = .ok (.invokevirtual 30, 3) := by decide +kernel
theorem dX8_saves_25 : decode cX8_saves 25 = .ok (.iinc 1 1, 3) := by decide +kernel
theorem dX8_saves_28 : decode cX8_saves 28 = .ok (.goto (-17), 3) := by decide +kernel
theorem dX8_saves_31 : decode cX8_saves 31 = .ok (.aload_n 0, 1) := by decide +kernel
theorem dX8_saves_32 : decode cX8_saves 32 = .ok (.dup, 1) := by decide +kernel
theorem dX8_saves_33 : decode cX8_saves 33 = .ok (.getfield 27, 3) := by decide +kernel
theorem dX8_saves_36 : decode cX8_saves 36 = .ok (.iconst 1, 1) := by decide +kernel
theorem dX8_saves_37 : decode cX8_saves 37 = .ok (.isub, 1) := by decide +kernel
theorem dX8_saves_38 : decode cX8_saves 38 = .ok (.putfield 27, 3) := by decide +kernel
theorem dX8_saves_41 : decode cX8_saves 41 = .ok (.aload_n 0, 1) := by decide +kernel
theorem dX8_saves_42 : decode cX8_saves 42 = .ok (.dup, 1) := by decide +kernel
theorem dX8_saves_43 : decode cX8_saves 43 = .ok (.getfield 27, 3) := by decide +kernel
theorem dX8_saves_46 : decode cX8_saves 46 = .ok (.iconst 1, 1) := by decide +kernel
theorem dX8_saves_47 : decode cX8_saves 47 = .ok (.iadd, 1) := by decide +kernel
theorem dX8_saves_48 : decode cX8_saves 48 = .ok (.putfield 27, 3) := by decide +kernel
theorem dX8_saves_51 : decode cX8_saves 51 = .ok (.aload_n 0, 1) := by decide +kernel
theorem dX8_saves_52 : decode cX8_saves 52 = .ok (.iconst 0, 1) := by decide +kernel
theorem dX8_saves_53 : decode cX8_saves 53 = .ok (.aload_n 0, 1) := by decide +kernel
theorem dX8_saves_54 : decode cX8_saves 54 = .ok (.getfield 27, 3) := by decide +kernel
theorem dX8_saves_57 : decode cX8_saves 57 = .ok (.invokevirtual 30, 3) := by decide +kernel
theorem dX8_saves_60 : decode cX8_saves 60 = .ok (.return_, 1) := by decide +kernel
theorem dX8_looksAtMeasurement_0 : decode cX8_looksAtMeasurement 0 = .ok (.aload_n 0, 1) := by decide +kernel
theorem dX8_looksAtMeasurement_1 : decode cX8_looksAtMeasurement 1 = .ok (.aload_n 0, 1) := by decide +kernel
theorem dX8_looksAtMeasurement_2 : decode cX8_looksAtMeasurement 2 = .ok (.getfield 7, 3) := by decide +kernel
theorem dX8_looksAtMeasurement_5 : decode cX8_looksAtMeasurement 5 = .ok (.bipush 51, 2) := by decide +kernel
theorem dX8_looksAtMeasurement_7 : decode cX8_looksAtMeasurement 7 = .ok (.iaload, 1) := by decide +kernel
theorem dX8_looksAtMeasurement_8 : decode cX8_looksAtMeasurement 8 = .ok (.putfield 78, 3) := by decide +kernel
theorem dX8_looksAtMeasurement_11 : decode cX8_looksAtMeasurement 11 = .ok (.iconst 0, 1) := by decide +kernel
theorem dX8_looksAtMeasurement_12 : decode cX8_looksAtMeasurement 12 = .ok (.istore_n 1, 1) := by decide +kernel
theorem dX8_looksAtMeasurement_13 : decode cX8_looksAtMeasurement 13 = .ok (.iload_n 1, 1) := by decide +kernel
theorem dX8_looksAtMeasurement_14 : decode cX8_looksAtMeasurement 14 = .ok (.aload_n 0, 1) := by decide +kernel
theorem dX8_looksAtMeasurement_15 : decode cX8_looksAtMeasurement 15 = .ok (.getfield 78, 3) := by decide +kernel
theorem dX8_looksAtMeasurement_18 : decode cX8_looksAtMeasurement 18 = .ok (.if_icmp .ge 24, 3) := by decide +kernel
theorem dX8_looksAtMeasurement_21 : decode cX8_looksAtMeasurement 21 = .ok (.aload_n 0, 1) := by decide +kernel
theorem dX8_looksAtMeasurement_22 : decode cX8_looksAtMeasurement 22 = .ok (.getfield 17, 3) := by decide +kernel
theorem dX8_looksAtMeasurement_25 : decode cX8_looksAtMeasurement 25 = .ok (.iload_n 1, 1) := by decide +kernel
theorem dX8_looksAtMeasurement_26 : decode cX8_looksAtMeasurement 26 = .ok (.aload_n 0, 1) := by decide +kernel
theorem dX8_looksAtMeasurement_27 : decode cX8_looksAtMeasurement 27 = .ok (.getfield 7, 3) := by decide +kernel
theorem dX8_looksAtMeasurement_30 : decode cX8_looksAtMeasurement 30 = .ok (.bipush 52, 2) := by decide +kernel
theorem dX8_looksAtMeasurement_32 : decode cX8_looksAtMeasurement 32 = .ok (.iload_n 1, 1) := by decide +kernel
theorem dX8_looksAtMeasurement_33 : decode cX8_looksAtMeasurement 33 = .ok (.iadd, 1) := by decide +kernel
theorem dX8_looksAtMeasurement_34 : decode cX8_looksAtMeasurement 34 = .ok (.iaload, 1) := by decide +kernel
theorem dX8_looksAtMeasurement_35 : decode cX8_looksAtMeasurement 35 = .ok (.iastore, 1) := by decide +kernel
theorem dX8_looksAtMeasurement_36 : decode cX8_looksAtMeasurement 36 = .ok (.iinc 1 1, 3) := by decide +kernel
theorem dX8_looksAtMeasurement_39 : decode cX8_looksAtMeasurement 39 = .ok (.goto (-26), 3) := by decide +kernel
theorem dX8_looksAtMeasurement_42 : decode cX8_looksAtMeasurement 42 = .ok (.return_, 1) := by decide +kernel
theorem dX8_fails_0 : decode cX8_fails 0 = .ok (.aload_n 0, 1) := by decide +kernel
theorem dX8_fails_1 : decode cX8_fails 1 = .ok (.aload_n 0, 1) := by decide +kernel
theorem dX8_fails_2 : decode cX8_fails 2 = .ok (.getfield 78, 3) := by decide +kernel
theorem dX8_fails_5 : decode cX8_fails 5 = .ok (.iconst 5, 1) := by decide +kernel
theorem dX8_fails_6 : decode cX8_fails 6 = .ok (.isub, 1) := by decide +kernel
theorem dX8_fails_7 : decode cX8_fails 7 = .ok (.iconst 4, 1) := by decide +kernel
theorem dX8_fails_8 : decode cX8_fails 8 = .ok (.idiv, 1) := by decide +kernel
theorem dX8_fails_9 : decode cX8_fails 9 = .ok (.putfield 98, 3) := by decide +kernel
theorem dX8_fails_12 : decode cX8_fails 12 = .ok (.aload_n 0, 1) := by decide +kernel
theorem dX8_fails_13 : decode cX8_fails 13 = .ok (.getfield 78, 3) := by decide +kernel
theorem dX8_fails_16 : decode cX8_fails 16 = .ok (.bipush 13, 2) := by decide +kernel
theorem dX8_fails_18 : decode cX8_fails 18 = .ok (.bipush 41, 2) := by decide +kernel
theorem dX8_fails_20 : decode cX8_fails 20 = .ok (.invokestatic 46, 3) := by decide +kernel
theorem dX8_fails_23 : decode cX8_fails 23 = .ok (.ifCond .eq 13, 3) := by decide +kernel
theorem dX8_fails_26 : decode cX8_fails 26 = .ok (.aload_n 0, 1) := by decide +kernel
theorem dX8_fails_27 : decode cX8_fails 27 = .ok (.getfield 78, 3) := by decide +kernel
theorem dX8_fails_30 : decode cX8_fails 30 = .ok (.iconst 4, 1) := by decide +kernel
theorem dX8_fails_31 : decode cX8_fails 31 = .ok (.irem, 1) := by decide +kernel
theorem dX8_fails_32 : decode cX8_fails 32 = .ok (.iconst 1, 1) := by decide +kernel
theorem dX8_fails_33 : decode cX8_fails 33 = .ok (.if_icmp .eq 5, 3) := by decide +kernel
theorem dX8_fails_36 : decode cX8_fails 36 = .ok (.iconst 1, 1) := by decide +kernel
theorem dX8_fails_37 : decode cX8_fails 37 = .ok (.ireturn, 1) := by decide +kernel
theorem dX8_fails_38 : decode cX8_fails 38 = .ok (.aload_n 0, 1) := by decide +kernel
theorem dX8_fails_39 : decode cX8_fails 39 = .ok (.iload_n 1, 1) := by decide +kernel
theorem dX8_fails_40 : decode cX8_fails 40 = .ok (.invokevirtual 101, 3) := by decide +kernel
theorem dX8_fails_43 : decode cX8_fails 43 = .ok (.ifCond .ne 5, 3) := by decide +kernel
theorem dX8_fails_46 : decode cX8_fails 46 = .ok (.iconst 2, 1) := by decide +kernel
theorem dX8_fails_47 : decode cX8_fails 47 = .ok (.ireturn, 1) := by decide +kernel
theorem dX8_fails_48 : decode cX8_fails 48 = .ok (.iconst 0, 1) := by decide +kernel
theorem dX8_fails_49 : decode cX8_fails 49 = .ok (.istore_n 3, 1) := by decide +kernel
theorem dX8_fails_50 : decode cX8_fails 50 = .ok (.iload_n 3, 1) := by decide +kernel
theorem dX8_fails_51 : decode cX8_fails 51 = .ok (.aload_n 0, 1) := by decide +kernel
theorem dX8_fails_52 : decode cX8_fails 52 = .ok (.getfield 98, 3) := by decide +kernel
theorem dX8_fails_55 : decode cX8_fails 55 = .ok (.if_icmp .ge 38, 3) := by decide +kernel
theorem dX8_fails_58 : decode cX8_fails 58 = .ok (.aload_n 0, 1) := by decide +kernel
theorem dX8_fails_59 : decode cX8_fails 59 = .ok (.getfield 20, 3) := by decide +kernel
theorem dX8_fails_62 : decode cX8_fails 62 = .ok (.iload_n 3, 1) := by decide +kernel
theorem dX8_fails_63 : decode cX8_fails 63 = .ok (.aload_n 0, 1) := by decide +kernel
theorem dX8_fails_64 : decode cX8_fails 64 = .ok (.iconst 3, 1) := by decide +kernel
theorem dX8_fails_65 : decode cX8_fails 65 = .ok (.iconst 4, 1) := by decide +kernel
theorem dX8_fails_66 : decode cX8_fails 66 = .ok (.iload_n 3, 1) := by decide +kernel
theorem dX8_fails_67 : decode cX8_fails 67 = .ok (.imul, 1) := by decide +kernel
theorem dX8_fails_68 : decode cX8_fails 68 = .ok (.iadd, 1) := by decide +kernel
theorem dX8_fails_69 : decode cX8_fails 69 = .ok (.iload_n 1, 1) := by decide +kernel
theorem dX8_fails_70 : decode cX8_fails 70 = .ok (.iload_n 2, 1) := by decide +kernel
theorem dX8_fails_71 : decode cX8_fails 71 = .ok (.invokevirtual 105, 3) := by decide +kernel
theorem dX8_fails_74 : decode cX8_fails 74 = .ok (.iastore, 1) := by decide +kernel
theorem dX8_fails_75 : decode cX8_fails 75 = .ok (.aload_n 0, 1) := by decide +kernel
theorem dX8_fails_76 : decode cX8_fails 76 = .ok (.getfield 20, 3) := by decide +kernel
theorem dX8_fails_79 : decode cX8_fails 79 = .ok (.iload_n 3, 1) := by decide +kernel
theorem dX8_fails_80 : decode cX8_fails 80 = .ok (.iaload, 1) := by decide +kernel
theorem dX8_fails_81 : decode cX8_fails 81 = .ok (.iconst (-1), 1) := by decide +kernel
theorem dX8_fails_82 : decode cX8_fails 82 = .ok (.if_icmp .ne 5, 3) := by decide +kernel
theorem dX8_fails_85 : decode cX8_fails 85 = .ok (.iconst 3, 1) := by decide +kernel
theorem dX8_fails_86 : decode cX8_fails 86 = .ok (.ireturn, 1) := by decide +kernel
theorem dX8_fails_87 : decode cX8_fails 87 = .ok (.iinc 3 1, 3) := by decide +kernel
theorem dX8_fails_90 : decode cX8_fails 90 = .ok (.goto (-40), 3) := by decide +kernel
theorem dX8_fails_93 : decode cX8_fails 93 = .ok (.aload_n 0, 1) := by decide +kernel
theorem dX8_fails_94 : decode cX8_fails 94 = .ok (.iload_n 1, 1) := by decide +kernel
theorem dX8_fails_95 : decode cX8_fails 95 = .ok (.invokevirtual 109, 3) := by decide +kernel
theorem dX8_fails_98 : decode cX8_fails 98 = .ok (.ifCond .ne 5, 3) := by decide +kernel
theorem dX8_fails_101 : decode cX8_fails 101 = .ok (.iconst 4, 1) := by decide +kernel
theorem dX8_fails_102 : decode cX8_fails 102 = .ok (.ireturn, 1) := by decide +kernel
theorem dX8_fails_103 : decode cX8_fails 103 = .ok (.aload_n 0, 1) := by decide +kernel
theorem dX8_fails_104 : decode cX8_fails 104 = .ok (.getfield 20, 3) := by decide +kernel
theorem dX8_fails_107 : decode cX8_fails 107 = .ok (.aload_n 0, 1) := by decide +kernel
theorem dX8_fails_108 : decode cX8_fails 108 = .ok (.getfield 98, 3) := by decide +kernel
theorem dX8_fails_111 : decode cX8_fails 111 = .ok (.iconst 1, 1) := by decide +kernel
theorem dX8_fails_112 : decode cX8_fails 112 = .ok (.isub, 1) := by decide +kernel
theorem dX8_fails_113 : decode cX8_fails 113 = .ok (.iaload, 1) := by decide +kernel
theorem dX8_fails_114 : decode cX8_fails 114 = .ok (.aload_n 0, 1) := by decide +kernel
theorem dX8_fails_115 : decode cX8_fails 115 = .ok (.getfield 20, 3) := by decide +kernel
theorem dX8_fails_118 : decode cX8_fails 118 = .ok (.iconst 0, 1) := by decide +kernel
theorem dX8_fails_119 : decode cX8_fails 119 = .ok (.aload_n 0, 1) := by decide +kernel
theorem dX8_fails_120 : decode cX8_fails 120 = .ok (.getfield 98, 3) := by decide +kernel
theorem dX8_fails_123 : decode cX8_fails 123 = .ok (.iconst 1, 1) := by decide +kernel
theorem dX8_fails_124 : decode cX8_fails 124 = .ok (.isub, 1) := by decide +kernel
theorem dX8_fails_125 : decode cX8_fails 125 = .ok (.invokestatic 50, 3) := by decide +kernel
theorem dX8_fails_128 : decode cX8_fails 128 = .ok (.if_icmp .ne 7, 3) := by decide +kernel
theorem dX8_fails_131 : decode cX8_fails 131 = .ok (.iconst 0, 1) := by decide +kernel
theorem dX8_fails_132 : decode cX8_fails 132 = .ok (.goto 4, 3) := by decide +kernel
theorem dX8_fails_135 : decode cX8_fails 135 = .ok (.iconst 5, 1) := by decide +kernel
theorem dX8_fails_136 : decode cX8_fails 136 = .ok (.ireturn, 1) := by decide +kernel
theorem dX8_reads_0 : decode cX8_reads 0 = .ok (.aload_n 0, 1) := by decide +kernel
theorem dX8_reads_1 : decode cX8_reads 1 = .ok (.iconst 0, 1) := by decide +kernel
theorem dX8_reads_2 : decode cX8_reads 2 = .ok (.iload_n 1, 1) := by decide +kernel
theorem dX8_reads_3 : decode cX8_reads 3 = .ok (.invokevirtual 112, 3) := by decide +kernel
theorem dX8_reads_6 : decode cX8_reads 6 = .ok (.istore_n 2, 1) := by decide +kernel
theorem dX8_reads_7 : decode cX8_reads 7 = .ok (.iload_n 2, 1) := by decide +kernel
theorem dX8_reads_8 : decode cX8_reads 8 = .ok (.ifCond .ne 5, 3) := by decide +kernel
theorem dX8_reads_11 : decode cX8_reads 11 = .ok (.iconst 0, 1) := by decide +kernel
theorem dX8_reads_12 : decode cX8_reads 12 = .ok (.ireturn, 1) := by decide +kernel
theorem dX8_reads_13 : decode cX8_reads 13 = .ok (.aload_n 0, 1) := by decide +kernel
theorem dX8_reads_14 : decode cX8_reads 14 = .ok (.iconst 1, 1) := by decide +kernel
theorem dX8_reads_15 : decode cX8_reads 15 = .ok (.iload_n 1, 1) := by decide +kernel
theorem dX8_reads_16 : decode cX8_reads 16 = .ok (.invokevirtual 112, 3) := by decide +kernel
theorem dX8_reads_19 : decode cX8_reads 19 = .ok (.istore_n 3, 1) := by decide +kernel
theorem dX8_reads_20 : decode cX8_reads 20 = .ok (.iload_n 3, 1) := by decide +kernel
theorem dX8_reads_21 : decode cX8_reads 21 = .ok (.ifCond .ne 7, 3) := by decide +kernel
theorem dX8_reads_24 : decode cX8_reads 24 = .ok (.iconst (-1), 1) := by decide +kernel
theorem dX8_reads_25 : decode cX8_reads 25 = .ok (.goto 13, 3) := by decide +kernel
theorem dX8_reads_28 : decode cX8_reads 28 = .ok (.iload_n 2, 1) := by decide +kernel
theorem dX8_reads_29 : decode cX8_reads 29 = .ok (.iload_n 3, 1) := by decide +kernel
theorem dX8_reads_30 : decode cX8_reads 30 = .ok (.if_icmp .le 7, 3) := by decide +kernel
theorem dX8_reads_33 : decode cX8_reads 33 = .ok (.iload_n 2, 1) := by decide +kernel
theorem dX8_reads_34 : decode cX8_reads 34 = .ok (.goto 4, 3) := by decide +kernel
theorem dX8_reads_37 : decode cX8_reads 37 = .ok (.iload_n 3, 1) := by decide +kernel
theorem dX8_reads_38 : decode cX8_reads 38 = .ok (.ireturn, 1) := by decide +kernel
theorem dX8_result_0 : decode cX8_result 0 = .ok (.aload_n 0, 1) := by decide +kernel
theorem dX8_result_1 : decode cX8_result 1 = .ok (.iconst 0, 1) := by decide +kernel
theorem dX8_result_2 : decode cX8_result 2 = .ok (.putfield 23, 3) := by decide +kernel
theorem dX8_result_5 : decode cX8_result 5 = .ok (.aload_n 0, 1) := by decide +kernel
theorem dX8_result_6 : decode cX8_result 6 = .ok (.invokevirtual 119, 3) := by decide +kernel
theorem dX8_result_9 : decode cX8_result 9 = .ok (.aload_n 0, 1) := by decide +kernel
theorem dX8_result_10 : decode cX8_result 10 = .ok (.aload_n 0, 1) := by decide +kernel
theorem dX8_result_11 : decode cX8_result 11 = .ok (.getfield 7, 3) := by decide +kernel
theorem dX8_result_14 : decode cX8_result 14 = .ok (.bipush 93, 2) := by decide +kernel
theorem dX8_result_16 : decode cX8_result 16 = .ok (.iaload, 1) := by decide +kernel
theorem dX8_result_17 : decode cX8_result 17 = .ok (.invokevirtual 122, 3) := by decide +kernel
theorem dX8_result_20 : decode cX8_result 20 = .ok (.ireturn, 1) := by decide +kernel
theorem dX8_reason_0 : decode cX8_reason 0 = .ok (.aload_n 0, 1) := by decide +kernel
theorem dX8_reason_1 : decode cX8_reason 1 = .ok (.iconst 0, 1) := by decide +kernel
theorem dX8_reason_2 : decode cX8_reason 2 = .ok (.putfield 23, 3) := by decide +kernel
theorem dX8_reason_5 : decode cX8_reason 5 = .ok (.aload_n 0, 1) := by decide +kernel
theorem dX8_reason_6 : decode cX8_reason 6 = .ok (.invokevirtual 119, 3) := by decide +kernel
theorem dX8_reason_9 : decode cX8_reason 9 = .ok (.aload_n 0, 1) := by decide +kernel
theorem dX8_reason_10 : decode cX8_reason 10 = .ok (.iload_n 1, 1) := by decide +kernel
theorem dX8_reason_11 : decode cX8_reason 11 = .ok (.aload_n 0, 1) := by decide +kernel
theorem dX8_reason_12 : decode cX8_reason 12 = .ok (.getfield 7, 3) := by decide +kernel
theorem dX8_reason_15 : decode cX8_reason 15 = .ok (.bipush 93, 2) := by decide +kernel
theorem dX8_reason_17 : decode cX8_reason 17 = .ok (.iaload, 1) := by decide +kernel
theorem dX8_reason_18 : decode cX8_reason 18 = .ok (.invokevirtual 112, 3) := by decide +kernel
theorem dX8_reason_21 : decode cX8_reason 21 = .ok (.ireturn, 1) := by decide +kernel
theorem dX8_leastTolerance_0 : decode cX8_leastTolerance 0 = .ok (.aload_n 0, 1) := by decide +kernel
theorem dX8_leastTolerance_1 : decode cX8_leastTolerance 1 = .ok (.iconst 0, 1) := by decide +kernel
theorem dX8_leastTolerance_2 : decode cX8_leastTolerance 2 = .ok (.putfield 23, 3) := by decide +kernel
theorem dX8_leastTolerance_5 : decode cX8_leastTolerance 5 = .ok (.aload_n 0, 1) := by decide +kernel
theorem dX8_leastTolerance_6 : decode cX8_leastTolerance 6 = .ok (.invokevirtual 119, 3) := by decide +kernel
theorem dX8_leastTolerance_9 : decode cX8_leastTolerance 9 = .ok (.iconst 1, 1) := by decide +kernel
theorem dX8_leastTolerance_10 : decode cX8_leastTolerance 10 = .ok (.istore_n 1, 1) := by decide +kernel
theorem dX8_leastTolerance_11 : decode cX8_leastTolerance 11 = .ok (.iload_n 1, 1) := by decide +kernel
theorem dX8_leastTolerance_12 : decode cX8_leastTolerance 12 = .ok (.bipush 8, 2) := by decide +kernel
theorem dX8_leastTolerance_14 : decode cX8_leastTolerance 14 = .ok (.if_icmp .gt 19, 3) := by decide +kernel
theorem dX8_leastTolerance_17 : decode cX8_leastTolerance 17 = .ok (.aload_n 0, 1) := by decide +kernel
theorem dX8_leastTolerance_18 : decode cX8_leastTolerance 18 = .ok (.iload_n 1, 1) := by decide +kernel
theorem dX8_leastTolerance_19 : decode cX8_leastTolerance 19 = .ok (.invokevirtual 122, 3) := by decide +kernel
theorem dX8_leastTolerance_22 : decode cX8_leastTolerance 22 = .ok (.ifCond .gt 5, 3) := by decide +kernel
theorem dX8_leastTolerance_25 : decode cX8_leastTolerance 25 = .ok (.iload_n 1, 1) := by decide +kernel
theorem dX8_leastTolerance_26 : decode cX8_leastTolerance 26 = .ok (.ireturn, 1) := by decide +kernel
theorem dX8_leastTolerance_27 : decode cX8_leastTolerance 27 = .ok (.iinc 1 1, 3) := by decide +kernel
theorem dX8_leastTolerance_30 : decode cX8_leastTolerance 30 = .ok (.goto (-19), 3) := by decide +kernel
theorem dX8_leastTolerance_33 : decode cX8_leastTolerance 33 = .ok (.iconst (-1), 1) := by decide +kernel
theorem dX8_leastTolerance_34 : decode cX8_leastTolerance 34 = .ok (.ireturn, 1) := by decide +kernel
theorem dX8_digest_0 : decode cX8_digest 0 = .ok (.ldc2_w 193, 3) := by decide +kernel
theorem dX8_digest_3 : decode cX8_digest 3 = .ok (.lstore_n 1, 1) := by decide +kernel
theorem dX8_digest_4 : decode cX8_digest 4 = .ok (.ldc2_w 195, 3) := by decide +kernel
theorem dX8_digest_7 : decode cX8_digest 7 = .ok (.lload_n 1, 1) := by decide +kernel
theorem dX8_digest_8 : decode cX8_digest 8 = .ok (.lmul, 1) := by decide +kernel
theorem dX8_digest_9 : decode cX8_digest 9 = .ok (.aload_n 0, 1) := by decide +kernel
theorem dX8_digest_10 : decode cX8_digest 10 = .ok (.invokevirtual 38, 3) := by decide +kernel
theorem dX8_digest_13 : decode cX8_digest 13 = .ok (.i2l, 1) := by decide +kernel
theorem dX8_digest_14 : decode cX8_digest 14 = .ok (.ladd, 1) := by decide +kernel
theorem dX8_digest_15 : decode cX8_digest 15 = .ok (.lstore_n 1, 1) := by decide +kernel
theorem dX8_digest_16 : decode cX8_digest 16 = .ok (.ldc2_w 195, 3) := by decide +kernel
theorem dX8_digest_19 : decode cX8_digest 19 = .ok (.lload_n 1, 1) := by decide +kernel
theorem dX8_digest_20 : decode cX8_digest 20 = .ok (.lmul, 1) := by decide +kernel
theorem dX8_digest_21 : decode cX8_digest 21 = .ok (.aload_n 0, 1) := by decide +kernel
theorem dX8_digest_22 : decode cX8_digest 22 = .ok (.getfield 7, 3) := by decide +kernel
theorem dX8_digest_25 : decode cX8_digest 25 = .ok (.bipush 51, 2) := by decide +kernel
theorem dX8_digest_27 : decode cX8_digest 27 = .ok (.iaload, 1) := by decide +kernel
theorem dX8_digest_28 : decode cX8_digest 28 = .ok (.i2l, 1) := by decide +kernel
theorem dX8_digest_29 : decode cX8_digest 29 = .ok (.ladd, 1) := by decide +kernel
theorem dX8_digest_30 : decode cX8_digest 30 = .ok (.lstore_n 1, 1) := by decide +kernel
theorem dX8_digest_31 : decode cX8_digest 31 = .ok (.ldc2_w 195, 3) := by decide +kernel
theorem dX8_digest_34 : decode cX8_digest 34 = .ok (.lload_n 1, 1) := by decide +kernel
theorem dX8_digest_35 : decode cX8_digest 35 = .ok (.lmul, 1) := by decide +kernel
theorem dX8_digest_36 : decode cX8_digest 36 = .ok (.aload_n 0, 1) := by decide +kernel
theorem dX8_digest_37 : decode cX8_digest 37 = .ok (.invokevirtual 197, 3) := by decide +kernel
theorem dX8_digest_40 : decode cX8_digest 40 = .ok (.i2l, 1) := by decide +kernel
theorem dX8_digest_41 : decode cX8_digest 41 = .ok (.ladd, 1) := by decide +kernel
theorem dX8_digest_42 : decode cX8_digest 42 = .ok (.lstore_n 1, 1) := by decide +kernel
theorem dX8_digest_43 : decode cX8_digest 43 = .ok (.ldc2_w 195, 3) := by decide +kernel
theorem dX8_digest_46 : decode cX8_digest 46 = .ok (.lload_n 1, 1) := by decide +kernel
theorem dX8_digest_47 : decode cX8_digest 47 = .ok (.lmul, 1) := by decide +kernel
theorem dX8_digest_48 : decode cX8_digest 48 = .ok (.aload_n 0, 1) := by decide +kernel
theorem dX8_digest_49 : decode cX8_digest 49 = .ok (.iconst 0, 1) := by decide +kernel
theorem dX8_digest_50 : decode cX8_digest 50 = .ok (.invokevirtual 200, 3) := by decide +kernel
theorem dX8_digest_53 : decode cX8_digest 53 = .ok (.i2l, 1) := by decide +kernel
theorem dX8_digest_54 : decode cX8_digest 54 = .ok (.ladd, 1) := by decide +kernel
theorem dX8_digest_55 : decode cX8_digest 55 = .ok (.lstore_n 1, 1) := by decide +kernel
theorem dX8_digest_56 : decode cX8_digest 56 = .ok (.ldc2_w 195, 3) := by decide +kernel
theorem dX8_digest_59 : decode cX8_digest 59 = .ok (.lload_n 1, 1) := by decide +kernel
theorem dX8_digest_60 : decode cX8_digest 60 = .ok (.lmul, 1) := by decide +kernel
theorem dX8_digest_61 : decode cX8_digest 61 = .ok (.aload_n 0, 1) := by decide +kernel
theorem dX8_digest_62 : decode cX8_digest 62 = .ok (.iconst 1, 1) := by decide +kernel
theorem dX8_digest_63 : decode cX8_digest 63 = .ok (.invokevirtual 200, 3) := by decide +kernel
theorem dX8_digest_66 : decode cX8_digest 66 = .ok (.i2l, 1) := by decide +kernel
theorem dX8_digest_67 : decode cX8_digest 67 = .ok (.ladd, 1) := by decide +kernel
theorem dX8_digest_68 : decode cX8_digest 68 = .ok (.lstore_n 1, 1) := by decide +kernel
theorem dX8_digest_69 : decode cX8_digest 69 = .ok (.ldc2_w 195, 3) := by decide +kernel
theorem dX8_digest_72 : decode cX8_digest 72 = .ok (.lload_n 1, 1) := by decide +kernel
theorem dX8_digest_73 : decode cX8_digest 73 = .ok (.lmul, 1) := by decide +kernel
theorem dX8_digest_74 : decode cX8_digest 74 = .ok (.aload_n 0, 1) := by decide +kernel
theorem dX8_digest_75 : decode cX8_digest 75 = .ok (.invokevirtual 204, 3) := by decide +kernel
theorem dX8_digest_78 : decode cX8_digest 78 = .ok (.i2l, 1) := by decide +kernel
theorem dX8_digest_79 : decode cX8_digest 79 = .ok (.ladd, 1) := by decide +kernel
theorem dX8_digest_80 : decode cX8_digest 80 = .ok (.lstore_n 1, 1) := by decide +kernel
theorem dX8_digest_81 : decode cX8_digest 81 = .ok (.ldc2_w 195, 3) := by decide +kernel
theorem dX8_digest_84 : decode cX8_digest 84 = .ok (.lload_n 1, 1) := by decide +kernel
theorem dX8_digest_85 : decode cX8_digest 85 = .ok (.lmul, 1) := by decide +kernel
theorem dX8_digest_86 : decode cX8_digest 86 = .ok (.aload_n 0, 1) := by decide +kernel
theorem dX8_digest_87 : decode cX8_digest 87 = .ok (.getfield 7, 3) := by decide +kernel
theorem dX8_digest_90 : decode cX8_digest 90 = .ok (.bipush 94, 2) := by decide +kernel
theorem dX8_digest_92 : decode cX8_digest 92 = .ok (.iaload, 1) := by decide +kernel
theorem dX8_digest_93 : decode cX8_digest 93 = .ok (.i2l, 1) := by decide +kernel
theorem dX8_digest_94 : decode cX8_digest 94 = .ok (.ladd, 1) := by decide +kernel
theorem dX8_digest_95 : decode cX8_digest 95 = .ok (.lstore_n 1, 1) := by decide +kernel
theorem dX8_digest_96 : decode cX8_digest 96 = .ok (.ldc2_w 195, 3) := by decide +kernel
theorem dX8_digest_99 : decode cX8_digest 99 = .ok (.lload_n 1, 1) := by decide +kernel
theorem dX8_digest_100 : decode cX8_digest 100 = .ok (.lmul, 1) := by decide +kernel
theorem dX8_digest_101 : decode cX8_digest 101 = .ok (.aload_n 0, 1) := by decide +kernel
theorem dX8_digest_102 : decode cX8_digest 102 = .ok (.getfield 7, 3) := by decide +kernel
theorem dX8_digest_105 : decode cX8_digest 105 = .ok (.bipush 125, 2) := by decide +kernel
theorem dX8_digest_107 : decode cX8_digest 107 = .ok (.iaload, 1) := by decide +kernel
theorem dX8_digest_108 : decode cX8_digest 108 = .ok (.i2l, 1) := by decide +kernel
theorem dX8_digest_109 : decode cX8_digest 109 = .ok (.ladd, 1) := by decide +kernel
theorem dX8_digest_110 : decode cX8_digest 110 = .ok (.lstore_n 1, 1) := by decide +kernel
theorem dX8_digest_111 : decode cX8_digest 111 = .ok (.ldc2_w 195, 3) := by decide +kernel
theorem dX8_digest_114 : decode cX8_digest 114 = .ok (.lload_n 1, 1) := by decide +kernel
theorem dX8_digest_115 : decode cX8_digest 115 = .ok (.lmul, 1) := by decide +kernel
theorem dX8_digest_116 : decode cX8_digest 116 = .ok (.aload_n 0, 1) := by decide +kernel
theorem dX8_digest_117 : decode cX8_digest 117 = .ok (.getfield 7, 3) := by decide +kernel
theorem dX8_digest_120 : decode cX8_digest 120 = .ok (.bipush 126, 2) := by decide +kernel
theorem dX8_digest_122 : decode cX8_digest 122 = .ok (.iaload, 1) := by decide +kernel
theorem dX8_digest_123 : decode cX8_digest 123 = .ok (.i2l, 1) := by decide +kernel
theorem dX8_digest_124 : decode cX8_digest 124 = .ok (.ladd, 1) := by decide +kernel
theorem dX8_digest_125 : decode cX8_digest 125 = .ok (.lstore_n 1, 1) := by decide +kernel
theorem dX8_digest_126 : decode cX8_digest 126 = .ok (.iconst 0, 1) := by decide +kernel
theorem dX8_digest_127 : decode cX8_digest 127 = .ok (.istore_n 3, 1) := by decide +kernel
theorem dX8_digest_128 : decode cX8_digest 128 = .ok (.iload_n 3, 1) := by decide +kernel
theorem dX8_digest_129 : decode cX8_digest 129 = .ok (.aload_n 0, 1) := by decide +kernel
theorem dX8_digest_130 : decode cX8_digest 130 = .ok (.invokevirtual 38, 3) := by decide +kernel
theorem dX8_digest_133 : decode cX8_digest 133 = .ok (.if_icmp .ge 52, 3) := by decide +kernel
theorem dX8_digest_136 : decode cX8_digest 136 = .ok (.ldc2_w 195, 3) := by decide +kernel
theorem dX8_digest_139 : decode cX8_digest 139 = .ok (.lload_n 1, 1) := by decide +kernel
theorem dX8_digest_140 : decode cX8_digest 140 = .ok (.lmul, 1) := by decide +kernel
theorem dX8_digest_141 : decode cX8_digest 141 = .ok (.aload_n 0, 1) := by decide +kernel
theorem dX8_digest_142 : decode cX8_digest 142 = .ok (.iload_n 3, 1) := by decide +kernel
theorem dX8_digest_143 : decode cX8_digest 143 = .ok (.invokevirtual 75, 3) := by decide +kernel
theorem dX8_digest_146 : decode cX8_digest 146 = .ok (.i2l, 1) := by decide +kernel
theorem dX8_digest_147 : decode cX8_digest 147 = .ok (.ladd, 1) := by decide +kernel
theorem dX8_digest_148 : decode cX8_digest 148 = .ok (.lstore_n 1, 1) := by decide +kernel
theorem dX8_digest_149 : decode cX8_digest 149 = .ok (.ldc2_w 195, 3) := by decide +kernel
theorem dX8_digest_152 : decode cX8_digest 152 = .ok (.lload_n 1, 1) := by decide +kernel
theorem dX8_digest_153 : decode cX8_digest 153 = .ok (.lmul, 1) := by decide +kernel
theorem dX8_digest_154 : decode cX8_digest 154 = .ok (.aload_n 0, 1) := by decide +kernel
theorem dX8_digest_155 : decode cX8_digest 155 = .ok (.getfield 7, 3) := by decide +kernel
theorem dX8_digest_158 : decode cX8_digest 158 = .ok (.bipush 10, 2) := by decide +kernel
theorem dX8_digest_160 : decode cX8_digest 160 = .ok (.iload_n 3, 1) := by decide +kernel
theorem dX8_digest_161 : decode cX8_digest 161 = .ok (.iadd, 1) := by decide +kernel
theorem dX8_digest_162 : decode cX8_digest 162 = .ok (.iaload, 1) := by decide +kernel
theorem dX8_digest_163 : decode cX8_digest 163 = .ok (.i2l, 1) := by decide +kernel
theorem dX8_digest_164 : decode cX8_digest 164 = .ok (.ladd, 1) := by decide +kernel
theorem dX8_digest_165 : decode cX8_digest 165 = .ok (.lstore_n 1, 1) := by decide +kernel
theorem dX8_digest_166 : decode cX8_digest 166 = .ok (.ldc2_w 195, 3) := by decide +kernel
theorem dX8_digest_169 : decode cX8_digest 169 = .ok (.lload_n 1, 1) := by decide +kernel
theorem dX8_digest_170 : decode cX8_digest 170 = .ok (.lmul, 1) := by decide +kernel
theorem dX8_digest_171 : decode cX8_digest 171 = .ok (.aload_n 0, 1) := by decide +kernel
theorem dX8_digest_172 : decode cX8_digest 172 = .ok (.iload_n 3, 1) := by decide +kernel
theorem dX8_digest_173 : decode cX8_digest 173 = .ok (.invokevirtual 144, 3) := by decide +kernel
theorem dX8_digest_176 : decode cX8_digest 176 = .ok (.i2l, 1) := by decide +kernel
theorem dX8_digest_177 : decode cX8_digest 177 = .ok (.ladd, 1) := by decide +kernel
theorem dX8_digest_178 : decode cX8_digest 178 = .ok (.lstore_n 1, 1) := by decide +kernel
theorem dX8_digest_179 : decode cX8_digest 179 = .ok (.iinc 3 1, 3) := by decide +kernel
theorem dX8_digest_182 : decode cX8_digest 182 = .ok (.goto (-54), 3) := by decide +kernel
theorem dX8_digest_185 : decode cX8_digest 185 = .ok (.iconst 0, 1) := by decide +kernel
theorem dX8_digest_186 : decode cX8_digest 186 = .ok (.istore_n 3, 1) := by decide +kernel
theorem dX8_digest_187 : decode cX8_digest 187 = .ok (.iload_n 3, 1) := by decide +kernel
theorem dX8_digest_188 : decode cX8_digest 188 = .ok (.aload_n 0, 1) := by decide +kernel
theorem dX8_digest_189 : decode cX8_digest 189 = .ok (.getfield 7, 3) := by decide +kernel
theorem dX8_digest_192 : decode cX8_digest 192 = .ok (.bipush 51, 2) := by decide +kernel
theorem dX8_digest_194 : decode cX8_digest 194 = .ok (.iaload, 1) := by decide +kernel
theorem dX8_digest_195 : decode cX8_digest 195 = .ok (.if_icmp .ge 26, 3) := by decide +kernel
theorem dX8_digest_198 : decode cX8_digest 198 = .ok (.ldc2_w 195, 3) := by decide +kernel
theorem dX8_digest_201 : decode cX8_digest 201 = .ok (.lload_n 1, 1) := by decide +kernel
theorem dX8_digest_202 : decode cX8_digest 202 = .ok (.lmul, 1) := by decide +kernel
theorem dX8_digest_203 : decode cX8_digest 203 = .ok (.aload_n 0, 1) := by decide +kernel
theorem dX8_digest_204 : decode cX8_digest 204 = .ok (.getfield 7, 3) := by decide +kernel
theorem dX8_digest_207 : decode cX8_digest 207 = .ok (.bipush 52, 2) := by decide +kernel
theorem dX8_digest_209 : decode cX8_digest 209 = .ok (.iload_n 3, 1) := by decide +kernel
theorem dX8_digest_210 : decode cX8_digest 210 = .ok (.iadd, 1) := by decide +kernel
theorem dX8_digest_211 : decode cX8_digest 211 = .ok (.iaload, 1) := by decide +kernel
theorem dX8_digest_212 : decode cX8_digest 212 = .ok (.i2l, 1) := by decide +kernel
theorem dX8_digest_213 : decode cX8_digest 213 = .ok (.ladd, 1) := by decide +kernel
theorem dX8_digest_214 : decode cX8_digest 214 = .ok (.lstore_n 1, 1) := by decide +kernel
theorem dX8_digest_215 : decode cX8_digest 215 = .ok (.iinc 3 1, 3) := by decide +kernel
theorem dX8_digest_218 : decode cX8_digest 218 = .ok (.goto (-31), 3) := by decide +kernel
theorem dX8_digest_221 : decode cX8_digest 221 = .ok (.iconst 0, 1) := by decide +kernel
theorem dX8_digest_222 : decode cX8_digest 222 = .ok (.istore_n 3, 1) := by decide +kernel
theorem dX8_digest_223 : decode cX8_digest 223 = .ok (.iload_n 3, 1) := by decide +kernel
theorem dX8_digest_224 : decode cX8_digest 224 = .ok (.aload_n 0, 1) := by decide +kernel
theorem dX8_digest_225 : decode cX8_digest 225 = .ok (.getfield 7, 3) := by decide +kernel
theorem dX8_digest_228 : decode cX8_digest 228 = .ok (.bipush 94, 2) := by decide +kernel
theorem dX8_digest_230 : decode cX8_digest 230 = .ok (.iaload, 1) := by decide +kernel
theorem dX8_digest_231 : decode cX8_digest 231 = .ok (.if_icmp .ge 60, 3) := by decide +kernel
theorem dX8_digest_234 : decode cX8_digest 234 = .ok (.ldc2_w 195, 3) := by decide +kernel
theorem dX8_digest_237 : decode cX8_digest 237 = .ok (.lload_n 1, 1) := by decide +kernel
theorem dX8_digest_238 : decode cX8_digest 238 = .ok (.lmul, 1) := by decide +kernel
theorem dX8_digest_239 : decode cX8_digest 239 = .ok (.aload_n 0, 1) := by decide +kernel
theorem dX8_digest_240 : decode cX8_digest 240 = .ok (.getfield 7, 3) := by decide +kernel
theorem dX8_digest_243 : decode cX8_digest 243 = .ok (.bipush 95, 2) := by decide +kernel
theorem dX8_digest_245 : decode cX8_digest 245 = .ok (.iload_n 3, 1) := by decide +kernel
theorem dX8_digest_246 : decode cX8_digest 246 = .ok (.iadd, 1) := by decide +kernel
theorem dX8_digest_247 : decode cX8_digest 247 = .ok (.iaload, 1) := by decide +kernel
theorem dX8_digest_248 : decode cX8_digest 248 = .ok (.i2l, 1) := by decide +kernel
theorem dX8_digest_249 : decode cX8_digest 249 = .ok (.ladd, 1) := by decide +kernel
theorem dX8_digest_250 : decode cX8_digest 250 = .ok (.lstore_n 1, 1) := by decide +kernel
theorem dX8_digest_251 : decode cX8_digest 251 = .ok (.ldc2_w 195, 3) := by decide +kernel
theorem dX8_digest_254 : decode cX8_digest 254 = .ok (.lload_n 1, 1) := by decide +kernel
theorem dX8_digest_255 : decode cX8_digest 255 = .ok (.lmul, 1) := by decide +kernel
theorem dX8_digest_256 : decode cX8_digest 256 = .ok (.aload_n 0, 1) := by decide +kernel
theorem dX8_digest_257 : decode cX8_digest 257 = .ok (.getfield 7, 3) := by decide +kernel
theorem dX8_digest_260 : decode cX8_digest 260 = .ok (.bipush 105, 2) := by decide +kernel
theorem dX8_digest_262 : decode cX8_digest 262 = .ok (.iload_n 3, 1) := by decide +kernel
theorem dX8_digest_263 : decode cX8_digest 263 = .ok (.iadd, 1) := by decide +kernel
theorem dX8_digest_264 : decode cX8_digest 264 = .ok (.iaload, 1) := by decide +kernel
theorem dX8_digest_265 : decode cX8_digest 265 = .ok (.i2l, 1) := by decide +kernel
theorem dX8_digest_266 : decode cX8_digest 266 = .ok (.ladd, 1) := by decide +kernel
theorem dX8_digest_267 : decode cX8_digest 267 = .ok (.lstore_n 1, 1) := by decide +kernel
theorem dX8_digest_268 : decode cX8_digest 268 = .ok (.ldc2_w 195, 3) := by decide +kernel
theorem dX8_digest_271 : decode cX8_digest 271 = .ok (.lload_n 1, 1) := by decide +kernel
theorem dX8_digest_272 : decode cX8_digest 272 = .ok (.lmul, 1) := by decide +kernel
theorem dX8_digest_273 : decode cX8_digest 273 = .ok (.aload_n 0, 1) := by decide +kernel
theorem dX8_digest_274 : decode cX8_digest 274 = .ok (.getfield 7, 3) := by decide +kernel
theorem dX8_digest_277 : decode cX8_digest 277 = .ok (.bipush 115, 2) := by decide +kernel
theorem dX8_digest_279 : decode cX8_digest 279 = .ok (.iload_n 3, 1) := by decide +kernel
theorem dX8_digest_280 : decode cX8_digest 280 = .ok (.iadd, 1) := by decide +kernel
theorem dX8_digest_281 : decode cX8_digest 281 = .ok (.iaload, 1) := by decide +kernel
theorem dX8_digest_282 : decode cX8_digest 282 = .ok (.i2l, 1) := by decide +kernel
theorem dX8_digest_283 : decode cX8_digest 283 = .ok (.ladd, 1) := by decide +kernel
theorem dX8_digest_284 : decode cX8_digest 284 = .ok (.lstore_n 1, 1) := by decide +kernel
theorem dX8_digest_285 : decode cX8_digest 285 = .ok (.iinc 3 1, 3) := by decide +kernel
theorem dX8_digest_288 : decode cX8_digest 288 = .ok (.goto (-65), 3) := by decide +kernel
theorem dX8_digest_291 : decode cX8_digest 291 = .ok (.lload_n 1, 1) := by decide +kernel
theorem dX8_digest_292 : decode cX8_digest 292 = .ok (.lreturn, 1) := by decide +kernel
set_option maxHeartbeats 4000000 in
set_option maxRecDepth 100000 in
theorem c_M_copies (l : Launch) (D : va_G) (mo : Nat) (ms : Nat) (sv : Int32) (mb : Nat) (th : Int32) (mk : Nat) (ml : Int32) (mfd : Nat) (mf : Int32) (sp : Int32) (on : Int32) (tw : Int32) (K : ClassId) (sf : Nat → Int32) (sz : Nat) : k_Mv (S := Unit) l D yX8_copies cX8_copies 4 none 0 0 0 0 [.ref mo, .int 0, .int 1] [(mo, .inr (8, [.ref ms, .int sv, .ref mb, .int 0, .int th, .ref mk, .int ml, .ref mfd, .int mf, .int sp, .int on, .int tw])), (ms, .inl (K, 889, .inl sf))] [(K, .int)] (fun (_ : Unit) => True) (fun _ => [(mo, .inr (8, [.ref ms, .int sv, .ref mb, .int 0, .int th, .ref mk, .int ml, .ref mfd, .int mf, .int sp, .int on, .int tw])), (ms, .inl (K, 889, .inl (cpf sf 127)))]) (fun _ => []) sz := by
  refine Met.ofW (cc := cX8_copies) (maxL := 4) (ret := none) (by decide) rfl ?_
  intro p e s m args below meth c s₁ B hml hv
  obtain ⟨rfl, hsz, hP, hK, hD0, hG⟩ := hv
  have hx := B.exec
  have hb := B.bytes
  have hr := B.returns
  have ht : ∀ v9 ∈ wsA, v9.before ([.ref mo, .int 0, .int 1] : List Value).toArray s = true := fun v9 h9 => atoms_spec (ws := k_ws yX8_copies cX8_copies 4 none) B.pre v9 (List.mem_cons_of_mem _ h9)
  have hown : s.vm.findClass RX8 = some m.cls := findClass_of_methodNamed B.named
  have S0 : k_C p s m ([.ref mo, .int 0, .int 1] : List Value).toArray c cX8_copies 4 RX8 := ⟨hx, hb, hml, hown, ht⟩
  have hlocks := B.notSynchronized
  subst hsz
  have hD := hD0.self (sz := s.heap.size)
  generalize hAe : va_A [(mo, .inr (8, [.ref ms, .int sv, .ref mb, .int 0, .int th, .ref mk, .int ml, .ref mfd, .int mf, .int sp, .int on, .int tw])), (ms, .inl (K, 889, .inl sf))] s.heap.size = A at hD hG ⊢
  have hA : ∀ q : Nat, s.heap.size ≤ q → A q := fun q h => by rw [← hAe]; exact Or.inr h
  have hS : va_S A s.heap s.heap [] := va_S.rf
  have hl := lv_entry ([.ref mo, .int 0, .int 1]) (n := 4) (Nat.le_of_ble_eq_true rfl)
  rw [lg_entry_eq]
  generalize (lg_sl ([.ref mo, .int 0, .int 1]) ++ List.replicate (4 - (lg_sl ([.ref mo, .int 0, .int 1])).length) Slot.unset).toArray = ls at hl ⊢
  have hl : lv_has ls 4 [(0, .ref mo), (1, .int 0), (2, .int 1)] := hl
  have hP : va_P D vwCl [(mo, .inr (8, [.ref ms, .int sv, .ref mb, .int 0, .int th, .ref mk, .int ml, .ref mfd, .int mf, .int sp, .int on, .int tw])), (ms, .inl (K, 889, .inl sf))] s.heap := hP
  refine lv_iconst (v := 0) hx hb dX8_copies_0 (by decide) ?_
  refine lv_istore_n (lv' := [(3, .int 0), (0, .ref mo), (1, .int 0), (2, .int 1)]) hx hb dX8_copies_1 rfl hl (by decide) rfl (fun ls hl => ?_)
  have hf_1 : sf = (cpf sf 0) := (cpf_0 sf).symm
  have hP : va_P D vwCl [(mo, .inr (8, [.ref ms, .int sv, .ref mb, .int 0, .int th, .ref mk, .int ml, .ref mfd, .int mf, .int sp, .int on, .int tw])), (ms, .inl (K, 889, .inl (cpf sf 0)))] s.heap := by rw [← hf_1]; exact hP
  have hD : va_D A [(mo, .inr (8, [.ref ms, .int sv, .ref mb, .int 0, .int th, .ref mk, .int ml, .ref mfd, .int mf, .int sp, .int on, .int tw])), (ms, .inl (K, 889, .inl (cpf sf 0)))] := by rw [← hf_1]; exact hD
  have hl : lv_has ls 4 [(3, .int (nI 0)), (0, .ref mo), (1, .int 0), (2, .int 1)] := hl
  refine k_loop (ι := Nat) (fun (i : Nat) H9 locs9 ls9 => (i ≤ 127) ∧ va_P D vwCl [(mo, .inr (8, [.ref ms, .int sv, .ref mb, .int 0, .int th, .ref mk, .int ml, .ref mfd, .int mf, .int sp, .int on, .int tw])), (ms, .inl (K, 889, .inl (cpf sf i)))] H9 ∧ va_D A [(mo, .inr (8, [.ref ms, .int sv, .ref mb, .int 0, .int th, .ref mk, .int ml, .ref mfd, .int mf, .int sp, .int on, .int tw])), (ms, .inl (K, 889, .inl (cpf sf i)))] ∧ va_S A s.heap H9 locs9 ∧ lv_has ls9 4 [(3, .int (nI i)), (0, .ref mo), (1, .int 0), (2, .int 1)]) (fun (i : Nat) => 127 - i) ?_ (0) ⟨(Nat.zero_le _), hP.sub [0, 1] rfl, hD.sub [0, 1] (by decide) rfl, hS, lv_sub hl [0, 1, 2, 3] rfl⟩
  intro x9 H locs ls hF9 ih9
  obtain ⟨i, hv9⟩ : ∃ z, z = x9 := ⟨_, rfl⟩
  subst hv9
  obtain ⟨hi, hP, hD, hS, hl⟩ := hF9
  try dsimp only at ih9
  have hP : va_P D vwCl [(mo, .inr (8, [.ref ms, .int sv, .ref mb, .int 0, .int th, .ref mk, .int ml, .ref mfd, .int mf, .int sp, .int on, .int tw])), (ms, .inl (K, 889, .inl (cpf sf i)))] H := hP
  have hD : va_D A [(mo, .inr (8, [.ref ms, .int sv, .ref mb, .int 0, .int th, .ref mk, .int ml, .ref mfd, .int mf, .int sp, .int on, .int tw])), (ms, .inl (K, 889, .inl (cpf sf i)))] := hD
  have hl : lv_has ls 4 [(3, .int (nI i)), (0, .ref mo), (1, .int 0), (2, .int 1)] := hl
  refine lv_iload_n hx hb dX8_copies_2 rfl (lv_at hl 0 rfl) ?_
  refine lv_bipush (v := 127) hx hb dX8_copies_3 (by decide) ?_
  refine lv_icmp_ge (tgt := 36) hx hb dX8_copies_5 (by decide) (fun c_2 => ?_) (fun c_2 => ?_)
  · have hc9 := c_2
    obtain rfl : 127 = i := by rcases Nat.lt_or_ge i 127 with q9 | q9; exact absurd c_2 (nI_ge (b := 127) q9 (by omega)); omega
    have hP9 : va_P D vwCl [(mo, .inr (8, [.ref ms, .int sv, .ref mb, .int 0, .int th, .ref mk, .int ml, .ref mfd, .int mf, .int sp, .int on, .int tw])), (ms, .inl (K, 889, .inl (cpf sf 127)))] H := hP.sub [0, 1] rfl
    have hD9 : va_D A [(mo, .inr (8, [.ref ms, .int sv, .ref mb, .int 0, .int th, .ref mk, .int ml, .ref mfd, .int mf, .int sp, .int on, .int tw])), (ms, .inl (K, 889, .inl (cpf sf 127)))] := hD.sub [0, 1] (by decide) rfl
    have hK9 : va_K D vwCl [] s := hK.sub [] rfl
    exact W.vret hx hb hr (fun t ht9 hW9 => ⟨⟨(), rfl, by first | rfl | trivial | assumption, ⟨by rw [ht9]; exact hP9, va_K.moved hW9.alike hK9, hD9⟩⟩, hS.F ht9⟩) hS.2.2 dX8_copies_36
  · have hc9 := c_2
    have hik : i + 1 ≤ 127 := by rcases Nat.lt_or_ge i 127 with q9 | q9; exact q9; exact absurd (nI_le (a := 127) q9 (by omega)) c_2
    refine lv_aload_n hx hb dX8_copies_8 rfl (lv_at hl 1 rfl) ?_
    refine va_get (D := D) (ci := 8) (v := .ref ms) (C := RX8) (T := TX8) (N := 12) hx hb ht inA_X8 hown hK hP 0 rfl rfl 0 (by decide) (ht _ lf_X8_7) (fun _ h9 => h9) rfl dX8_copies_9 ?_
    refine lv_bipush (v := 127) hx hb dX8_copies_12 (by decide) ?_
    refine lv_iload_n hx hb dX8_copies_14 rfl (lv_at hl 3 rfl) ?_
    refine lv_imul hx hb dX8_copies_15 ?_
    refine k_nrm (y := 127) (by decide) ?_
    refine lv_iload_n hx hb dX8_copies_16 rfl (lv_at hl 0 rfl) ?_
    refine lv_iadd hx hb dX8_copies_17 ?_
    refine k_nrm (y := (nI (127 + i))) (nI_add 127 i) ?_
    refine lv_aload_n hx hb dX8_copies_18 rfl (lv_at hl 1 rfl) ?_
    refine va_get (D := D) (ci := 8) (v := .ref ms) (C := RX8) (T := TX8) (N := 12) hx hb ht inA_X8 hown hK hP 0 rfl rfl 0 (by decide) (ht _ lf_X8_7) (fun _ h9 => h9) rfl dX8_copies_19 ?_
    refine lv_bipush (v := 127) hx hb dX8_copies_22 (by decide) ?_
    refine lv_iload_n hx hb dX8_copies_24 rfl (lv_at hl 2 rfl) ?_
    refine lv_imul hx hb dX8_copies_25 ?_
    refine k_nrm (y := 0) (by decide) ?_
    refine lv_iload_n hx hb dX8_copies_26 rfl (lv_at hl 0 rfl) ?_
    refine lv_iadd hx hb dX8_copies_27 ?_
    refine k_nrm (y := (nI i)) (Int32.zero_add _) ?_
    refine va_iald hx hb hK hP 1 0 rfl rfl (vp_in_nI (by omega) (by omega)) dX8_copies_28 ?_
    refine k_nrm (y := (cpf sf i i)) (by rw [nI_clamp (by omega)]) ?_
    refine va_iast hx hb hK hP hD hS 1 0 rfl rfl (vp_in_nI (by omega) (by omega)) dX8_copies_29 (fun H locs hP hD hS => ?_)
    have hP : va_P D vwCl [(mo, .inr (8, [.ref ms, .int sv, .ref mb, .int 0, .int th, .ref mk, .int ml, .ref mfd, .int mf, .int sp, .int on, .int tw])), (ms, .inl (K, 889, .inl (upd (cpf sf i) ((nI (127 + i)).toNatClampNeg) (cpf sf i i))))] H := hP
    have hD : va_D A [(mo, .inr (8, [.ref ms, .int sv, .ref mb, .int 0, .int th, .ref mk, .int ml, .ref mfd, .int mf, .int sp, .int on, .int tw])), (ms, .inl (K, 889, .inl (upd (cpf sf i) ((nI (127 + i)).toNatClampNeg) (cpf sf i i))))] := hD
    have hf9 : upd (cpf sf i) ((nI (127 + i)).toNatClampNeg) (cpf sf i i) = (cpf sf (i + 1)) := by rw [nI_clamp (by omega)]; exact cpf_s (by omega)
    rw [hf9] at hP hD
    have hP : va_P D vwCl [(mo, .inr (8, [.ref ms, .int sv, .ref mb, .int 0, .int th, .ref mk, .int ml, .ref mfd, .int mf, .int sp, .int on, .int tw])), (ms, .inl (K, 889, .inl (cpf sf (i + 1))))] H := hP
    have hD : va_D A [(mo, .inr (8, [.ref ms, .int sv, .ref mb, .int 0, .int th, .ref mk, .int ml, .ref mfd, .int mf, .int sp, .int on, .int tw])), (ms, .inl (K, 889, .inl (cpf sf (i + 1))))] := hD
    obtain ⟨x_3, ex_3⟩ : ∃ z : Int32, z = (nI i) + 1 := ⟨_, rfl⟩
    refine lv_iinc (v := x_3) (lv' := [(3, .int x_3), (0, .ref mo), (1, .int 0), (2, .int 1)]) hx hb dX8_copies_30 hl (k := 0) rfl (by rw [ex_3]; rfl) (by decide) rfl (fun ls hl => ?_)
    refine lv_goto (tgt := 2) hx hb dX8_copies_33 (by decide) ?_
    have he9 : x_3 = nI (i + 1) := by rw [ex_3]; exact nI_1 i
    rw [he9] at hl
    exact ih9 (i + 1) H locs ls (by omega) ⟨hik, hP.sub [0, 1] rfl, hD.sub [0, 1] (by decide) rfl, hS, lv_sub hl [0, 1, 2, 3] rfl⟩
set_option maxHeartbeats 4000000 in
set_option maxRecDepth 100000 in
theorem c_M_saves (l : Launch) (D : va_G) (mo : Nat) (ms : Nat) (mb : Nat) (th : Int32) (mk : Nat) (ml : Int32) (mfd : Nat) (mf : Int32) (sp : Int32) (on : Int32) (tw : Int32) (K : ClassId) (sf : Nat → Int32) (sz : Nat) : k_Mv (S := Unit) l D yX8_saves cX8_saves 2 none 1 0 0 23 [.ref mo] [(mo, .inr (8, [.ref ms, .int 0, .ref mb, .int 0, .int th, .ref mk, .int ml, .ref mfd, .int mf, .int sp, .int on, .int tw])), (ms, .inl (K, 889, .inl sf))] [(K, .int)] (fun (_ : Unit) => True) (fun _ => [(mo, .inr (8, [.ref ms, .int 1, .ref mb, .int 0, .int th, .ref mk, .int ml, .ref mfd, .int mf, .int sp, .int on, .int tw])), (ms, .inl (K, 889, .inl (cpf sf 127)))]) (fun _ => []) sz := by
  refine Met.ofW (cc := cX8_saves) (maxL := 2) (ret := none) (by decide) rfl ?_
  intro p e s m args below meth c s₁ B hml hv
  obtain ⟨rfl, hsz, hP, hK, hD0, hG⟩ := hv
  have hx := B.exec
  have hb := B.bytes
  have hr := B.returns
  have ht : ∀ v9 ∈ wsA, v9.before ([.ref mo] : List Value).toArray s = true := fun v9 h9 => atoms_spec (ws := k_ws yX8_saves cX8_saves 2 none) B.pre v9 (List.mem_cons_of_mem _ h9)
  have hown : s.vm.findClass RX8 = some m.cls := findClass_of_methodNamed B.named
  have S0 : k_C p s m ([.ref mo] : List Value).toArray c cX8_saves 2 RX8 := ⟨hx, hb, hml, hown, ht⟩
  have hlocks := B.notSynchronized
  subst hsz
  have hD := hD0.self (sz := s.heap.size)
  generalize hAe : va_A [(mo, .inr (8, [.ref ms, .int 0, .ref mb, .int 0, .int th, .ref mk, .int ml, .ref mfd, .int mf, .int sp, .int on, .int tw])), (ms, .inl (K, 889, .inl sf))] s.heap.size = A at hD hG ⊢
  have hA : ∀ q : Nat, s.heap.size ≤ q → A q := fun q h => by rw [← hAe]; exact Or.inr h
  have hS : va_S A s.heap s.heap [] := va_S.rf
  have hl := lv_entry ([.ref mo]) (n := 2) (Nat.le_of_ble_eq_true rfl)
  rw [lg_entry_eq]
  generalize (lg_sl ([.ref mo]) ++ List.replicate (2 - (lg_sl ([.ref mo])).length) Slot.unset).toArray = ls at hl ⊢
  have hl : lv_has ls 2 [(0, .ref mo)] := hl
  have hP : va_P D vwCl [(mo, .inr (8, [.ref ms, .int 0, .ref mb, .int 0, .int th, .ref mk, .int ml, .ref mfd, .int mf, .int sp, .int on, .int tw])), (ms, .inl (K, 889, .inl sf))] s.heap := hP
  refine lv_aload_n hx hb dX8_saves_0 rfl (lv_at hl 0 rfl) ?_
  refine va_get (D := D) (ci := 8) (v := .int 0) (C := RX8) (T := TX8) (N := 12) hx hb ht inA_X8 hown hK hP 0 rfl rfl 1 (by decide) (ht _ lf_X8_27) (fun _ h9 => h9) rfl dX8_saves_1 ?_
  refine lv_bipush (v := 6) hx hb dX8_saves_4 (by decide) ?_
  refine lv_icmp_ne (tgt := 41) hx hb dX8_saves_6 (by decide) (fun _ => ?_) (fun c9 => absurd c9 (by decide))
  refine lv_aload_n hx hb dX8_saves_41 rfl (lv_at hl 0 rfl) ?_
  refine lv_dup hx hb dX8_saves_42 rfl ?_
  refine va_get (D := D) (ci := 8) (v := .int 0) (C := RX8) (T := TX8) (N := 12) hx hb ht inA_X8 hown hK hP 0 rfl rfl 1 (by decide) (ht _ lf_X8_27) (fun _ h9 => h9) rfl dX8_saves_43 ?_
  refine lv_iconst (v := 1) hx hb dX8_saves_46 (by decide) ?_
  refine lv_iadd hx hb dX8_saves_47 ?_
  refine k_nrm (y := 1) (by decide) ?_
  refine va_put (D := D) (ci := 8) (v := .int 1) (ty := .int) (C := RX8) (T := TX8) (N := 12) hx hb ht inA_X8 tyX8 tyX8_ok nmX8 hown hK hP hD hS 0 rfl rfl 1 (by decide) (ht _ lf_X8_27) (fun _ h9 => h9) rfl (tyX8_ok 1 (by decide)) rfl rfl (Nat.le_of_ble_eq_true rfl) dX8_saves_48 (fun H locs hP hD hS => ?_)
  have hP : va_P D vwCl [(mo, .inr (8, [.ref ms, .int 1, .ref mb, .int 0, .int th, .ref mk, .int ml, .ref mfd, .int mf, .int sp, .int on, .int tw])), (ms, .inl (K, 889, .inl sf))] H := hP
  have hD : va_D A [(mo, .inr (8, [.ref ms, .int 1, .ref mb, .int 0, .int th, .ref mk, .int ml, .ref mfd, .int mf, .int sp, .int on, .int tw])), (ms, .inl (K, 889, .inl sf))] := hD
  refine lv_aload_n hx hb dX8_saves_51 rfl (lv_at hl 0 rfl) ?_
  refine lv_iconst (v := 0) hx hb dX8_saves_52 (by decide) ?_
  refine lv_aload_n hx hb dX8_saves_53 rfl (lv_at hl 0 rfl) ?_
  refine va_get (D := D) (ci := 8) (v := .int 1) (C := RX8) (T := TX8) (N := 12) hx hb ht inA_X8 hown hK hP 0 rfl rfl 1 (by decide) (ht _ lf_X8_27) (fun _ h9 => h9) rfl dX8_saves_54 ?_
  have ct := k_cut_of (wc := [(mo, .inr (8, [.ref ms, .int 1, .ref mb, .int 0, .int th, .ref mk, .int ml, .ref mfd, .int mf, .int sp, .int on, .int tw])), (ms, .inl (K, 889, .inl sf))]) (wr := []) (tc := [(K, .int)]) hG hS hA hK hP hD [0, 1] [] [0] rfl rfl (by decide) (by decide) (by decide) rfl
  refine k_endv (As := [.ref mo, .int 0, .int 1]) ct (k_runV (As := [.int 0, .int 1]) (rest := []) S0 Lv_X8_30 rfl (ci := 8) (q0 := 0) rfl rfl ct (c_M_copies l D mo ms 1 mb th mk ml mfd mf sp on tw K sf H.size) hl.1 rfl (Nat.le_of_ble_eq_true rfl) rfl dX8_saves_57 ⟨⟨Nat.le_of_ble_eq_true rfl, Nat.le_of_ble_eq_true rfl⟩, Nat.le_of_ble_eq_true rfl, Nat.le_of_ble_eq_true rfl⟩) rfl rfl (fun _ _ H locs hw_2 hP hD hK hS => ?_)
  have hK : va_K D vwCl [(K, .int)] s := hK
  have hP : va_P D vwCl [(mo, .inr (8, [.ref ms, .int 1, .ref mb, .int 0, .int th, .ref mk, .int ml, .ref mfd, .int mf, .int sp, .int on, .int tw])), (ms, .inl (K, 889, .inl (cpf sf 127)))] H := hP
  have hD : va_D A [(mo, .inr (8, [.ref ms, .int 1, .ref mb, .int 0, .int th, .ref mk, .int ml, .ref mfd, .int mf, .int sp, .int on, .int tw])), (ms, .inl (K, 889, .inl (cpf sf 127)))] := hD
  have hP9 : va_P D vwCl [(mo, .inr (8, [.ref ms, .int 1, .ref mb, .int 0, .int th, .ref mk, .int ml, .ref mfd, .int mf, .int sp, .int on, .int tw])), (ms, .inl (K, 889, .inl (cpf sf 127)))] H := hP.sub [0, 1] rfl
  have hD9 : va_D A [(mo, .inr (8, [.ref ms, .int 1, .ref mb, .int 0, .int th, .ref mk, .int ml, .ref mfd, .int mf, .int sp, .int on, .int tw])), (ms, .inl (K, 889, .inl (cpf sf 127)))] := hD.sub [0, 1] (by decide) rfl
  have hK9 : va_K D vwCl [] s := hK.sub [] rfl
  exact W.vret hx hb hr (fun t ht9 hW9 => ⟨⟨(), rfl, by first | rfl | trivial | assumption, ⟨by rw [ht9]; exact hP9, va_K.moved hW9.alike hK9, hD9⟩⟩, hS.F ht9⟩) hS.2.2 dX8_saves_60
set_option maxHeartbeats 4000000 in
set_option maxRecDepth 100000 in
theorem c_M_looks (l : Launch) (D : va_G) (mo : Nat) (ms : Nat) (sv : Int32) (mb : Nat) (th : Int32) (mk : Nat) (ml : Int32) (mfd : Nat) (mf : Int32) (sp : Int32) (on : Int32) (tw : Int32) (K : ClassId) (sf : Nat → Int32) (hs0 : sf 0 = 0) (hs51 : sf 51 = 0) (hs93 : sf 93 = 4) (hs94 : sf 94 = 0) (hs125 : sf 125 = 0) (hs126 : sf 126 = 0) (sz : Nat) : k_Mv (S := Unit) l D yX8_looksAtMeasurement cX8_looksAtMeasurement 2 none 0 0 0 0 [.ref mo] [(mo, .inr (8, [.ref ms, .int sv, .ref mb, .int 0, .int th, .ref mk, .int ml, .ref mfd, .int mf, .int sp, .int on, .int tw])), (ms, .inl (K, 889, .inl sf))] [(K, .int)] (fun (_ : Unit) => True) (fun _ => [(mo, .inr (8, [.ref ms, .int sv, .ref mb, .int 0, .int th, .ref mk, .int 0, .ref mfd, .int mf, .int sp, .int on, .int tw])), (ms, .inl (K, 889, .inl sf))]) (fun _ => []) sz := by
  refine Met.ofW (cc := cX8_looksAtMeasurement) (maxL := 2) (ret := none) (by decide) rfl ?_
  intro p e s m args below meth c s₁ B hml hv
  obtain ⟨rfl, hsz, hP, hK, hD0, hG⟩ := hv
  have hx := B.exec
  have hb := B.bytes
  have hr := B.returns
  have ht : ∀ v9 ∈ wsA, v9.before ([.ref mo] : List Value).toArray s = true := fun v9 h9 => atoms_spec (ws := k_ws yX8_looksAtMeasurement cX8_looksAtMeasurement 2 none) B.pre v9 (List.mem_cons_of_mem _ h9)
  have hown : s.vm.findClass RX8 = some m.cls := findClass_of_methodNamed B.named
  have S0 : k_C p s m ([.ref mo] : List Value).toArray c cX8_looksAtMeasurement 2 RX8 := ⟨hx, hb, hml, hown, ht⟩
  have hlocks := B.notSynchronized
  subst hsz
  have hD := hD0.self (sz := s.heap.size)
  generalize hAe : va_A [(mo, .inr (8, [.ref ms, .int sv, .ref mb, .int 0, .int th, .ref mk, .int ml, .ref mfd, .int mf, .int sp, .int on, .int tw])), (ms, .inl (K, 889, .inl sf))] s.heap.size = A at hD hG ⊢
  have hA : ∀ q : Nat, s.heap.size ≤ q → A q := fun q h => by rw [← hAe]; exact Or.inr h
  have hS : va_S A s.heap s.heap [] := va_S.rf
  have hl := lv_entry ([.ref mo]) (n := 2) (Nat.le_of_ble_eq_true rfl)
  rw [lg_entry_eq]
  generalize (lg_sl ([.ref mo]) ++ List.replicate (2 - (lg_sl ([.ref mo])).length) Slot.unset).toArray = ls at hl ⊢
  have hl : lv_has ls 2 [(0, .ref mo)] := hl
  have hP : va_P D vwCl [(mo, .inr (8, [.ref ms, .int sv, .ref mb, .int 0, .int th, .ref mk, .int ml, .ref mfd, .int mf, .int sp, .int on, .int tw])), (ms, .inl (K, 889, .inl sf))] s.heap := hP
  refine lv_aload_n hx hb dX8_looksAtMeasurement_0 rfl (lv_at hl 0 rfl) ?_
  refine lv_aload_n hx hb dX8_looksAtMeasurement_1 rfl (lv_at hl 0 rfl) ?_
  refine va_get (D := D) (ci := 8) (v := .ref ms) (C := RX8) (T := TX8) (N := 12) hx hb ht inA_X8 hown hK hP 0 rfl rfl 0 (by decide) (ht _ lf_X8_7) (fun _ h9 => h9) rfl dX8_looksAtMeasurement_2 ?_
  refine lv_bipush (v := 51) hx hb dX8_looksAtMeasurement_5 (by decide) ?_
  refine va_iald hx hb hK hP 1 0 rfl rfl (by unfold vp_in; decide) dX8_looksAtMeasurement_7 ?_
  refine k_nrm (y := 0) (show sf (51 : Int32).toNatClampNeg = 0 from hs51) ?_
  refine va_put (D := D) (ci := 8) (v := .int 0) (ty := .int) (C := RX8) (T := TX8) (N := 12) hx hb ht inA_X8 tyX8 tyX8_ok nmX8 hown hK hP hD hS 0 rfl rfl 6 (by decide) (ht _ lf_X8_78) (fun _ h9 => h9) rfl (tyX8_ok 6 (by decide)) rfl rfl (Nat.le_of_ble_eq_true rfl) dX8_looksAtMeasurement_8 (fun H locs hP hD hS => ?_)
  have hP : va_P D vwCl [(mo, .inr (8, [.ref ms, .int sv, .ref mb, .int 0, .int th, .ref mk, .int 0, .ref mfd, .int mf, .int sp, .int on, .int tw])), (ms, .inl (K, 889, .inl sf))] H := hP
  have hD : va_D A [(mo, .inr (8, [.ref ms, .int sv, .ref mb, .int 0, .int th, .ref mk, .int 0, .ref mfd, .int mf, .int sp, .int on, .int tw])), (ms, .inl (K, 889, .inl sf))] := hD
  refine lv_iconst (v := 0) hx hb dX8_looksAtMeasurement_11 (by decide) ?_
  refine lv_istore_n (lv' := [(1, .int 0), (0, .ref mo)]) hx hb dX8_looksAtMeasurement_12 rfl hl (by decide) rfl (fun ls hl => ?_)
  refine lv_iload_n hx hb dX8_looksAtMeasurement_13 rfl (lv_at hl 0 rfl) ?_
  refine lv_aload_n hx hb dX8_looksAtMeasurement_14 rfl (lv_at hl 1 rfl) ?_
  refine va_get (D := D) (ci := 8) (v := .int 0) (C := RX8) (T := TX8) (N := 12) hx hb ht inA_X8 hown hK hP 0 rfl rfl 6 (by decide) (ht _ lf_X8_78) (fun _ h9 => h9) rfl dX8_looksAtMeasurement_15 ?_
  refine lv_icmp_ge (tgt := 42) hx hb dX8_looksAtMeasurement_18 (by decide) (fun _ => ?_) (fun c9 => absurd (by decide) c9)
  have hP9 : va_P D vwCl [(mo, .inr (8, [.ref ms, .int sv, .ref mb, .int 0, .int th, .ref mk, .int 0, .ref mfd, .int mf, .int sp, .int on, .int tw])), (ms, .inl (K, 889, .inl sf))] H := hP.sub [0, 1] rfl
  have hD9 : va_D A [(mo, .inr (8, [.ref ms, .int sv, .ref mb, .int 0, .int th, .ref mk, .int 0, .ref mfd, .int mf, .int sp, .int on, .int tw])), (ms, .inl (K, 889, .inl sf))] := hD.sub [0, 1] (by decide) rfl
  have hK9 : va_K D vwCl [] s := hK.sub [] rfl
  exact W.vret hx hb hr (fun t ht9 hW9 => ⟨⟨(), rfl, by first | rfl | trivial | assumption, ⟨by rw [ht9]; exact hP9, va_K.moved hW9.alike hK9, hD9⟩⟩, hS.F ht9⟩) hS.2.2 dX8_looksAtMeasurement_42
set_option maxHeartbeats 4000000 in
set_option maxRecDepth 100000 in
theorem c_M_fails (l : Launch) (D : va_G) (mo : Nat) (ms : Nat) (sv : Int32) (mb : Nat) (th : Int32) (mk : Nat) (mfd : Nat) (mf : Int32) (sp : Int32) (on : Int32) (tw : Int32) (b : Int32) (to : Int32) (sz : Nat) : k_Mi (S := Unit) l D yX8_fails cX8_fails 4 (some .int) 1 0 0 22 [.ref mo, .int b, .int to] [(mo, .inr (8, [.ref ms, .int sv, .ref mb, .int 0, .int th, .ref mk, .int 0, .ref mfd, .int mf, .int sp, .int on, .int tw]))] [] (fun (r : Int32) (_ : Unit) => r = 1) (fun _ => [(mo, .inr (8, [.ref ms, .int sv, .ref mb, .int 0, .int th, .ref mk, .int 0, .ref mfd, .int (-1), .int sp, .int on, .int tw]))]) (fun _ => []) sz := by
  refine Met.ofW (cc := cX8_fails) (maxL := 4) (ret := (some .int)) (by decide) rfl ?_
  intro p e s m args below meth c s₁ B hml hv
  obtain ⟨rfl, hsz, hP, hK, hD0, hG⟩ := hv
  have hx := B.exec
  have hb := B.bytes
  have hr := B.returns
  have ht : ∀ v9 ∈ wsA, v9.before ([.ref mo, .int b, .int to] : List Value).toArray s = true := fun v9 h9 => atoms_spec (ws := k_ws yX8_fails cX8_fails 4 (some .int)) B.pre v9 (List.mem_cons_of_mem _ h9)
  have hown : s.vm.findClass RX8 = some m.cls := findClass_of_methodNamed B.named
  have S0 : k_C p s m ([.ref mo, .int b, .int to] : List Value).toArray c cX8_fails 4 RX8 := ⟨hx, hb, hml, hown, ht⟩
  have hlocks := B.notSynchronized
  subst hsz
  have hD := hD0.self (sz := s.heap.size)
  generalize hAe : va_A [(mo, .inr (8, [.ref ms, .int sv, .ref mb, .int 0, .int th, .ref mk, .int 0, .ref mfd, .int mf, .int sp, .int on, .int tw]))] s.heap.size = A at hD hG ⊢
  have hA : ∀ q : Nat, s.heap.size ≤ q → A q := fun q h => by rw [← hAe]; exact Or.inr h
  have hS : va_S A s.heap s.heap [] := va_S.rf
  have hl := lv_entry ([.ref mo, .int b, .int to]) (n := 4) (Nat.le_of_ble_eq_true rfl)
  rw [lg_entry_eq]
  generalize (lg_sl ([.ref mo, .int b, .int to]) ++ List.replicate (4 - (lg_sl ([.ref mo, .int b, .int to])).length) Slot.unset).toArray = ls at hl ⊢
  have hl : lv_has ls 4 [(0, .ref mo), (1, .int b), (2, .int to)] := hl
  have hP : va_P D vwCl [(mo, .inr (8, [.ref ms, .int sv, .ref mb, .int 0, .int th, .ref mk, .int 0, .ref mfd, .int mf, .int sp, .int on, .int tw]))] s.heap := hP
  refine lv_aload_n hx hb dX8_fails_0 rfl (lv_at hl 0 rfl) ?_
  refine lv_aload_n hx hb dX8_fails_1 rfl (lv_at hl 0 rfl) ?_
  refine va_get (D := D) (ci := 8) (v := .int 0) (C := RX8) (T := TX8) (N := 12) hx hb ht inA_X8 hown hK hP 0 rfl rfl 6 (by decide) (ht _ lf_X8_78) (fun _ h9 => h9) rfl dX8_fails_2 ?_
  refine lv_iconst (v := 5) hx hb dX8_fails_5 (by decide) ?_
  refine lv_isub hx hb dX8_fails_6 ?_
  refine k_nrm (y := (-5)) (by decide) ?_
  refine lv_iconst (v := 4) hx hb dX8_fails_7 (by decide) ?_
  refine lv_idiv hx hb dX8_fails_8 (by decide) ?_
  refine k_nrm (y := (-1)) (by decide) ?_
  refine va_put (D := D) (ci := 8) (v := .int (-1)) (ty := .int) (C := RX8) (T := TX8) (N := 12) hx hb ht inA_X8 tyX8 tyX8_ok nmX8 hown hK hP hD hS 0 rfl rfl 8 (by decide) (ht _ lf_X8_98) (fun _ h9 => h9) rfl (tyX8_ok 8 (by decide)) rfl rfl (Nat.le_of_ble_eq_true rfl) dX8_fails_9 (fun H locs hP hD hS => ?_)
  have hP : va_P D vwCl [(mo, .inr (8, [.ref ms, .int sv, .ref mb, .int 0, .int th, .ref mk, .int 0, .ref mfd, .int (-1), .int sp, .int on, .int tw]))] H := hP
  have hD : va_D A [(mo, .inr (8, [.ref ms, .int sv, .ref mb, .int 0, .int th, .ref mk, .int 0, .ref mfd, .int (-1), .int sp, .int on, .int tw]))] := hD
  refine lv_aload_n hx hb dX8_fails_12 rfl (lv_at hl 0 rfl) ?_
  refine va_get (D := D) (ci := 8) (v := .int 0) (C := RX8) (T := TX8) (N := 12) hx hb ht inA_X8 hown hK hP 0 rfl rfl 6 (by decide) (ht _ lf_X8_78) (fun _ h9 => h9) rfl dX8_fails_13 ?_
  refine lv_bipush (v := 13) hx hb dX8_fails_16 (by decide) ?_
  refine lv_bipush (v := 41) hx hb dX8_fails_18 (by decide) ?_
  have ct := k_cut_of (wc := []) (wr := [(mo, .inr (8, [.ref ms, .int sv, .ref mb, .int 0, .int th, .ref mk, .int 0, .ref mfd, .int (-1), .int sp, .int on, .int tw]))]) (tc := []) hG hS hA hK hP hD [] [0] [] rfl rfl (by decide) (by decide) (by decide) rfl
  refine k_endi (As := [.int 0, .int 13, .int 41]) ct (k_runS (As := [.int 0, .int 13, .int 41]) (rest := []) S0 Ls_X8_46 ct (c_M_in l D 0 13 41 H.size) hl.1 rfl (Nat.le_of_ble_eq_true rfl) rfl dX8_fails_20 ⟨⟨Nat.le_of_ble_eq_true rfl, Nat.le_of_ble_eq_true rfl⟩, Nat.le_of_ble_eq_true rfl, Nat.le_of_ble_eq_true rfl⟩) rfl rfl (fun r_1 _ H locs hw_2 hP hD hK hS => ?_)
  have hK : va_K D vwCl [] s := hK
  have hP : va_P D vwCl [(mo, .inr (8, [.ref ms, .int sv, .ref mb, .int 0, .int th, .ref mk, .int 0, .ref mfd, .int (-1), .int sp, .int on, .int tw]))] H := hP
  have hD : va_D A [(mo, .inr (8, [.ref ms, .int sv, .ref mb, .int 0, .int th, .ref mk, .int 0, .ref mfd, .int (-1), .int sp, .int on, .int tw]))] := hD
  rcases hw_2 with ⟨hr9, c_3, c_4⟩ | ⟨hr9, c_5⟩
  · subst hr9
    refine lv_if_eq (tgt := 36) hx hb dX8_fails_23 (by decide) (fun c9 => absurd c9 (by decide)) (fun _ => ?_)
    refine lv_aload_n hx hb dX8_fails_26 rfl (lv_at hl 0 rfl) ?_
    refine va_get (D := D) (ci := 8) (v := .int 0) (C := RX8) (T := TX8) (N := 12) hx hb ht inA_X8 hown hK hP 0 rfl rfl 6 (by decide) (ht _ lf_X8_78) (fun _ h9 => h9) rfl dX8_fails_27 ?_
    refine lv_iconst (v := 4) hx hb dX8_fails_30 (by decide) ?_
    refine lv_irem hx hb dX8_fails_31 (by decide) ?_
    refine k_nrm (y := 0) (by decide) ?_
    refine lv_iconst (v := 1) hx hb dX8_fails_32 (by decide) ?_
    refine lv_icmp_eq (tgt := 38) hx hb dX8_fails_33 (by decide) (fun c9 => absurd c9 (by decide)) (fun _ => ?_)
    refine lv_iconst (v := 1) hx hb dX8_fails_36 (by decide) ?_
    have hP9 : va_P D vwCl [(mo, .inr (8, [.ref ms, .int sv, .ref mb, .int 0, .int th, .ref mk, .int 0, .ref mfd, .int (-1), .int sp, .int on, .int tw]))] H := hP.sub [0] rfl
    have hD9 : va_D A [(mo, .inr (8, [.ref ms, .int sv, .ref mb, .int 0, .int th, .ref mk, .int 0, .ref mfd, .int (-1), .int sp, .int on, .int tw]))] := hD.sub [0] (by decide) rfl
    have hK9 : va_K D vwCl [] s := hK.sub [] rfl
    exact W.iret (v := 1) hx hb hr (fun t ht9 hW9 => ⟨⟨1, (), rfl, by first | rfl | trivial | assumption, ⟨by rw [ht9]; exact hP9, va_K.moved hW9.alike hK9, hD9⟩⟩, hS.F ht9⟩) hS.2.2 dX8_fails_37
  · subst hr9
    refine lv_if_eq (tgt := 36) hx hb dX8_fails_23 (by decide) (fun _ => ?_) (fun c9 => absurd (by decide) c9)
    refine lv_iconst (v := 1) hx hb dX8_fails_36 (by decide) ?_
    have hP9 : va_P D vwCl [(mo, .inr (8, [.ref ms, .int sv, .ref mb, .int 0, .int th, .ref mk, .int 0, .ref mfd, .int (-1), .int sp, .int on, .int tw]))] H := hP.sub [0] rfl
    have hD9 : va_D A [(mo, .inr (8, [.ref ms, .int sv, .ref mb, .int 0, .int th, .ref mk, .int 0, .ref mfd, .int (-1), .int sp, .int on, .int tw]))] := hD.sub [0] (by decide) rfl
    have hK9 : va_K D vwCl [] s := hK.sub [] rfl
    exact W.iret (v := 1) hx hb hr (fun t ht9 hW9 => ⟨⟨1, (), rfl, by first | rfl | trivial | assumption, ⟨by rw [ht9]; exact hP9, va_K.moved hW9.alike hK9, hD9⟩⟩, hS.F ht9⟩) hS.2.2 dX8_fails_37
set_option maxHeartbeats 4000000 in
set_option maxRecDepth 100000 in
theorem c_M_reads (l : Launch) (D : va_G) (mo : Nat) (ms : Nat) (sv : Int32) (mb : Nat) (th : Int32) (mk : Nat) (mfd : Nat) (mf : Int32) (sp : Int32) (on : Int32) (tw : Int32) (to : Int32) (sz : Nat) : k_Mi (S := Unit) l D yX8_reads cX8_reads 4 (some .int) 2 0 0 45 [.ref mo, .int to] [(mo, .inr (8, [.ref ms, .int sv, .ref mb, .int 0, .int th, .ref mk, .int 0, .ref mfd, .int mf, .int sp, .int on, .int tw]))] [] (fun (r : Int32) (_ : Unit) => r = 1) (fun _ => [(mo, .inr (8, [.ref ms, .int sv, .ref mb, .int 0, .int th, .ref mk, .int 0, .ref mfd, .int (-1), .int sp, .int on, .int tw]))]) (fun _ => []) sz := by
  refine Met.ofW (cc := cX8_reads) (maxL := 4) (ret := (some .int)) (by decide) rfl ?_
  intro p e s m args below meth c s₁ B hml hv
  obtain ⟨rfl, hsz, hP, hK, hD0, hG⟩ := hv
  have hx := B.exec
  have hb := B.bytes
  have hr := B.returns
  have ht : ∀ v9 ∈ wsA, v9.before ([.ref mo, .int to] : List Value).toArray s = true := fun v9 h9 => atoms_spec (ws := k_ws yX8_reads cX8_reads 4 (some .int)) B.pre v9 (List.mem_cons_of_mem _ h9)
  have hown : s.vm.findClass RX8 = some m.cls := findClass_of_methodNamed B.named
  have S0 : k_C p s m ([.ref mo, .int to] : List Value).toArray c cX8_reads 4 RX8 := ⟨hx, hb, hml, hown, ht⟩
  have hlocks := B.notSynchronized
  subst hsz
  have hD := hD0.self (sz := s.heap.size)
  generalize hAe : va_A [(mo, .inr (8, [.ref ms, .int sv, .ref mb, .int 0, .int th, .ref mk, .int 0, .ref mfd, .int mf, .int sp, .int on, .int tw]))] s.heap.size = A at hD hG ⊢
  have hA : ∀ q : Nat, s.heap.size ≤ q → A q := fun q h => by rw [← hAe]; exact Or.inr h
  have hS : va_S A s.heap s.heap [] := va_S.rf
  have hl := lv_entry ([.ref mo, .int to]) (n := 4) (Nat.le_of_ble_eq_true rfl)
  rw [lg_entry_eq]
  generalize (lg_sl ([.ref mo, .int to]) ++ List.replicate (4 - (lg_sl ([.ref mo, .int to])).length) Slot.unset).toArray = ls at hl ⊢
  have hl : lv_has ls 4 [(0, .ref mo), (1, .int to)] := hl
  have hP : va_P D vwCl [(mo, .inr (8, [.ref ms, .int sv, .ref mb, .int 0, .int th, .ref mk, .int 0, .ref mfd, .int mf, .int sp, .int on, .int tw]))] s.heap := hP
  refine lv_aload_n hx hb dX8_reads_0 rfl (lv_at hl 0 rfl) ?_
  refine lv_iconst (v := 0) hx hb dX8_reads_1 (by decide) ?_
  refine lv_iload_n hx hb dX8_reads_2 rfl (lv_at hl 1 rfl) ?_
  have ct := k_cut_of (wc := [(mo, .inr (8, [.ref ms, .int sv, .ref mb, .int 0, .int th, .ref mk, .int 0, .ref mfd, .int mf, .int sp, .int on, .int tw]))]) (wr := []) (tc := []) hG hS hA hK hP hD [0] [] [] rfl rfl (by decide) (by decide) (by decide) rfl
  refine k_endi (As := [.ref mo, .int 0, .int to]) ct (k_runV (As := [.int 0, .int to]) (rest := []) S0 Lv_X8_112 rfl (ci := 8) (q0 := 0) rfl rfl ct (c_M_fails l D mo ms sv mb th mk mfd mf sp on tw 0 to s.heap.size) hl.1 rfl (Nat.le_of_ble_eq_true rfl) rfl dX8_reads_3 ⟨⟨Nat.le_of_ble_eq_true rfl, Nat.le_of_ble_eq_true rfl⟩, Nat.le_of_ble_eq_true rfl, Nat.le_of_ble_eq_true rfl⟩) rfl rfl (fun r_1 _ H locs hw_2 hP hD hK hS => ?_)
  have hK : va_K D vwCl [] s := hK
  have hP : va_P D vwCl [(mo, .inr (8, [.ref ms, .int sv, .ref mb, .int 0, .int th, .ref mk, .int 0, .ref mfd, .int (-1), .int sp, .int on, .int tw]))] H := hP
  have hD : va_D A [(mo, .inr (8, [.ref ms, .int sv, .ref mb, .int 0, .int th, .ref mk, .int 0, .ref mfd, .int (-1), .int sp, .int on, .int tw]))] := hD
  have hw_2 : r_1 = 1 := hw_2
  have hw_2 := hw_2.symm
  subst hw_2
  refine k_nrm (y := 1) rfl ?_
  refine lv_istore_n (lv' := [(2, .int 1), (0, .ref mo), (1, .int to)]) hx hb dX8_reads_6 rfl hl (by decide) rfl (fun ls hl => ?_)
  refine lv_iload_n hx hb dX8_reads_7 rfl (lv_at hl 0 rfl) ?_
  refine lv_if_ne (tgt := 13) hx hb dX8_reads_8 (by decide) (fun _ => ?_) (fun c9 => absurd c9 (by decide))
  refine lv_aload_n hx hb dX8_reads_13 rfl (lv_at hl 1 rfl) ?_
  refine lv_iconst (v := 1) hx hb dX8_reads_14 (by decide) ?_
  refine lv_iload_n hx hb dX8_reads_15 rfl (lv_at hl 2 rfl) ?_
  have ct := k_cut_of (wc := [(mo, .inr (8, [.ref ms, .int sv, .ref mb, .int 0, .int th, .ref mk, .int 0, .ref mfd, .int (-1), .int sp, .int on, .int tw]))]) (wr := []) (tc := []) hG hS hA hK hP hD [0] [] [] rfl rfl (by decide) (by decide) (by decide) rfl
  refine k_endi (As := [.ref mo, .int 1, .int to]) ct (k_runV (As := [.int 1, .int to]) (rest := []) S0 Lv_X8_112 rfl (ci := 8) (q0 := 0) rfl rfl ct (c_M_fails l D mo ms sv mb th mk mfd (-1) sp on tw 1 to H.size) hl.1 rfl (Nat.le_of_ble_eq_true rfl) rfl dX8_reads_16 ⟨⟨Nat.le_of_ble_eq_true rfl, Nat.le_of_ble_eq_true rfl⟩, Nat.le_of_ble_eq_true rfl, Nat.le_of_ble_eq_true rfl⟩) rfl rfl (fun r_3 _ H locs hw_4 hP hD hK hS => ?_)
  have hK : va_K D vwCl [] s := hK
  have hP : va_P D vwCl [(mo, .inr (8, [.ref ms, .int sv, .ref mb, .int 0, .int th, .ref mk, .int 0, .ref mfd, .int (-1), .int sp, .int on, .int tw]))] H := hP
  have hD : va_D A [(mo, .inr (8, [.ref ms, .int sv, .ref mb, .int 0, .int th, .ref mk, .int 0, .ref mfd, .int (-1), .int sp, .int on, .int tw]))] := hD
  have hw_4 : r_3 = 1 := hw_4
  have hw_4 := hw_4.symm
  subst hw_4
  refine k_nrm (y := 1) rfl ?_
  refine lv_istore_n (lv' := [(3, .int 1), (2, .int 1), (0, .ref mo), (1, .int to)]) hx hb dX8_reads_19 rfl hl (by decide) rfl (fun ls hl => ?_)
  refine lv_iload_n hx hb dX8_reads_20 rfl (lv_at hl 0 rfl) ?_
  refine lv_if_ne (tgt := 28) hx hb dX8_reads_21 (by decide) (fun _ => ?_) (fun c9 => absurd c9 (by decide))
  refine lv_iload_n hx hb dX8_reads_28 rfl (lv_at hl 1 rfl) ?_
  refine lv_iload_n hx hb dX8_reads_29 rfl (lv_at hl 0 rfl) ?_
  refine lv_icmp_le (tgt := 37) hx hb dX8_reads_30 (by decide) (fun _ => ?_) (fun c9 => absurd (by decide) c9)
  refine lv_iload_n hx hb dX8_reads_37 rfl (lv_at hl 0 rfl) ?_
  have hP9 : va_P D vwCl [(mo, .inr (8, [.ref ms, .int sv, .ref mb, .int 0, .int th, .ref mk, .int 0, .ref mfd, .int (-1), .int sp, .int on, .int tw]))] H := hP.sub [0] rfl
  have hD9 : va_D A [(mo, .inr (8, [.ref ms, .int sv, .ref mb, .int 0, .int th, .ref mk, .int 0, .ref mfd, .int (-1), .int sp, .int on, .int tw]))] := hD.sub [0] (by decide) rfl
  have hK9 : va_K D vwCl [] s := hK.sub [] rfl
  exact W.iret (v := 1) hx hb hr (fun t ht9 hW9 => ⟨⟨1, (), rfl, by first | rfl | trivial | assumption, ⟨by rw [ht9]; exact hP9, va_K.moved hW9.alike hK9, hD9⟩⟩, hS.F ht9⟩) hS.2.2 dX8_reads_38
set_option maxHeartbeats 4000000 in
set_option maxRecDepth 100000 in
theorem c_M_result (l : Launch) (D : va_G) (mo : Nat) (ms : Nat) (sv : Int32) (mb : Nat) (th : Int32) (mk : Nat) (ml : Int32) (mfd : Nat) (mf : Int32) (sp : Int32) (on : Int32) (tw : Int32) (K : ClassId) (sf : Nat → Int32) (hs0 : sf 0 = 0) (hs51 : sf 51 = 0) (hs93 : sf 93 = 4) (hs94 : sf 94 = 0) (hs125 : sf 125 = 0) (hs126 : sf 126 = 0) (sz : Nat) : k_Mi (S := Unit) l D yX8_result cX8_result 1 (some .int) 3 0 0 68 [.ref mo] [(mo, .inr (8, [.ref ms, .int sv, .ref mb, .int 0, .int th, .ref mk, .int ml, .ref mfd, .int mf, .int sp, .int on, .int tw])), (ms, .inl (K, 889, .inl sf))] [(K, .int)] (fun (r : Int32) (_ : Unit) => r = 1) (fun _ => [(mo, .inr (8, [.ref ms, .int sv, .ref mb, .int 0, .int 0, .ref mk, .int 0, .ref mfd, .int (-1), .int sp, .int on, .int tw])), (ms, .inl (K, 889, .inl sf))]) (fun _ => []) sz := by
  refine Met.ofW (cc := cX8_result) (maxL := 1) (ret := (some .int)) (by decide) rfl ?_
  intro p e s m args below meth c s₁ B hml hv
  obtain ⟨rfl, hsz, hP, hK, hD0, hG⟩ := hv
  have hx := B.exec
  have hb := B.bytes
  have hr := B.returns
  have ht : ∀ v9 ∈ wsA, v9.before ([.ref mo] : List Value).toArray s = true := fun v9 h9 => atoms_spec (ws := k_ws yX8_result cX8_result 1 (some .int)) B.pre v9 (List.mem_cons_of_mem _ h9)
  have hown : s.vm.findClass RX8 = some m.cls := findClass_of_methodNamed B.named
  have S0 : k_C p s m ([.ref mo] : List Value).toArray c cX8_result 1 RX8 := ⟨hx, hb, hml, hown, ht⟩
  have hlocks := B.notSynchronized
  subst hsz
  have hD := hD0.self (sz := s.heap.size)
  generalize hAe : va_A [(mo, .inr (8, [.ref ms, .int sv, .ref mb, .int 0, .int th, .ref mk, .int ml, .ref mfd, .int mf, .int sp, .int on, .int tw])), (ms, .inl (K, 889, .inl sf))] s.heap.size = A at hD hG ⊢
  have hA : ∀ q : Nat, s.heap.size ≤ q → A q := fun q h => by rw [← hAe]; exact Or.inr h
  have hS : va_S A s.heap s.heap [] := va_S.rf
  have hl := lv_entry ([.ref mo]) (n := 1) (Nat.le_of_ble_eq_true rfl)
  rw [lg_entry_eq]
  generalize (lg_sl ([.ref mo]) ++ List.replicate (1 - (lg_sl ([.ref mo])).length) Slot.unset).toArray = ls at hl ⊢
  have hl : lv_has ls 1 [(0, .ref mo)] := hl
  have hP : va_P D vwCl [(mo, .inr (8, [.ref ms, .int sv, .ref mb, .int 0, .int th, .ref mk, .int ml, .ref mfd, .int mf, .int sp, .int on, .int tw])), (ms, .inl (K, 889, .inl sf))] s.heap := hP
  refine lv_aload_n hx hb dX8_result_0 rfl (lv_at hl 0 rfl) ?_
  refine lv_iconst (v := 0) hx hb dX8_result_1 (by decide) ?_
  refine va_put (D := D) (ci := 8) (v := .int 0) (ty := .int) (C := RX8) (T := TX8) (N := 12) hx hb ht inA_X8 tyX8 tyX8_ok nmX8 hown hK hP hD hS 0 rfl rfl 4 (by decide) (ht _ lf_X8_23) (fun _ h9 => h9) rfl (tyX8_ok 4 (by decide)) rfl rfl (Nat.le_of_ble_eq_true rfl) dX8_result_2 (fun H locs hP hD hS => ?_)
  have hP : va_P D vwCl [(mo, .inr (8, [.ref ms, .int sv, .ref mb, .int 0, .int 0, .ref mk, .int ml, .ref mfd, .int mf, .int sp, .int on, .int tw])), (ms, .inl (K, 889, .inl sf))] H := hP
  have hD : va_D A [(mo, .inr (8, [.ref ms, .int sv, .ref mb, .int 0, .int 0, .ref mk, .int ml, .ref mfd, .int mf, .int sp, .int on, .int tw])), (ms, .inl (K, 889, .inl sf))] := hD
  refine lv_aload_n hx hb dX8_result_5 rfl (lv_at hl 0 rfl) ?_
  have ct := k_cut_of (wc := [(mo, .inr (8, [.ref ms, .int sv, .ref mb, .int 0, .int 0, .ref mk, .int ml, .ref mfd, .int mf, .int sp, .int on, .int tw])), (ms, .inl (K, 889, .inl sf))]) (wr := []) (tc := [(K, .int)]) hG hS hA hK hP hD [0, 1] [] [0] rfl rfl (by decide) (by decide) (by decide) rfl
  refine k_endv (As := [.ref mo]) ct (k_runV (As := []) (rest := []) S0 Lv_X8_119 rfl (ci := 8) (q0 := 0) rfl rfl ct (c_M_looks l D mo ms sv mb 0 mk ml mfd mf sp on tw K sf (by first | assumption | exact (cpf_lo (by decide)).trans (by assumption)) (by first | assumption | exact (cpf_lo (by decide)).trans (by assumption)) (by first | assumption | exact (cpf_lo (by decide)).trans (by assumption)) (by first | assumption | exact (cpf_lo (by decide)).trans (by assumption)) (by first | assumption | exact (cpf_lo (by decide)).trans (by assumption)) (by first | assumption | exact (cpf_lo (by decide)).trans (by assumption)) H.size) hl.1 rfl (Nat.le_of_ble_eq_true rfl) rfl dX8_result_6 ⟨⟨Nat.le_of_ble_eq_true rfl, Nat.le_of_ble_eq_true rfl⟩, Nat.le_of_ble_eq_true rfl, Nat.le_of_ble_eq_true rfl⟩) rfl rfl (fun _ _ H locs hw_2 hP hD hK hS => ?_)
  have hK : va_K D vwCl [(K, .int)] s := hK
  have hP : va_P D vwCl [(mo, .inr (8, [.ref ms, .int sv, .ref mb, .int 0, .int 0, .ref mk, .int 0, .ref mfd, .int mf, .int sp, .int on, .int tw])), (ms, .inl (K, 889, .inl sf))] H := hP
  have hD : va_D A [(mo, .inr (8, [.ref ms, .int sv, .ref mb, .int 0, .int 0, .ref mk, .int 0, .ref mfd, .int mf, .int sp, .int on, .int tw])), (ms, .inl (K, 889, .inl sf))] := hD
  refine lv_aload_n hx hb dX8_result_9 rfl (lv_at hl 0 rfl) ?_
  refine lv_aload_n hx hb dX8_result_10 rfl (lv_at hl 0 rfl) ?_
  refine va_get (D := D) (ci := 8) (v := .ref ms) (C := RX8) (T := TX8) (N := 12) hx hb ht inA_X8 hown hK hP 0 rfl rfl 0 (by decide) (ht _ lf_X8_7) (fun _ h9 => h9) rfl dX8_result_11 ?_
  refine lv_bipush (v := 93) hx hb dX8_result_14 (by decide) ?_
  refine va_iald hx hb hK hP 1 0 rfl rfl (by unfold vp_in; decide) dX8_result_16 ?_
  refine k_nrm (y := 4) (show sf (93 : Int32).toNatClampNeg = 4 from hs93) ?_
  have ct := k_cut_of (wc := [(mo, .inr (8, [.ref ms, .int sv, .ref mb, .int 0, .int 0, .ref mk, .int 0, .ref mfd, .int mf, .int sp, .int on, .int tw]))]) (wr := [(ms, .inl (K, 889, .inl sf))]) (tc := []) hG hS hA hK hP hD [0] [1] [] rfl rfl (by decide) (by decide) (by decide) rfl
  refine k_endi (As := [.ref mo, .int 4]) ct (k_runV (As := [.int 4]) (rest := []) S0 Lv_X8_122 rfl (ci := 8) (q0 := 0) rfl rfl ct (c_M_reads l D mo ms sv mb 0 mk mfd mf sp on tw 4 H.size) hl.1 rfl (Nat.le_of_ble_eq_true rfl) rfl dX8_result_17 ⟨⟨Nat.le_of_ble_eq_true rfl, Nat.le_of_ble_eq_true rfl⟩, Nat.le_of_ble_eq_true rfl, Nat.le_of_ble_eq_true rfl⟩) rfl rfl (fun r_3 _ H locs hw_4 hP hD hK hS => ?_)
  have hK : va_K D vwCl [(K, .int)] s := hK
  have hP : va_P D vwCl [(ms, .inl (K, 889, .inl sf)), (mo, .inr (8, [.ref ms, .int sv, .ref mb, .int 0, .int 0, .ref mk, .int 0, .ref mfd, .int (-1), .int sp, .int on, .int tw]))] H := hP
  have hD : va_D A [(ms, .inl (K, 889, .inl sf)), (mo, .inr (8, [.ref ms, .int sv, .ref mb, .int 0, .int 0, .ref mk, .int 0, .ref mfd, .int (-1), .int sp, .int on, .int tw]))] := hD
  have hw_4 : r_3 = 1 := hw_4
  have hw_4 := hw_4.symm
  subst hw_4
  refine k_nrm (y := 1) rfl ?_
  have hP9 : va_P D vwCl [(mo, .inr (8, [.ref ms, .int sv, .ref mb, .int 0, .int 0, .ref mk, .int 0, .ref mfd, .int (-1), .int sp, .int on, .int tw])), (ms, .inl (K, 889, .inl sf))] H := hP.sub [1, 0] rfl
  have hD9 : va_D A [(mo, .inr (8, [.ref ms, .int sv, .ref mb, .int 0, .int 0, .ref mk, .int 0, .ref mfd, .int (-1), .int sp, .int on, .int tw])), (ms, .inl (K, 889, .inl sf))] := hD.sub [1, 0] (by decide) rfl
  have hK9 : va_K D vwCl [] s := hK.sub [] rfl
  exact W.iret (v := 1) hx hb hr (fun t ht9 hW9 => ⟨⟨1, (), rfl, by first | rfl | trivial | assumption, ⟨by rw [ht9]; exact hP9, va_K.moved hW9.alike hK9, hD9⟩⟩, hS.F ht9⟩) hS.2.2 dX8_result_20
set_option maxHeartbeats 4000000 in
set_option maxRecDepth 100000 in
theorem c_M_reason (l : Launch) (D : va_G) (mo : Nat) (ms : Nat) (sv : Int32) (mb : Nat) (th : Int32) (mk : Nat) (ml : Int32) (mfd : Nat) (mf : Int32) (sp : Int32) (on : Int32) (tw : Int32) (K : ClassId) (sf : Nat → Int32) (b : Int32) (hs0 : sf 0 = 0) (hs51 : sf 51 = 0) (hs93 : sf 93 = 4) (hs94 : sf 94 = 0) (hs125 : sf 125 = 0) (hs126 : sf 126 = 0) (sz : Nat) : k_Mi (S := Unit) l D yX8_reason cX8_reason 2 (some .int) 2 0 0 45 [.ref mo, .int b] [(mo, .inr (8, [.ref ms, .int sv, .ref mb, .int 0, .int th, .ref mk, .int ml, .ref mfd, .int mf, .int sp, .int on, .int tw])), (ms, .inl (K, 889, .inl sf))] [(K, .int)] (fun (r : Int32) (_ : Unit) => r = 1) (fun _ => [(mo, .inr (8, [.ref ms, .int sv, .ref mb, .int 0, .int 0, .ref mk, .int 0, .ref mfd, .int (-1), .int sp, .int on, .int tw])), (ms, .inl (K, 889, .inl sf))]) (fun _ => []) sz := by
  refine Met.ofW (cc := cX8_reason) (maxL := 2) (ret := (some .int)) (by decide) rfl ?_
  intro p e s m args below meth c s₁ B hml hv
  obtain ⟨rfl, hsz, hP, hK, hD0, hG⟩ := hv
  have hx := B.exec
  have hb := B.bytes
  have hr := B.returns
  have ht : ∀ v9 ∈ wsA, v9.before ([.ref mo, .int b] : List Value).toArray s = true := fun v9 h9 => atoms_spec (ws := k_ws yX8_reason cX8_reason 2 (some .int)) B.pre v9 (List.mem_cons_of_mem _ h9)
  have hown : s.vm.findClass RX8 = some m.cls := findClass_of_methodNamed B.named
  have S0 : k_C p s m ([.ref mo, .int b] : List Value).toArray c cX8_reason 2 RX8 := ⟨hx, hb, hml, hown, ht⟩
  have hlocks := B.notSynchronized
  subst hsz
  have hD := hD0.self (sz := s.heap.size)
  generalize hAe : va_A [(mo, .inr (8, [.ref ms, .int sv, .ref mb, .int 0, .int th, .ref mk, .int ml, .ref mfd, .int mf, .int sp, .int on, .int tw])), (ms, .inl (K, 889, .inl sf))] s.heap.size = A at hD hG ⊢
  have hA : ∀ q : Nat, s.heap.size ≤ q → A q := fun q h => by rw [← hAe]; exact Or.inr h
  have hS : va_S A s.heap s.heap [] := va_S.rf
  have hl := lv_entry ([.ref mo, .int b]) (n := 2) (Nat.le_of_ble_eq_true rfl)
  rw [lg_entry_eq]
  generalize (lg_sl ([.ref mo, .int b]) ++ List.replicate (2 - (lg_sl ([.ref mo, .int b])).length) Slot.unset).toArray = ls at hl ⊢
  have hl : lv_has ls 2 [(0, .ref mo), (1, .int b)] := hl
  have hP : va_P D vwCl [(mo, .inr (8, [.ref ms, .int sv, .ref mb, .int 0, .int th, .ref mk, .int ml, .ref mfd, .int mf, .int sp, .int on, .int tw])), (ms, .inl (K, 889, .inl sf))] s.heap := hP
  refine lv_aload_n hx hb dX8_reason_0 rfl (lv_at hl 0 rfl) ?_
  refine lv_iconst (v := 0) hx hb dX8_reason_1 (by decide) ?_
  refine va_put (D := D) (ci := 8) (v := .int 0) (ty := .int) (C := RX8) (T := TX8) (N := 12) hx hb ht inA_X8 tyX8 tyX8_ok nmX8 hown hK hP hD hS 0 rfl rfl 4 (by decide) (ht _ lf_X8_23) (fun _ h9 => h9) rfl (tyX8_ok 4 (by decide)) rfl rfl (Nat.le_of_ble_eq_true rfl) dX8_reason_2 (fun H locs hP hD hS => ?_)
  have hP : va_P D vwCl [(mo, .inr (8, [.ref ms, .int sv, .ref mb, .int 0, .int 0, .ref mk, .int ml, .ref mfd, .int mf, .int sp, .int on, .int tw])), (ms, .inl (K, 889, .inl sf))] H := hP
  have hD : va_D A [(mo, .inr (8, [.ref ms, .int sv, .ref mb, .int 0, .int 0, .ref mk, .int ml, .ref mfd, .int mf, .int sp, .int on, .int tw])), (ms, .inl (K, 889, .inl sf))] := hD
  refine lv_aload_n hx hb dX8_reason_5 rfl (lv_at hl 0 rfl) ?_
  have ct := k_cut_of (wc := [(mo, .inr (8, [.ref ms, .int sv, .ref mb, .int 0, .int 0, .ref mk, .int ml, .ref mfd, .int mf, .int sp, .int on, .int tw])), (ms, .inl (K, 889, .inl sf))]) (wr := []) (tc := [(K, .int)]) hG hS hA hK hP hD [0, 1] [] [0] rfl rfl (by decide) (by decide) (by decide) rfl
  refine k_endv (As := [.ref mo]) ct (k_runV (As := []) (rest := []) S0 Lv_X8_119 rfl (ci := 8) (q0 := 0) rfl rfl ct (c_M_looks l D mo ms sv mb 0 mk ml mfd mf sp on tw K sf (by first | assumption | exact (cpf_lo (by decide)).trans (by assumption)) (by first | assumption | exact (cpf_lo (by decide)).trans (by assumption)) (by first | assumption | exact (cpf_lo (by decide)).trans (by assumption)) (by first | assumption | exact (cpf_lo (by decide)).trans (by assumption)) (by first | assumption | exact (cpf_lo (by decide)).trans (by assumption)) (by first | assumption | exact (cpf_lo (by decide)).trans (by assumption)) H.size) hl.1 rfl (Nat.le_of_ble_eq_true rfl) rfl dX8_reason_6 ⟨⟨Nat.le_of_ble_eq_true rfl, Nat.le_of_ble_eq_true rfl⟩, Nat.le_of_ble_eq_true rfl, Nat.le_of_ble_eq_true rfl⟩) rfl rfl (fun _ _ H locs hw_2 hP hD hK hS => ?_)
  have hK : va_K D vwCl [(K, .int)] s := hK
  have hP : va_P D vwCl [(mo, .inr (8, [.ref ms, .int sv, .ref mb, .int 0, .int 0, .ref mk, .int 0, .ref mfd, .int mf, .int sp, .int on, .int tw])), (ms, .inl (K, 889, .inl sf))] H := hP
  have hD : va_D A [(mo, .inr (8, [.ref ms, .int sv, .ref mb, .int 0, .int 0, .ref mk, .int 0, .ref mfd, .int mf, .int sp, .int on, .int tw])), (ms, .inl (K, 889, .inl sf))] := hD
  refine lv_aload_n hx hb dX8_reason_9 rfl (lv_at hl 0 rfl) ?_
  refine lv_iload_n hx hb dX8_reason_10 rfl (lv_at hl 1 rfl) ?_
  refine lv_aload_n hx hb dX8_reason_11 rfl (lv_at hl 0 rfl) ?_
  refine va_get (D := D) (ci := 8) (v := .ref ms) (C := RX8) (T := TX8) (N := 12) hx hb ht inA_X8 hown hK hP 0 rfl rfl 0 (by decide) (ht _ lf_X8_7) (fun _ h9 => h9) rfl dX8_reason_12 ?_
  refine lv_bipush (v := 93) hx hb dX8_reason_15 (by decide) ?_
  refine va_iald hx hb hK hP 1 0 rfl rfl (by unfold vp_in; decide) dX8_reason_17 ?_
  refine k_nrm (y := 4) (show sf (93 : Int32).toNatClampNeg = 4 from hs93) ?_
  have ct := k_cut_of (wc := [(mo, .inr (8, [.ref ms, .int sv, .ref mb, .int 0, .int 0, .ref mk, .int 0, .ref mfd, .int mf, .int sp, .int on, .int tw]))]) (wr := [(ms, .inl (K, 889, .inl sf))]) (tc := []) hG hS hA hK hP hD [0] [1] [] rfl rfl (by decide) (by decide) (by decide) rfl
  refine k_endi (As := [.ref mo, .int b, .int 4]) ct (k_runV (As := [.int b, .int 4]) (rest := []) S0 Lv_X8_112 rfl (ci := 8) (q0 := 0) rfl rfl ct (c_M_fails l D mo ms sv mb 0 mk mfd mf sp on tw b 4 H.size) hl.1 rfl (Nat.le_of_ble_eq_true rfl) rfl dX8_reason_18 ⟨⟨Nat.le_of_ble_eq_true rfl, Nat.le_of_ble_eq_true rfl⟩, Nat.le_of_ble_eq_true rfl, Nat.le_of_ble_eq_true rfl⟩) rfl rfl (fun r_3 _ H locs hw_4 hP hD hK hS => ?_)
  have hK : va_K D vwCl [(K, .int)] s := hK
  have hP : va_P D vwCl [(ms, .inl (K, 889, .inl sf)), (mo, .inr (8, [.ref ms, .int sv, .ref mb, .int 0, .int 0, .ref mk, .int 0, .ref mfd, .int (-1), .int sp, .int on, .int tw]))] H := hP
  have hD : va_D A [(ms, .inl (K, 889, .inl sf)), (mo, .inr (8, [.ref ms, .int sv, .ref mb, .int 0, .int 0, .ref mk, .int 0, .ref mfd, .int (-1), .int sp, .int on, .int tw]))] := hD
  have hw_4 : r_3 = 1 := hw_4
  have hw_4 := hw_4.symm
  subst hw_4
  refine k_nrm (y := 1) rfl ?_
  have hP9 : va_P D vwCl [(mo, .inr (8, [.ref ms, .int sv, .ref mb, .int 0, .int 0, .ref mk, .int 0, .ref mfd, .int (-1), .int sp, .int on, .int tw])), (ms, .inl (K, 889, .inl sf))] H := hP.sub [1, 0] rfl
  have hD9 : va_D A [(mo, .inr (8, [.ref ms, .int sv, .ref mb, .int 0, .int 0, .ref mk, .int 0, .ref mfd, .int (-1), .int sp, .int on, .int tw])), (ms, .inl (K, 889, .inl sf))] := hD.sub [1, 0] (by decide) rfl
  have hK9 : va_K D vwCl [] s := hK.sub [] rfl
  exact W.iret (v := 1) hx hb hr (fun t ht9 hW9 => ⟨⟨1, (), rfl, by first | rfl | trivial | assumption, ⟨by rw [ht9]; exact hP9, va_K.moved hW9.alike hK9, hD9⟩⟩, hS.F ht9⟩) hS.2.2 dX8_reason_21
set_option maxHeartbeats 4000000 in
set_option maxRecDepth 100000 in
theorem c_M_least (l : Launch) (D : va_G) (mo : Nat) (ms : Nat) (sv : Int32) (mb : Nat) (th : Int32) (mk : Nat) (ml : Int32) (mfd : Nat) (mf : Int32) (sp : Int32) (on : Int32) (tw : Int32) (K : ClassId) (sf : Nat → Int32) (hs0 : sf 0 = 0) (hs51 : sf 51 = 0) (hs93 : sf 93 = 4) (hs94 : sf 94 = 0) (hs125 : sf 125 = 0) (hs126 : sf 126 = 0) (sz : Nat) : k_Mi (S := Unit) l D yX8_leastTolerance cX8_leastTolerance 2 (some .int) 3 0 0 68 [.ref mo] [(mo, .inr (8, [.ref ms, .int sv, .ref mb, .int 0, .int th, .ref mk, .int ml, .ref mfd, .int mf, .int sp, .int on, .int tw])), (ms, .inl (K, 889, .inl sf))] [(K, .int)] (fun (r : Int32) (_ : Unit) => r = (-1)) (fun _ => [(mo, .inr (8, [.ref ms, .int sv, .ref mb, .int 0, .int 0, .ref mk, .int 0, .ref mfd, .int (-1), .int sp, .int on, .int tw])), (ms, .inl (K, 889, .inl sf))]) (fun _ => []) sz := by
  refine Met.ofW (cc := cX8_leastTolerance) (maxL := 2) (ret := (some .int)) (by decide) rfl ?_
  intro p e s m args below meth c s₁ B hml hv
  obtain ⟨rfl, hsz, hP, hK, hD0, hG⟩ := hv
  have hx := B.exec
  have hb := B.bytes
  have hr := B.returns
  have ht : ∀ v9 ∈ wsA, v9.before ([.ref mo] : List Value).toArray s = true := fun v9 h9 => atoms_spec (ws := k_ws yX8_leastTolerance cX8_leastTolerance 2 (some .int)) B.pre v9 (List.mem_cons_of_mem _ h9)
  have hown : s.vm.findClass RX8 = some m.cls := findClass_of_methodNamed B.named
  have S0 : k_C p s m ([.ref mo] : List Value).toArray c cX8_leastTolerance 2 RX8 := ⟨hx, hb, hml, hown, ht⟩
  have hlocks := B.notSynchronized
  subst hsz
  have hD := hD0.self (sz := s.heap.size)
  generalize hAe : va_A [(mo, .inr (8, [.ref ms, .int sv, .ref mb, .int 0, .int th, .ref mk, .int ml, .ref mfd, .int mf, .int sp, .int on, .int tw])), (ms, .inl (K, 889, .inl sf))] s.heap.size = A at hD hG ⊢
  have hA : ∀ q : Nat, s.heap.size ≤ q → A q := fun q h => by rw [← hAe]; exact Or.inr h
  have hS : va_S A s.heap s.heap [] := va_S.rf
  have hl := lv_entry ([.ref mo]) (n := 2) (Nat.le_of_ble_eq_true rfl)
  rw [lg_entry_eq]
  generalize (lg_sl ([.ref mo]) ++ List.replicate (2 - (lg_sl ([.ref mo])).length) Slot.unset).toArray = ls at hl ⊢
  have hl : lv_has ls 2 [(0, .ref mo)] := hl
  have hP : va_P D vwCl [(mo, .inr (8, [.ref ms, .int sv, .ref mb, .int 0, .int th, .ref mk, .int ml, .ref mfd, .int mf, .int sp, .int on, .int tw])), (ms, .inl (K, 889, .inl sf))] s.heap := hP
  refine lv_aload_n hx hb dX8_leastTolerance_0 rfl (lv_at hl 0 rfl) ?_
  refine lv_iconst (v := 0) hx hb dX8_leastTolerance_1 (by decide) ?_
  refine va_put (D := D) (ci := 8) (v := .int 0) (ty := .int) (C := RX8) (T := TX8) (N := 12) hx hb ht inA_X8 tyX8 tyX8_ok nmX8 hown hK hP hD hS 0 rfl rfl 4 (by decide) (ht _ lf_X8_23) (fun _ h9 => h9) rfl (tyX8_ok 4 (by decide)) rfl rfl (Nat.le_of_ble_eq_true rfl) dX8_leastTolerance_2 (fun H locs hP hD hS => ?_)
  have hP : va_P D vwCl [(mo, .inr (8, [.ref ms, .int sv, .ref mb, .int 0, .int 0, .ref mk, .int ml, .ref mfd, .int mf, .int sp, .int on, .int tw])), (ms, .inl (K, 889, .inl sf))] H := hP
  have hD : va_D A [(mo, .inr (8, [.ref ms, .int sv, .ref mb, .int 0, .int 0, .ref mk, .int ml, .ref mfd, .int mf, .int sp, .int on, .int tw])), (ms, .inl (K, 889, .inl sf))] := hD
  refine lv_aload_n hx hb dX8_leastTolerance_5 rfl (lv_at hl 0 rfl) ?_
  have ct := k_cut_of (wc := [(mo, .inr (8, [.ref ms, .int sv, .ref mb, .int 0, .int 0, .ref mk, .int ml, .ref mfd, .int mf, .int sp, .int on, .int tw])), (ms, .inl (K, 889, .inl sf))]) (wr := []) (tc := [(K, .int)]) hG hS hA hK hP hD [0, 1] [] [0] rfl rfl (by decide) (by decide) (by decide) rfl
  refine k_endv (As := [.ref mo]) ct (k_runV (As := []) (rest := []) S0 Lv_X8_119 rfl (ci := 8) (q0 := 0) rfl rfl ct (c_M_looks l D mo ms sv mb 0 mk ml mfd mf sp on tw K sf (by first | assumption | exact (cpf_lo (by decide)).trans (by assumption)) (by first | assumption | exact (cpf_lo (by decide)).trans (by assumption)) (by first | assumption | exact (cpf_lo (by decide)).trans (by assumption)) (by first | assumption | exact (cpf_lo (by decide)).trans (by assumption)) (by first | assumption | exact (cpf_lo (by decide)).trans (by assumption)) (by first | assumption | exact (cpf_lo (by decide)).trans (by assumption)) H.size) hl.1 rfl (Nat.le_of_ble_eq_true rfl) rfl dX8_leastTolerance_6 ⟨⟨Nat.le_of_ble_eq_true rfl, Nat.le_of_ble_eq_true rfl⟩, Nat.le_of_ble_eq_true rfl, Nat.le_of_ble_eq_true rfl⟩) rfl rfl (fun _ _ H locs hw_2 hP hD hK hS => ?_)
  have hK : va_K D vwCl [(K, .int)] s := hK
  have hP : va_P D vwCl [(mo, .inr (8, [.ref ms, .int sv, .ref mb, .int 0, .int 0, .ref mk, .int 0, .ref mfd, .int mf, .int sp, .int on, .int tw])), (ms, .inl (K, 889, .inl sf))] H := hP
  have hD : va_D A [(mo, .inr (8, [.ref ms, .int sv, .ref mb, .int 0, .int 0, .ref mk, .int 0, .ref mfd, .int mf, .int sp, .int on, .int tw])), (ms, .inl (K, 889, .inl sf))] := hD
  refine lv_iconst (v := 1) hx hb dX8_leastTolerance_9 (by decide) ?_
  refine lv_istore_n (lv' := [(1, .int 1), (0, .ref mo)]) hx hb dX8_leastTolerance_10 rfl hl (by decide) rfl (fun ls hl => ?_)
  refine lv_iload_n hx hb dX8_leastTolerance_11 rfl (lv_at hl 0 rfl) ?_
  refine lv_bipush (v := 8) hx hb dX8_leastTolerance_12 (by decide) ?_
  refine lv_icmp_gt (tgt := 33) hx hb dX8_leastTolerance_14 (by decide) (fun c9 => absurd c9 (by decide)) (fun _ => ?_)
  refine lv_aload_n hx hb dX8_leastTolerance_17 rfl (lv_at hl 1 rfl) ?_
  refine lv_iload_n hx hb dX8_leastTolerance_18 rfl (lv_at hl 0 rfl) ?_
  have ct := k_cut_of (wc := [(mo, .inr (8, [.ref ms, .int sv, .ref mb, .int 0, .int 0, .ref mk, .int 0, .ref mfd, .int mf, .int sp, .int on, .int tw]))]) (wr := [(ms, .inl (K, 889, .inl sf))]) (tc := []) hG hS hA hK hP hD [0] [1] [] rfl rfl (by decide) (by decide) (by decide) rfl
  refine k_endi (As := [.ref mo, .int 1]) ct (k_runV (As := [.int 1]) (rest := []) S0 Lv_X8_122 rfl (ci := 8) (q0 := 0) rfl rfl ct (c_M_reads l D mo ms sv mb 0 mk mfd mf sp on tw 1 H.size) hl.1 rfl (Nat.le_of_ble_eq_true rfl) rfl dX8_leastTolerance_19 ⟨⟨Nat.le_of_ble_eq_true rfl, Nat.le_of_ble_eq_true rfl⟩, Nat.le_of_ble_eq_true rfl, Nat.le_of_ble_eq_true rfl⟩) rfl rfl (fun r_3 _ H locs hw_4 hP hD hK hS => ?_)
  have hK : va_K D vwCl [(K, .int)] s := hK
  have hP : va_P D vwCl [(ms, .inl (K, 889, .inl sf)), (mo, .inr (8, [.ref ms, .int sv, .ref mb, .int 0, .int 0, .ref mk, .int 0, .ref mfd, .int (-1), .int sp, .int on, .int tw]))] H := hP
  have hD : va_D A [(ms, .inl (K, 889, .inl sf)), (mo, .inr (8, [.ref ms, .int sv, .ref mb, .int 0, .int 0, .ref mk, .int 0, .ref mfd, .int (-1), .int sp, .int on, .int tw]))] := hD
  have hw_4 : r_3 = 1 := hw_4
  have hw_4 := hw_4.symm
  subst hw_4
  refine k_nrm (y := 1) rfl ?_
  refine lv_if_gt (tgt := 27) hx hb dX8_leastTolerance_22 (by decide) (fun _ => ?_) (fun c9 => absurd (by decide) c9)
  refine lv_iinc (v := 2) (lv' := [(1, .int 2), (0, .ref mo)]) hx hb dX8_leastTolerance_27 hl (k := 0) rfl (by decide) (by decide) rfl (fun ls hl => ?_)
  refine lv_goto (tgt := 11) hx hb dX8_leastTolerance_30 (by decide) ?_
  refine lv_iload_n hx hb dX8_leastTolerance_11 rfl (lv_at hl 0 rfl) ?_
  refine lv_bipush (v := 8) hx hb dX8_leastTolerance_12 (by decide) ?_
  refine lv_icmp_gt (tgt := 33) hx hb dX8_leastTolerance_14 (by decide) (fun c9 => absurd c9 (by decide)) (fun _ => ?_)
  refine lv_aload_n hx hb dX8_leastTolerance_17 rfl (lv_at hl 1 rfl) ?_
  refine lv_iload_n hx hb dX8_leastTolerance_18 rfl (lv_at hl 0 rfl) ?_
  have ct := k_cut_of (wc := [(mo, .inr (8, [.ref ms, .int sv, .ref mb, .int 0, .int 0, .ref mk, .int 0, .ref mfd, .int (-1), .int sp, .int on, .int tw]))]) (wr := [(ms, .inl (K, 889, .inl sf))]) (tc := []) hG hS hA hK hP hD [1] [0] [] rfl rfl (by decide) (by decide) (by decide) rfl
  refine k_endi (As := [.ref mo, .int 2]) ct (k_runV (As := [.int 2]) (rest := []) S0 Lv_X8_122 rfl (ci := 8) (q0 := 0) rfl rfl ct (c_M_reads l D mo ms sv mb 0 mk mfd (-1) sp on tw 2 H.size) hl.1 rfl (Nat.le_of_ble_eq_true rfl) rfl dX8_leastTolerance_19 ⟨⟨Nat.le_of_ble_eq_true rfl, Nat.le_of_ble_eq_true rfl⟩, Nat.le_of_ble_eq_true rfl, Nat.le_of_ble_eq_true rfl⟩) rfl rfl (fun r_5 _ H locs hw_6 hP hD hK hS => ?_)
  have hK : va_K D vwCl [(K, .int)] s := hK
  have hP : va_P D vwCl [(ms, .inl (K, 889, .inl sf)), (mo, .inr (8, [.ref ms, .int sv, .ref mb, .int 0, .int 0, .ref mk, .int 0, .ref mfd, .int (-1), .int sp, .int on, .int tw]))] H := hP
  have hD : va_D A [(ms, .inl (K, 889, .inl sf)), (mo, .inr (8, [.ref ms, .int sv, .ref mb, .int 0, .int 0, .ref mk, .int 0, .ref mfd, .int (-1), .int sp, .int on, .int tw]))] := hD
  have hw_6 : r_5 = 1 := hw_6
  have hw_6 := hw_6.symm
  subst hw_6
  refine k_nrm (y := 1) rfl ?_
  refine lv_if_gt (tgt := 27) hx hb dX8_leastTolerance_22 (by decide) (fun _ => ?_) (fun c9 => absurd (by decide) c9)
  refine lv_iinc (v := 3) (lv' := [(1, .int 3), (0, .ref mo)]) hx hb dX8_leastTolerance_27 hl (k := 0) rfl (by decide) (by decide) rfl (fun ls hl => ?_)
  refine lv_goto (tgt := 11) hx hb dX8_leastTolerance_30 (by decide) ?_
  refine lv_iload_n hx hb dX8_leastTolerance_11 rfl (lv_at hl 0 rfl) ?_
  refine lv_bipush (v := 8) hx hb dX8_leastTolerance_12 (by decide) ?_
  refine lv_icmp_gt (tgt := 33) hx hb dX8_leastTolerance_14 (by decide) (fun c9 => absurd c9 (by decide)) (fun _ => ?_)
  refine lv_aload_n hx hb dX8_leastTolerance_17 rfl (lv_at hl 1 rfl) ?_
  refine lv_iload_n hx hb dX8_leastTolerance_18 rfl (lv_at hl 0 rfl) ?_
  have ct := k_cut_of (wc := [(mo, .inr (8, [.ref ms, .int sv, .ref mb, .int 0, .int 0, .ref mk, .int 0, .ref mfd, .int (-1), .int sp, .int on, .int tw]))]) (wr := [(ms, .inl (K, 889, .inl sf))]) (tc := []) hG hS hA hK hP hD [1] [0] [] rfl rfl (by decide) (by decide) (by decide) rfl
  refine k_endi (As := [.ref mo, .int 3]) ct (k_runV (As := [.int 3]) (rest := []) S0 Lv_X8_122 rfl (ci := 8) (q0 := 0) rfl rfl ct (c_M_reads l D mo ms sv mb 0 mk mfd (-1) sp on tw 3 H.size) hl.1 rfl (Nat.le_of_ble_eq_true rfl) rfl dX8_leastTolerance_19 ⟨⟨Nat.le_of_ble_eq_true rfl, Nat.le_of_ble_eq_true rfl⟩, Nat.le_of_ble_eq_true rfl, Nat.le_of_ble_eq_true rfl⟩) rfl rfl (fun r_7 _ H locs hw_8 hP hD hK hS => ?_)
  have hK : va_K D vwCl [(K, .int)] s := hK
  have hP : va_P D vwCl [(ms, .inl (K, 889, .inl sf)), (mo, .inr (8, [.ref ms, .int sv, .ref mb, .int 0, .int 0, .ref mk, .int 0, .ref mfd, .int (-1), .int sp, .int on, .int tw]))] H := hP
  have hD : va_D A [(ms, .inl (K, 889, .inl sf)), (mo, .inr (8, [.ref ms, .int sv, .ref mb, .int 0, .int 0, .ref mk, .int 0, .ref mfd, .int (-1), .int sp, .int on, .int tw]))] := hD
  have hw_8 : r_7 = 1 := hw_8
  have hw_8 := hw_8.symm
  subst hw_8
  refine k_nrm (y := 1) rfl ?_
  refine lv_if_gt (tgt := 27) hx hb dX8_leastTolerance_22 (by decide) (fun _ => ?_) (fun c9 => absurd (by decide) c9)
  refine lv_iinc (v := 4) (lv' := [(1, .int 4), (0, .ref mo)]) hx hb dX8_leastTolerance_27 hl (k := 0) rfl (by decide) (by decide) rfl (fun ls hl => ?_)
  refine lv_goto (tgt := 11) hx hb dX8_leastTolerance_30 (by decide) ?_
  refine lv_iload_n hx hb dX8_leastTolerance_11 rfl (lv_at hl 0 rfl) ?_
  refine lv_bipush (v := 8) hx hb dX8_leastTolerance_12 (by decide) ?_
  refine lv_icmp_gt (tgt := 33) hx hb dX8_leastTolerance_14 (by decide) (fun c9 => absurd c9 (by decide)) (fun _ => ?_)
  refine lv_aload_n hx hb dX8_leastTolerance_17 rfl (lv_at hl 1 rfl) ?_
  refine lv_iload_n hx hb dX8_leastTolerance_18 rfl (lv_at hl 0 rfl) ?_
  have ct := k_cut_of (wc := [(mo, .inr (8, [.ref ms, .int sv, .ref mb, .int 0, .int 0, .ref mk, .int 0, .ref mfd, .int (-1), .int sp, .int on, .int tw]))]) (wr := [(ms, .inl (K, 889, .inl sf))]) (tc := []) hG hS hA hK hP hD [1] [0] [] rfl rfl (by decide) (by decide) (by decide) rfl
  refine k_endi (As := [.ref mo, .int 4]) ct (k_runV (As := [.int 4]) (rest := []) S0 Lv_X8_122 rfl (ci := 8) (q0 := 0) rfl rfl ct (c_M_reads l D mo ms sv mb 0 mk mfd (-1) sp on tw 4 H.size) hl.1 rfl (Nat.le_of_ble_eq_true rfl) rfl dX8_leastTolerance_19 ⟨⟨Nat.le_of_ble_eq_true rfl, Nat.le_of_ble_eq_true rfl⟩, Nat.le_of_ble_eq_true rfl, Nat.le_of_ble_eq_true rfl⟩) rfl rfl (fun r_9 _ H locs hw_10 hP hD hK hS => ?_)
  have hK : va_K D vwCl [(K, .int)] s := hK
  have hP : va_P D vwCl [(ms, .inl (K, 889, .inl sf)), (mo, .inr (8, [.ref ms, .int sv, .ref mb, .int 0, .int 0, .ref mk, .int 0, .ref mfd, .int (-1), .int sp, .int on, .int tw]))] H := hP
  have hD : va_D A [(ms, .inl (K, 889, .inl sf)), (mo, .inr (8, [.ref ms, .int sv, .ref mb, .int 0, .int 0, .ref mk, .int 0, .ref mfd, .int (-1), .int sp, .int on, .int tw]))] := hD
  have hw_10 : r_9 = 1 := hw_10
  have hw_10 := hw_10.symm
  subst hw_10
  refine k_nrm (y := 1) rfl ?_
  refine lv_if_gt (tgt := 27) hx hb dX8_leastTolerance_22 (by decide) (fun _ => ?_) (fun c9 => absurd (by decide) c9)
  refine lv_iinc (v := 5) (lv' := [(1, .int 5), (0, .ref mo)]) hx hb dX8_leastTolerance_27 hl (k := 0) rfl (by decide) (by decide) rfl (fun ls hl => ?_)
  refine lv_goto (tgt := 11) hx hb dX8_leastTolerance_30 (by decide) ?_
  refine lv_iload_n hx hb dX8_leastTolerance_11 rfl (lv_at hl 0 rfl) ?_
  refine lv_bipush (v := 8) hx hb dX8_leastTolerance_12 (by decide) ?_
  refine lv_icmp_gt (tgt := 33) hx hb dX8_leastTolerance_14 (by decide) (fun c9 => absurd c9 (by decide)) (fun _ => ?_)
  refine lv_aload_n hx hb dX8_leastTolerance_17 rfl (lv_at hl 1 rfl) ?_
  refine lv_iload_n hx hb dX8_leastTolerance_18 rfl (lv_at hl 0 rfl) ?_
  have ct := k_cut_of (wc := [(mo, .inr (8, [.ref ms, .int sv, .ref mb, .int 0, .int 0, .ref mk, .int 0, .ref mfd, .int (-1), .int sp, .int on, .int tw]))]) (wr := [(ms, .inl (K, 889, .inl sf))]) (tc := []) hG hS hA hK hP hD [1] [0] [] rfl rfl (by decide) (by decide) (by decide) rfl
  refine k_endi (As := [.ref mo, .int 5]) ct (k_runV (As := [.int 5]) (rest := []) S0 Lv_X8_122 rfl (ci := 8) (q0 := 0) rfl rfl ct (c_M_reads l D mo ms sv mb 0 mk mfd (-1) sp on tw 5 H.size) hl.1 rfl (Nat.le_of_ble_eq_true rfl) rfl dX8_leastTolerance_19 ⟨⟨Nat.le_of_ble_eq_true rfl, Nat.le_of_ble_eq_true rfl⟩, Nat.le_of_ble_eq_true rfl, Nat.le_of_ble_eq_true rfl⟩) rfl rfl (fun r_11 _ H locs hw_12 hP hD hK hS => ?_)
  have hK : va_K D vwCl [(K, .int)] s := hK
  have hP : va_P D vwCl [(ms, .inl (K, 889, .inl sf)), (mo, .inr (8, [.ref ms, .int sv, .ref mb, .int 0, .int 0, .ref mk, .int 0, .ref mfd, .int (-1), .int sp, .int on, .int tw]))] H := hP
  have hD : va_D A [(ms, .inl (K, 889, .inl sf)), (mo, .inr (8, [.ref ms, .int sv, .ref mb, .int 0, .int 0, .ref mk, .int 0, .ref mfd, .int (-1), .int sp, .int on, .int tw]))] := hD
  have hw_12 : r_11 = 1 := hw_12
  have hw_12 := hw_12.symm
  subst hw_12
  refine k_nrm (y := 1) rfl ?_
  refine lv_if_gt (tgt := 27) hx hb dX8_leastTolerance_22 (by decide) (fun _ => ?_) (fun c9 => absurd (by decide) c9)
  refine lv_iinc (v := 6) (lv' := [(1, .int 6), (0, .ref mo)]) hx hb dX8_leastTolerance_27 hl (k := 0) rfl (by decide) (by decide) rfl (fun ls hl => ?_)
  refine lv_goto (tgt := 11) hx hb dX8_leastTolerance_30 (by decide) ?_
  refine lv_iload_n hx hb dX8_leastTolerance_11 rfl (lv_at hl 0 rfl) ?_
  refine lv_bipush (v := 8) hx hb dX8_leastTolerance_12 (by decide) ?_
  refine lv_icmp_gt (tgt := 33) hx hb dX8_leastTolerance_14 (by decide) (fun c9 => absurd c9 (by decide)) (fun _ => ?_)
  refine lv_aload_n hx hb dX8_leastTolerance_17 rfl (lv_at hl 1 rfl) ?_
  refine lv_iload_n hx hb dX8_leastTolerance_18 rfl (lv_at hl 0 rfl) ?_
  have ct := k_cut_of (wc := [(mo, .inr (8, [.ref ms, .int sv, .ref mb, .int 0, .int 0, .ref mk, .int 0, .ref mfd, .int (-1), .int sp, .int on, .int tw]))]) (wr := [(ms, .inl (K, 889, .inl sf))]) (tc := []) hG hS hA hK hP hD [1] [0] [] rfl rfl (by decide) (by decide) (by decide) rfl
  refine k_endi (As := [.ref mo, .int 6]) ct (k_runV (As := [.int 6]) (rest := []) S0 Lv_X8_122 rfl (ci := 8) (q0 := 0) rfl rfl ct (c_M_reads l D mo ms sv mb 0 mk mfd (-1) sp on tw 6 H.size) hl.1 rfl (Nat.le_of_ble_eq_true rfl) rfl dX8_leastTolerance_19 ⟨⟨Nat.le_of_ble_eq_true rfl, Nat.le_of_ble_eq_true rfl⟩, Nat.le_of_ble_eq_true rfl, Nat.le_of_ble_eq_true rfl⟩) rfl rfl (fun r_13 _ H locs hw_14 hP hD hK hS => ?_)
  have hK : va_K D vwCl [(K, .int)] s := hK
  have hP : va_P D vwCl [(ms, .inl (K, 889, .inl sf)), (mo, .inr (8, [.ref ms, .int sv, .ref mb, .int 0, .int 0, .ref mk, .int 0, .ref mfd, .int (-1), .int sp, .int on, .int tw]))] H := hP
  have hD : va_D A [(ms, .inl (K, 889, .inl sf)), (mo, .inr (8, [.ref ms, .int sv, .ref mb, .int 0, .int 0, .ref mk, .int 0, .ref mfd, .int (-1), .int sp, .int on, .int tw]))] := hD
  have hw_14 : r_13 = 1 := hw_14
  have hw_14 := hw_14.symm
  subst hw_14
  refine k_nrm (y := 1) rfl ?_
  refine lv_if_gt (tgt := 27) hx hb dX8_leastTolerance_22 (by decide) (fun _ => ?_) (fun c9 => absurd (by decide) c9)
  refine lv_iinc (v := 7) (lv' := [(1, .int 7), (0, .ref mo)]) hx hb dX8_leastTolerance_27 hl (k := 0) rfl (by decide) (by decide) rfl (fun ls hl => ?_)
  refine lv_goto (tgt := 11) hx hb dX8_leastTolerance_30 (by decide) ?_
  refine lv_iload_n hx hb dX8_leastTolerance_11 rfl (lv_at hl 0 rfl) ?_
  refine lv_bipush (v := 8) hx hb dX8_leastTolerance_12 (by decide) ?_
  refine lv_icmp_gt (tgt := 33) hx hb dX8_leastTolerance_14 (by decide) (fun c9 => absurd c9 (by decide)) (fun _ => ?_)
  refine lv_aload_n hx hb dX8_leastTolerance_17 rfl (lv_at hl 1 rfl) ?_
  refine lv_iload_n hx hb dX8_leastTolerance_18 rfl (lv_at hl 0 rfl) ?_
  have ct := k_cut_of (wc := [(mo, .inr (8, [.ref ms, .int sv, .ref mb, .int 0, .int 0, .ref mk, .int 0, .ref mfd, .int (-1), .int sp, .int on, .int tw]))]) (wr := [(ms, .inl (K, 889, .inl sf))]) (tc := []) hG hS hA hK hP hD [1] [0] [] rfl rfl (by decide) (by decide) (by decide) rfl
  refine k_endi (As := [.ref mo, .int 7]) ct (k_runV (As := [.int 7]) (rest := []) S0 Lv_X8_122 rfl (ci := 8) (q0 := 0) rfl rfl ct (c_M_reads l D mo ms sv mb 0 mk mfd (-1) sp on tw 7 H.size) hl.1 rfl (Nat.le_of_ble_eq_true rfl) rfl dX8_leastTolerance_19 ⟨⟨Nat.le_of_ble_eq_true rfl, Nat.le_of_ble_eq_true rfl⟩, Nat.le_of_ble_eq_true rfl, Nat.le_of_ble_eq_true rfl⟩) rfl rfl (fun r_15 _ H locs hw_16 hP hD hK hS => ?_)
  have hK : va_K D vwCl [(K, .int)] s := hK
  have hP : va_P D vwCl [(ms, .inl (K, 889, .inl sf)), (mo, .inr (8, [.ref ms, .int sv, .ref mb, .int 0, .int 0, .ref mk, .int 0, .ref mfd, .int (-1), .int sp, .int on, .int tw]))] H := hP
  have hD : va_D A [(ms, .inl (K, 889, .inl sf)), (mo, .inr (8, [.ref ms, .int sv, .ref mb, .int 0, .int 0, .ref mk, .int 0, .ref mfd, .int (-1), .int sp, .int on, .int tw]))] := hD
  have hw_16 : r_15 = 1 := hw_16
  have hw_16 := hw_16.symm
  subst hw_16
  refine k_nrm (y := 1) rfl ?_
  refine lv_if_gt (tgt := 27) hx hb dX8_leastTolerance_22 (by decide) (fun _ => ?_) (fun c9 => absurd (by decide) c9)
  refine lv_iinc (v := 8) (lv' := [(1, .int 8), (0, .ref mo)]) hx hb dX8_leastTolerance_27 hl (k := 0) rfl (by decide) (by decide) rfl (fun ls hl => ?_)
  refine lv_goto (tgt := 11) hx hb dX8_leastTolerance_30 (by decide) ?_
  refine lv_iload_n hx hb dX8_leastTolerance_11 rfl (lv_at hl 0 rfl) ?_
  refine lv_bipush (v := 8) hx hb dX8_leastTolerance_12 (by decide) ?_
  refine lv_icmp_gt (tgt := 33) hx hb dX8_leastTolerance_14 (by decide) (fun c9 => absurd c9 (by decide)) (fun _ => ?_)
  refine lv_aload_n hx hb dX8_leastTolerance_17 rfl (lv_at hl 1 rfl) ?_
  refine lv_iload_n hx hb dX8_leastTolerance_18 rfl (lv_at hl 0 rfl) ?_
  have ct := k_cut_of (wc := [(mo, .inr (8, [.ref ms, .int sv, .ref mb, .int 0, .int 0, .ref mk, .int 0, .ref mfd, .int (-1), .int sp, .int on, .int tw]))]) (wr := [(ms, .inl (K, 889, .inl sf))]) (tc := []) hG hS hA hK hP hD [1] [0] [] rfl rfl (by decide) (by decide) (by decide) rfl
  refine k_endi (As := [.ref mo, .int 8]) ct (k_runV (As := [.int 8]) (rest := []) S0 Lv_X8_122 rfl (ci := 8) (q0 := 0) rfl rfl ct (c_M_reads l D mo ms sv mb 0 mk mfd (-1) sp on tw 8 H.size) hl.1 rfl (Nat.le_of_ble_eq_true rfl) rfl dX8_leastTolerance_19 ⟨⟨Nat.le_of_ble_eq_true rfl, Nat.le_of_ble_eq_true rfl⟩, Nat.le_of_ble_eq_true rfl, Nat.le_of_ble_eq_true rfl⟩) rfl rfl (fun r_17 _ H locs hw_18 hP hD hK hS => ?_)
  have hK : va_K D vwCl [(K, .int)] s := hK
  have hP : va_P D vwCl [(ms, .inl (K, 889, .inl sf)), (mo, .inr (8, [.ref ms, .int sv, .ref mb, .int 0, .int 0, .ref mk, .int 0, .ref mfd, .int (-1), .int sp, .int on, .int tw]))] H := hP
  have hD : va_D A [(ms, .inl (K, 889, .inl sf)), (mo, .inr (8, [.ref ms, .int sv, .ref mb, .int 0, .int 0, .ref mk, .int 0, .ref mfd, .int (-1), .int sp, .int on, .int tw]))] := hD
  have hw_18 : r_17 = 1 := hw_18
  have hw_18 := hw_18.symm
  subst hw_18
  refine k_nrm (y := 1) rfl ?_
  refine lv_if_gt (tgt := 27) hx hb dX8_leastTolerance_22 (by decide) (fun _ => ?_) (fun c9 => absurd (by decide) c9)
  refine lv_iinc (v := 9) (lv' := [(1, .int 9), (0, .ref mo)]) hx hb dX8_leastTolerance_27 hl (k := 0) rfl (by decide) (by decide) rfl (fun ls hl => ?_)
  refine lv_goto (tgt := 11) hx hb dX8_leastTolerance_30 (by decide) ?_
  refine lv_iload_n hx hb dX8_leastTolerance_11 rfl (lv_at hl 0 rfl) ?_
  refine lv_bipush (v := 8) hx hb dX8_leastTolerance_12 (by decide) ?_
  refine lv_icmp_gt (tgt := 33) hx hb dX8_leastTolerance_14 (by decide) (fun _ => ?_) (fun c9 => absurd (by decide) c9)
  refine lv_iconst (v := (-1)) hx hb dX8_leastTolerance_33 (by decide) ?_
  have hP9 : va_P D vwCl [(mo, .inr (8, [.ref ms, .int sv, .ref mb, .int 0, .int 0, .ref mk, .int 0, .ref mfd, .int (-1), .int sp, .int on, .int tw])), (ms, .inl (K, 889, .inl sf))] H := hP.sub [1, 0] rfl
  have hD9 : va_D A [(mo, .inr (8, [.ref ms, .int sv, .ref mb, .int 0, .int 0, .ref mk, .int 0, .ref mfd, .int (-1), .int sp, .int on, .int tw])), (ms, .inl (K, 889, .inl sf))] := hD.sub [1, 0] (by decide) rfl
  have hK9 : va_K D vwCl [] s := hK.sub [] rfl
  exact W.iret (v := (-1)) hx hb hr (fun t ht9 hW9 => ⟨⟨(-1), (), rfl, by first | rfl | trivial | assumption, ⟨by rw [ht9]; exact hP9, va_K.moved hW9.alike hK9, hD9⟩⟩, hS.F ht9⟩) hS.2.2 dX8_leastTolerance_34
set_option maxHeartbeats 4000000 in
set_option maxRecDepth 100000 in
theorem c_M_digest (l : Launch) (D : va_G) (mo : Nat) (ms : Nat) (sv : Int32) (mb : Nat) (th : Int32) (mk : Nat) (ml : Int32) (mfd : Nat) (mf : Int32) (sp : Int32) (on : Int32) (tw : Int32) (K : ClassId) (sf : Nat → Int32) (hs0 : sf 0 = 0) (hs51 : sf 51 = 0) (hs93 : sf 93 = 4) (hs94 : sf 94 = 0) (hs125 : sf 125 = 0) (hs126 : sf 126 = 0) (sz : Nat) : k_Ml (S := Unit) l D yX8_digest cX8_digest 4 (some .long) 4 0 0 89 [.ref mo] [(mo, .inr (8, [.ref ms, .int sv, .ref mb, .int 0, .int th, .ref mk, .int ml, .ref mfd, .int mf, .int sp, .int on, .int tw])), (ms, .inl (K, 889, .inl sf))] [(K, .int)] (fun (r : Int64) (_ : Unit) => r = 106419480113727337) (fun _ => [(mo, .inr (8, [.ref ms, .int sv, .ref mb, .int 0, .int 0, .ref mk, .int 0, .ref mfd, .int (-1), .int sp, .int on, .int tw])), (ms, .inl (K, 889, .inl sf))]) (fun _ => []) sz := by
  refine Met.ofW (cc := cX8_digest) (maxL := 4) (ret := (some .long)) (by decide) rfl ?_
  intro p e s m args below meth c s₁ B hml hv
  obtain ⟨rfl, hsz, hP, hK, hD0, hG⟩ := hv
  have hx := B.exec
  have hb := B.bytes
  have hr := B.returns
  have ht : ∀ v9 ∈ wsA, v9.before ([.ref mo] : List Value).toArray s = true := fun v9 h9 => atoms_spec (ws := k_ws yX8_digest cX8_digest 4 (some .long)) B.pre v9 (List.mem_cons_of_mem _ h9)
  have hown : s.vm.findClass RX8 = some m.cls := findClass_of_methodNamed B.named
  have S0 : k_C p s m ([.ref mo] : List Value).toArray c cX8_digest 4 RX8 := ⟨hx, hb, hml, hown, ht⟩
  have hlocks := B.notSynchronized
  subst hsz
  have hD := hD0.self (sz := s.heap.size)
  generalize hAe : va_A [(mo, .inr (8, [.ref ms, .int sv, .ref mb, .int 0, .int th, .ref mk, .int ml, .ref mfd, .int mf, .int sp, .int on, .int tw])), (ms, .inl (K, 889, .inl sf))] s.heap.size = A at hD hG ⊢
  have hA : ∀ q : Nat, s.heap.size ≤ q → A q := fun q h => by rw [← hAe]; exact Or.inr h
  have hS : va_S A s.heap s.heap [] := va_S.rf
  have hl := lv_entry ([.ref mo]) (n := 4) (Nat.le_of_ble_eq_true rfl)
  rw [lg_entry_eq]
  generalize (lg_sl ([.ref mo]) ++ List.replicate (4 - (lg_sl ([.ref mo])).length) Slot.unset).toArray = ls at hl ⊢
  have hl : lv_has ls 4 [(0, .ref mo)] := hl
  have hP : va_P D vwCl [(mo, .inr (8, [.ref ms, .int sv, .ref mb, .int 0, .int th, .ref mk, .int ml, .ref mfd, .int mf, .int sp, .int on, .int tw])), (ms, .inl (K, 889, .inl sf))] s.heap := hP
  refine lv_ldc2 (v := 4025) hx hb hown (ht _ lx_X8_193) dX8_digest_0 ?_
  refine lv_lstore_n (lv' := [(1, .long 4025), (0, .ref mo)]) hx hb dX8_digest_3 rfl hl (by decide) rfl (fun ls hl => ?_)
  refine lv_ldc2 (v := 31) hx hb hown (ht _ lx_X8_195) dX8_digest_4 ?_
  refine lv_lload_n hx hb dX8_digest_7 rfl (lv_at hl 0 rfl) ?_
  refine lv_lmul hx hb dX8_digest_8 ?_
  refine k_nrml (y := 124775) (by decide) ?_
  refine lv_aload_n hx hb dX8_digest_9 rfl (lv_at hl 1 rfl) ?_
  have ct := k_cut_of (wc := [(mo, .inr (8, [.ref ms, .int sv, .ref mb, .int 0, .int th, .ref mk, .int ml, .ref mfd, .int mf, .int sp, .int on, .int tw])), (ms, .inl (K, 889, .inl sf))]) (wr := []) (tc := [(K, .int)]) hG hS hA hK hP hD [0, 1] [] [0] rfl rfl (by decide) (by decide) (by decide) rfl
  refine k_endi (As := [.ref mo]) ct (k_runV (As := []) (rest := [.long 124775]) S0 Lv_X8_38 rfl (ci := 8) (q0 := 0) rfl rfl ct (c_M_many l D mo ms sv mb th mk ml mfd mf sp on tw K sf (by first | assumption | exact (cpf_lo (by decide)).trans (by assumption)) (by first | assumption | exact (cpf_lo (by decide)).trans (by assumption)) (by first | assumption | exact (cpf_lo (by decide)).trans (by assumption)) (by first | assumption | exact (cpf_lo (by decide)).trans (by assumption)) (by first | assumption | exact (cpf_lo (by decide)).trans (by assumption)) (by first | assumption | exact (cpf_lo (by decide)).trans (by assumption)) s.heap.size) hl.1 rfl (Nat.le_of_ble_eq_true rfl) rfl dX8_digest_10 ⟨⟨Nat.le_of_ble_eq_true rfl, Nat.le_of_ble_eq_true rfl⟩, Nat.le_of_ble_eq_true rfl, Nat.le_of_ble_eq_true rfl⟩) rfl rfl (fun r_1 _ H locs hw_2 hP hD hK hS => ?_)
  have hK : va_K D vwCl [(K, .int)] s := hK
  have hP : va_P D vwCl [(mo, .inr (8, [.ref ms, .int sv, .ref mb, .int 0, .int th, .ref mk, .int ml, .ref mfd, .int mf, .int sp, .int on, .int tw])), (ms, .inl (K, 889, .inl sf))] H := hP
  have hD : va_D A [(mo, .inr (8, [.ref ms, .int sv, .ref mb, .int 0, .int th, .ref mk, .int ml, .ref mfd, .int mf, .int sp, .int on, .int tw])), (ms, .inl (K, 889, .inl sf))] := hD
  have hw_2 : r_1 = 0 := hw_2
  have hw_2 := hw_2.symm
  subst hw_2
  refine k_nrm (y := 0) rfl ?_
  refine lv_i2l (v := 0) hx hb dX8_digest_13 (by decide) ?_
  refine lv_ladd hx hb dX8_digest_14 ?_
  refine k_nrml (y := 124775) (by decide) ?_
  refine lv_lstore_n (lv' := [(1, .long 124775), (0, .ref mo)]) hx hb dX8_digest_15 rfl hl (by decide) rfl (fun ls hl => ?_)
  refine lv_ldc2 (v := 31) hx hb hown (ht _ lx_X8_195) dX8_digest_16 ?_
  refine lv_lload_n hx hb dX8_digest_19 rfl (lv_at hl 0 rfl) ?_
  refine lv_lmul hx hb dX8_digest_20 ?_
  refine k_nrml (y := 3868025) (by decide) ?_
  refine lv_aload_n hx hb dX8_digest_21 rfl (lv_at hl 1 rfl) ?_
  refine va_get (D := D) (ci := 8) (v := .ref ms) (C := RX8) (T := TX8) (N := 12) hx hb ht inA_X8 hown hK hP 0 rfl rfl 0 (by decide) (ht _ lf_X8_7) (fun _ h9 => h9) rfl dX8_digest_22 ?_
  refine lv_bipush (v := 51) hx hb dX8_digest_25 (by decide) ?_
  refine va_iald hx hb hK hP 1 0 rfl rfl (by unfold vp_in; decide) dX8_digest_27 ?_
  refine k_nrm (y := 0) (show sf (51 : Int32).toNatClampNeg = 0 from hs51) ?_
  refine lv_i2l (v := 0) hx hb dX8_digest_28 (by decide) ?_
  refine lv_ladd hx hb dX8_digest_29 ?_
  refine k_nrml (y := 3868025) (by decide) ?_
  refine lv_lstore_n (lv' := [(1, .long 3868025), (0, .ref mo)]) hx hb dX8_digest_30 rfl hl (by decide) rfl (fun ls hl => ?_)
  refine lv_ldc2 (v := 31) hx hb hown (ht _ lx_X8_195) dX8_digest_31 ?_
  refine lv_lload_n hx hb dX8_digest_34 rfl (lv_at hl 0 rfl) ?_
  refine lv_lmul hx hb dX8_digest_35 ?_
  refine k_nrml (y := 119908775) (by decide) ?_
  refine lv_aload_n hx hb dX8_digest_36 rfl (lv_at hl 1 rfl) ?_
  have ct := k_cut_of (wc := [(mo, .inr (8, [.ref ms, .int sv, .ref mb, .int 0, .int th, .ref mk, .int ml, .ref mfd, .int mf, .int sp, .int on, .int tw])), (ms, .inl (K, 889, .inl sf))]) (wr := []) (tc := [(K, .int)]) hG hS hA hK hP hD [0, 1] [] [0] rfl rfl (by decide) (by decide) (by decide) rfl
  refine k_endi (As := [.ref mo]) ct (k_runV (As := []) (rest := [.long 119908775]) S0 Lv_X8_197 rfl (ci := 8) (q0 := 0) rfl rfl ct (c_M_result l D mo ms sv mb th mk ml mfd mf sp on tw K sf (by first | assumption | exact (cpf_lo (by decide)).trans (by assumption)) (by first | assumption | exact (cpf_lo (by decide)).trans (by assumption)) (by first | assumption | exact (cpf_lo (by decide)).trans (by assumption)) (by first | assumption | exact (cpf_lo (by decide)).trans (by assumption)) (by first | assumption | exact (cpf_lo (by decide)).trans (by assumption)) (by first | assumption | exact (cpf_lo (by decide)).trans (by assumption)) H.size) hl.1 rfl (Nat.le_of_ble_eq_true rfl) rfl dX8_digest_37 ⟨⟨Nat.le_of_ble_eq_true rfl, Nat.le_of_ble_eq_true rfl⟩, Nat.le_of_ble_eq_true rfl, Nat.le_of_ble_eq_true rfl⟩) rfl rfl (fun r_3 _ H locs hw_4 hP hD hK hS => ?_)
  have hK : va_K D vwCl [(K, .int)] s := hK
  have hP : va_P D vwCl [(mo, .inr (8, [.ref ms, .int sv, .ref mb, .int 0, .int 0, .ref mk, .int 0, .ref mfd, .int (-1), .int sp, .int on, .int tw])), (ms, .inl (K, 889, .inl sf))] H := hP
  have hD : va_D A [(mo, .inr (8, [.ref ms, .int sv, .ref mb, .int 0, .int 0, .ref mk, .int 0, .ref mfd, .int (-1), .int sp, .int on, .int tw])), (ms, .inl (K, 889, .inl sf))] := hD
  have hw_4 : r_3 = 1 := hw_4
  have hw_4 := hw_4.symm
  subst hw_4
  refine k_nrm (y := 1) rfl ?_
  refine lv_i2l (v := 1) hx hb dX8_digest_40 (by decide) ?_
  refine lv_ladd hx hb dX8_digest_41 ?_
  refine k_nrml (y := 119908776) (by decide) ?_
  refine lv_lstore_n (lv' := [(1, .long 119908776), (0, .ref mo)]) hx hb dX8_digest_42 rfl hl (by decide) rfl (fun ls hl => ?_)
  refine lv_ldc2 (v := 31) hx hb hown (ht _ lx_X8_195) dX8_digest_43 ?_
  refine lv_lload_n hx hb dX8_digest_46 rfl (lv_at hl 0 rfl) ?_
  refine lv_lmul hx hb dX8_digest_47 ?_
  refine k_nrml (y := 3717172056) (by decide) ?_
  refine lv_aload_n hx hb dX8_digest_48 rfl (lv_at hl 1 rfl) ?_
  refine lv_iconst (v := 0) hx hb dX8_digest_49 (by decide) ?_
  have ct := k_cut_of (wc := [(mo, .inr (8, [.ref ms, .int sv, .ref mb, .int 0, .int 0, .ref mk, .int 0, .ref mfd, .int (-1), .int sp, .int on, .int tw])), (ms, .inl (K, 889, .inl sf))]) (wr := []) (tc := [(K, .int)]) hG hS hA hK hP hD [0, 1] [] [0] rfl rfl (by decide) (by decide) (by decide) rfl
  refine k_endi (As := [.ref mo, .int 0]) ct (k_runV (As := [.int 0]) (rest := [.long 3717172056]) S0 Lv_X8_200 rfl (ci := 8) (q0 := 0) rfl rfl ct (c_M_reason l D mo ms sv mb 0 mk 0 mfd (-1) sp on tw K sf 0 (by first | assumption | exact (cpf_lo (by decide)).trans (by assumption)) (by first | assumption | exact (cpf_lo (by decide)).trans (by assumption)) (by first | assumption | exact (cpf_lo (by decide)).trans (by assumption)) (by first | assumption | exact (cpf_lo (by decide)).trans (by assumption)) (by first | assumption | exact (cpf_lo (by decide)).trans (by assumption)) (by first | assumption | exact (cpf_lo (by decide)).trans (by assumption)) H.size) hl.1 rfl (Nat.le_of_ble_eq_true rfl) rfl dX8_digest_50 ⟨⟨Nat.le_of_ble_eq_true rfl, Nat.le_of_ble_eq_true rfl⟩, Nat.le_of_ble_eq_true rfl, Nat.le_of_ble_eq_true rfl⟩) rfl rfl (fun r_5 _ H locs hw_6 hP hD hK hS => ?_)
  have hK : va_K D vwCl [(K, .int)] s := hK
  have hP : va_P D vwCl [(mo, .inr (8, [.ref ms, .int sv, .ref mb, .int 0, .int 0, .ref mk, .int 0, .ref mfd, .int (-1), .int sp, .int on, .int tw])), (ms, .inl (K, 889, .inl sf))] H := hP
  have hD : va_D A [(mo, .inr (8, [.ref ms, .int sv, .ref mb, .int 0, .int 0, .ref mk, .int 0, .ref mfd, .int (-1), .int sp, .int on, .int tw])), (ms, .inl (K, 889, .inl sf))] := hD
  have hw_6 : r_5 = 1 := hw_6
  have hw_6 := hw_6.symm
  subst hw_6
  refine k_nrm (y := 1) rfl ?_
  refine lv_i2l (v := 1) hx hb dX8_digest_53 (by decide) ?_
  refine lv_ladd hx hb dX8_digest_54 ?_
  refine k_nrml (y := 3717172057) (by decide) ?_
  refine lv_lstore_n (lv' := [(1, .long 3717172057), (0, .ref mo)]) hx hb dX8_digest_55 rfl hl (by decide) rfl (fun ls hl => ?_)
  refine lv_ldc2 (v := 31) hx hb hown (ht _ lx_X8_195) dX8_digest_56 ?_
  refine lv_lload_n hx hb dX8_digest_59 rfl (lv_at hl 0 rfl) ?_
  refine lv_lmul hx hb dX8_digest_60 ?_
  refine k_nrml (y := 115232333767) (by decide) ?_
  refine lv_aload_n hx hb dX8_digest_61 rfl (lv_at hl 1 rfl) ?_
  refine lv_iconst (v := 1) hx hb dX8_digest_62 (by decide) ?_
  have ct := k_cut_of (wc := [(mo, .inr (8, [.ref ms, .int sv, .ref mb, .int 0, .int 0, .ref mk, .int 0, .ref mfd, .int (-1), .int sp, .int on, .int tw])), (ms, .inl (K, 889, .inl sf))]) (wr := []) (tc := [(K, .int)]) hG hS hA hK hP hD [0, 1] [] [0] rfl rfl (by decide) (by decide) (by decide) rfl
  refine k_endi (As := [.ref mo, .int 1]) ct (k_runV (As := [.int 1]) (rest := [.long 115232333767]) S0 Lv_X8_200 rfl (ci := 8) (q0 := 0) rfl rfl ct (c_M_reason l D mo ms sv mb 0 mk 0 mfd (-1) sp on tw K sf 1 (by first | assumption | exact (cpf_lo (by decide)).trans (by assumption)) (by first | assumption | exact (cpf_lo (by decide)).trans (by assumption)) (by first | assumption | exact (cpf_lo (by decide)).trans (by assumption)) (by first | assumption | exact (cpf_lo (by decide)).trans (by assumption)) (by first | assumption | exact (cpf_lo (by decide)).trans (by assumption)) (by first | assumption | exact (cpf_lo (by decide)).trans (by assumption)) H.size) hl.1 rfl (Nat.le_of_ble_eq_true rfl) rfl dX8_digest_63 ⟨⟨Nat.le_of_ble_eq_true rfl, Nat.le_of_ble_eq_true rfl⟩, Nat.le_of_ble_eq_true rfl, Nat.le_of_ble_eq_true rfl⟩) rfl rfl (fun r_7 _ H locs hw_8 hP hD hK hS => ?_)
  have hK : va_K D vwCl [(K, .int)] s := hK
  have hP : va_P D vwCl [(mo, .inr (8, [.ref ms, .int sv, .ref mb, .int 0, .int 0, .ref mk, .int 0, .ref mfd, .int (-1), .int sp, .int on, .int tw])), (ms, .inl (K, 889, .inl sf))] H := hP
  have hD : va_D A [(mo, .inr (8, [.ref ms, .int sv, .ref mb, .int 0, .int 0, .ref mk, .int 0, .ref mfd, .int (-1), .int sp, .int on, .int tw])), (ms, .inl (K, 889, .inl sf))] := hD
  have hw_8 : r_7 = 1 := hw_8
  have hw_8 := hw_8.symm
  subst hw_8
  refine k_nrm (y := 1) rfl ?_
  refine lv_i2l (v := 1) hx hb dX8_digest_66 (by decide) ?_
  refine lv_ladd hx hb dX8_digest_67 ?_
  refine k_nrml (y := 115232333768) (by decide) ?_
  refine lv_lstore_n (lv' := [(1, .long 115232333768), (0, .ref mo)]) hx hb dX8_digest_68 rfl hl (by decide) rfl (fun ls hl => ?_)
  refine lv_ldc2 (v := 31) hx hb hown (ht _ lx_X8_195) dX8_digest_69 ?_
  refine lv_lload_n hx hb dX8_digest_72 rfl (lv_at hl 0 rfl) ?_
  refine lv_lmul hx hb dX8_digest_73 ?_
  refine k_nrml (y := 3572202346808) (by decide) ?_
  refine lv_aload_n hx hb dX8_digest_74 rfl (lv_at hl 1 rfl) ?_
  have ct := k_cut_of (wc := [(mo, .inr (8, [.ref ms, .int sv, .ref mb, .int 0, .int 0, .ref mk, .int 0, .ref mfd, .int (-1), .int sp, .int on, .int tw])), (ms, .inl (K, 889, .inl sf))]) (wr := []) (tc := [(K, .int)]) hG hS hA hK hP hD [0, 1] [] [0] rfl rfl (by decide) (by decide) (by decide) rfl
  refine k_endi (As := [.ref mo]) ct (k_runV (As := []) (rest := [.long 3572202346808]) S0 Lv_X8_204 rfl (ci := 8) (q0 := 0) rfl rfl ct (c_M_least l D mo ms sv mb 0 mk 0 mfd (-1) sp on tw K sf (by first | assumption | exact (cpf_lo (by decide)).trans (by assumption)) (by first | assumption | exact (cpf_lo (by decide)).trans (by assumption)) (by first | assumption | exact (cpf_lo (by decide)).trans (by assumption)) (by first | assumption | exact (cpf_lo (by decide)).trans (by assumption)) (by first | assumption | exact (cpf_lo (by decide)).trans (by assumption)) (by first | assumption | exact (cpf_lo (by decide)).trans (by assumption)) H.size) hl.1 rfl (Nat.le_of_ble_eq_true rfl) rfl dX8_digest_75 ⟨⟨Nat.le_of_ble_eq_true rfl, Nat.le_of_ble_eq_true rfl⟩, Nat.le_of_ble_eq_true rfl, Nat.le_of_ble_eq_true rfl⟩) rfl rfl (fun r_9 _ H locs hw_10 hP hD hK hS => ?_)
  have hK : va_K D vwCl [(K, .int)] s := hK
  have hP : va_P D vwCl [(mo, .inr (8, [.ref ms, .int sv, .ref mb, .int 0, .int 0, .ref mk, .int 0, .ref mfd, .int (-1), .int sp, .int on, .int tw])), (ms, .inl (K, 889, .inl sf))] H := hP
  have hD : va_D A [(mo, .inr (8, [.ref ms, .int sv, .ref mb, .int 0, .int 0, .ref mk, .int 0, .ref mfd, .int (-1), .int sp, .int on, .int tw])), (ms, .inl (K, 889, .inl sf))] := hD
  have hw_10 : r_9 = (-1) := hw_10
  have hw_10 := hw_10.symm
  subst hw_10
  refine k_nrm (y := (-1)) rfl ?_
  refine lv_i2l (v := (-1)) hx hb dX8_digest_78 (by decide) ?_
  refine lv_ladd hx hb dX8_digest_79 ?_
  refine k_nrml (y := 3572202346807) (by decide) ?_
  refine lv_lstore_n (lv' := [(1, .long 3572202346807), (0, .ref mo)]) hx hb dX8_digest_80 rfl hl (by decide) rfl (fun ls hl => ?_)
  refine lv_ldc2 (v := 31) hx hb hown (ht _ lx_X8_195) dX8_digest_81 ?_
  refine lv_lload_n hx hb dX8_digest_84 rfl (lv_at hl 0 rfl) ?_
  refine lv_lmul hx hb dX8_digest_85 ?_
  refine k_nrml (y := 110738272751017) (by decide) ?_
  refine lv_aload_n hx hb dX8_digest_86 rfl (lv_at hl 1 rfl) ?_
  refine va_get (D := D) (ci := 8) (v := .ref ms) (C := RX8) (T := TX8) (N := 12) hx hb ht inA_X8 hown hK hP 0 rfl rfl 0 (by decide) (ht _ lf_X8_7) (fun _ h9 => h9) rfl dX8_digest_87 ?_
  refine lv_bipush (v := 94) hx hb dX8_digest_90 (by decide) ?_
  refine va_iald hx hb hK hP 1 0 rfl rfl (by unfold vp_in; decide) dX8_digest_92 ?_
  refine k_nrm (y := 0) (show sf (94 : Int32).toNatClampNeg = 0 from hs94) ?_
  refine lv_i2l (v := 0) hx hb dX8_digest_93 (by decide) ?_
  refine lv_ladd hx hb dX8_digest_94 ?_
  refine k_nrml (y := 110738272751017) (by decide) ?_
  refine lv_lstore_n (lv' := [(1, .long 110738272751017), (0, .ref mo)]) hx hb dX8_digest_95 rfl hl (by decide) rfl (fun ls hl => ?_)
  refine lv_ldc2 (v := 31) hx hb hown (ht _ lx_X8_195) dX8_digest_96 ?_
  refine lv_lload_n hx hb dX8_digest_99 rfl (lv_at hl 0 rfl) ?_
  refine lv_lmul hx hb dX8_digest_100 ?_
  refine k_nrml (y := 3432886455281527) (by decide) ?_
  refine lv_aload_n hx hb dX8_digest_101 rfl (lv_at hl 1 rfl) ?_
  refine va_get (D := D) (ci := 8) (v := .ref ms) (C := RX8) (T := TX8) (N := 12) hx hb ht inA_X8 hown hK hP 0 rfl rfl 0 (by decide) (ht _ lf_X8_7) (fun _ h9 => h9) rfl dX8_digest_102 ?_
  refine lv_bipush (v := 125) hx hb dX8_digest_105 (by decide) ?_
  refine va_iald hx hb hK hP 1 0 rfl rfl (by unfold vp_in; decide) dX8_digest_107 ?_
  refine k_nrm (y := 0) (show sf (125 : Int32).toNatClampNeg = 0 from hs125) ?_
  refine lv_i2l (v := 0) hx hb dX8_digest_108 (by decide) ?_
  refine lv_ladd hx hb dX8_digest_109 ?_
  refine k_nrml (y := 3432886455281527) (by decide) ?_
  refine lv_lstore_n (lv' := [(1, .long 3432886455281527), (0, .ref mo)]) hx hb dX8_digest_110 rfl hl (by decide) rfl (fun ls hl => ?_)
  refine lv_ldc2 (v := 31) hx hb hown (ht _ lx_X8_195) dX8_digest_111 ?_
  refine lv_lload_n hx hb dX8_digest_114 rfl (lv_at hl 0 rfl) ?_
  refine lv_lmul hx hb dX8_digest_115 ?_
  refine k_nrml (y := 106419480113727337) (by decide) ?_
  refine lv_aload_n hx hb dX8_digest_116 rfl (lv_at hl 1 rfl) ?_
  refine va_get (D := D) (ci := 8) (v := .ref ms) (C := RX8) (T := TX8) (N := 12) hx hb ht inA_X8 hown hK hP 0 rfl rfl 0 (by decide) (ht _ lf_X8_7) (fun _ h9 => h9) rfl dX8_digest_117 ?_
  refine lv_bipush (v := 126) hx hb dX8_digest_120 (by decide) ?_
  refine va_iald hx hb hK hP 1 0 rfl rfl (by unfold vp_in; decide) dX8_digest_122 ?_
  refine k_nrm (y := 0) (show sf (126 : Int32).toNatClampNeg = 0 from hs126) ?_
  refine lv_i2l (v := 0) hx hb dX8_digest_123 (by decide) ?_
  refine lv_ladd hx hb dX8_digest_124 ?_
  refine k_nrml (y := 106419480113727337) (by decide) ?_
  refine lv_lstore_n (lv' := [(1, .long 106419480113727337), (0, .ref mo)]) hx hb dX8_digest_125 rfl hl (by decide) rfl (fun ls hl => ?_)
  refine lv_iconst (v := 0) hx hb dX8_digest_126 (by decide) ?_
  refine lv_istore_n (lv' := [(3, .int 0), (1, .long 106419480113727337), (0, .ref mo)]) hx hb dX8_digest_127 rfl hl (by decide) rfl (fun ls hl => ?_)
  refine lv_iload_n hx hb dX8_digest_128 rfl (lv_at hl 0 rfl) ?_
  refine lv_aload_n hx hb dX8_digest_129 rfl (lv_at hl 2 rfl) ?_
  have ct := k_cut_of (wc := [(mo, .inr (8, [.ref ms, .int sv, .ref mb, .int 0, .int 0, .ref mk, .int 0, .ref mfd, .int (-1), .int sp, .int on, .int tw])), (ms, .inl (K, 889, .inl sf))]) (wr := []) (tc := [(K, .int)]) hG hS hA hK hP hD [0, 1] [] [0] rfl rfl (by decide) (by decide) (by decide) rfl
  refine k_endi (As := [.ref mo]) ct (k_runV (As := []) (rest := [.int 0]) S0 Lv_X8_38 rfl (ci := 8) (q0 := 0) rfl rfl ct (c_M_many l D mo ms sv mb 0 mk 0 mfd (-1) sp on tw K sf (by first | assumption | exact (cpf_lo (by decide)).trans (by assumption)) (by first | assumption | exact (cpf_lo (by decide)).trans (by assumption)) (by first | assumption | exact (cpf_lo (by decide)).trans (by assumption)) (by first | assumption | exact (cpf_lo (by decide)).trans (by assumption)) (by first | assumption | exact (cpf_lo (by decide)).trans (by assumption)) (by first | assumption | exact (cpf_lo (by decide)).trans (by assumption)) H.size) hl.1 rfl (Nat.le_of_ble_eq_true rfl) rfl dX8_digest_130 ⟨⟨Nat.le_of_ble_eq_true rfl, Nat.le_of_ble_eq_true rfl⟩, Nat.le_of_ble_eq_true rfl, Nat.le_of_ble_eq_true rfl⟩) rfl rfl (fun r_11 _ H locs hw_12 hP hD hK hS => ?_)
  have hK : va_K D vwCl [(K, .int)] s := hK
  have hP : va_P D vwCl [(mo, .inr (8, [.ref ms, .int sv, .ref mb, .int 0, .int 0, .ref mk, .int 0, .ref mfd, .int (-1), .int sp, .int on, .int tw])), (ms, .inl (K, 889, .inl sf))] H := hP
  have hD : va_D A [(mo, .inr (8, [.ref ms, .int sv, .ref mb, .int 0, .int 0, .ref mk, .int 0, .ref mfd, .int (-1), .int sp, .int on, .int tw])), (ms, .inl (K, 889, .inl sf))] := hD
  have hw_12 : r_11 = 0 := hw_12
  have hw_12 := hw_12.symm
  subst hw_12
  refine k_nrm (y := 0) rfl ?_
  refine lv_icmp_ge (tgt := 185) hx hb dX8_digest_133 (by decide) (fun _ => ?_) (fun c9 => absurd (by decide) c9)
  refine lv_iconst (v := 0) hx hb dX8_digest_185 (by decide) ?_
  refine lv_istore_n (lv' := [(3, .int 0), (1, .long 106419480113727337), (0, .ref mo)]) hx hb dX8_digest_186 rfl hl (by decide) rfl (fun ls hl => ?_)
  refine lv_iload_n hx hb dX8_digest_187 rfl (lv_at hl 0 rfl) ?_
  refine lv_aload_n hx hb dX8_digest_188 rfl (lv_at hl 2 rfl) ?_
  refine va_get (D := D) (ci := 8) (v := .ref ms) (C := RX8) (T := TX8) (N := 12) hx hb ht inA_X8 hown hK hP 0 rfl rfl 0 (by decide) (ht _ lf_X8_7) (fun _ h9 => h9) rfl dX8_digest_189 ?_
  refine lv_bipush (v := 51) hx hb dX8_digest_192 (by decide) ?_
  refine va_iald hx hb hK hP 1 0 rfl rfl (by unfold vp_in; decide) dX8_digest_194 ?_
  refine k_nrm (y := 0) (show sf (51 : Int32).toNatClampNeg = 0 from hs51) ?_
  refine lv_icmp_ge (tgt := 221) hx hb dX8_digest_195 (by decide) (fun _ => ?_) (fun c9 => absurd (by decide) c9)
  refine lv_iconst (v := 0) hx hb dX8_digest_221 (by decide) ?_
  refine lv_istore_n (lv' := [(3, .int 0), (1, .long 106419480113727337), (0, .ref mo)]) hx hb dX8_digest_222 rfl hl (by decide) rfl (fun ls hl => ?_)
  refine lv_iload_n hx hb dX8_digest_223 rfl (lv_at hl 0 rfl) ?_
  refine lv_aload_n hx hb dX8_digest_224 rfl (lv_at hl 2 rfl) ?_
  refine va_get (D := D) (ci := 8) (v := .ref ms) (C := RX8) (T := TX8) (N := 12) hx hb ht inA_X8 hown hK hP 0 rfl rfl 0 (by decide) (ht _ lf_X8_7) (fun _ h9 => h9) rfl dX8_digest_225 ?_
  refine lv_bipush (v := 94) hx hb dX8_digest_228 (by decide) ?_
  refine va_iald hx hb hK hP 1 0 rfl rfl (by unfold vp_in; decide) dX8_digest_230 ?_
  refine k_nrm (y := 0) (show sf (94 : Int32).toNatClampNeg = 0 from hs94) ?_
  refine lv_icmp_ge (tgt := 291) hx hb dX8_digest_231 (by decide) (fun _ => ?_) (fun c9 => absurd (by decide) c9)
  refine lv_lload_n hx hb dX8_digest_291 rfl (lv_at hl 1 rfl) ?_
  have hP9 : va_P D vwCl [(mo, .inr (8, [.ref ms, .int sv, .ref mb, .int 0, .int 0, .ref mk, .int 0, .ref mfd, .int (-1), .int sp, .int on, .int tw])), (ms, .inl (K, 889, .inl sf))] H := hP.sub [0, 1] rfl
  have hD9 : va_D A [(mo, .inr (8, [.ref ms, .int sv, .ref mb, .int 0, .int 0, .ref mk, .int 0, .ref mfd, .int (-1), .int sp, .int on, .int tw])), (ms, .inl (K, 889, .inl sf))] := hD.sub [0, 1] (by decide) rfl
  have hK9 : va_K D vwCl [] s := hK.sub [] rfl
  exact W.lret (v := 106419480113727337) hx hb hr (fun t ht9 hW9 => ⟨⟨106419480113727337, (), rfl, by first | rfl | trivial | assumption, ⟨by rw [ht9]; exact hP9, va_K.moved hW9.alike hK9, hD9⟩⟩, hS.F ht9⟩) hS.2.2 dX8_digest_292
