set_option maxRecDepth 20000 in
theorem lk_X8_saves : Cond.code yX8_saves cX8_saves 2 none ∈ wsA := mA 846 rfl rfl
theorem ly_X8_saves : k_y yX8_saves 0 := ⟨by decide +kernel, by decide +kernel, by decide +kernel⟩
set_option maxRecDepth 20000 in
theorem lm_X8_saves : Cond.instanceMethod yX8_saves ∈ wsA := mA 845 rfl rfl
theorem le_X8_saves : Cond.selects (yX8_saves).cls yX8_saves yX8_saves ∈ wsA := mS 22 rfl rfl
set_option maxRecDepth 20000 in
theorem Lv_X8_62 : k_LV RX8 62 yX8_saves cX8_saves 2 none 0 := ⟨mA 843 rfl rfl, lm_X8_saves, le_X8_saves, li_BarcodeWandModel, lk_X8_saves, ly_X8_saves⟩
set_option maxRecDepth 20000 in
theorem lk_X8_readsAndCounts : Cond.code yX8_readsAndCounts cX8_readsAndCounts 2 (some .int) ∈ wsA := mA 914 rfl rfl
theorem ly_X8_readsAndCounts : k_y yX8_readsAndCounts 0 := ⟨by decide +kernel, by decide +kernel, by decide +kernel⟩
set_option maxRecDepth 20000 in
theorem lm_X8_readsAndCounts : Cond.instanceMethod yX8_readsAndCounts ∈ wsA := mA 913 rfl rfl
theorem le_X8_readsAndCounts : Cond.selects (yX8_readsAndCounts).cls yX8_readsAndCounts yX8_readsAndCounts ∈ wsA := mS 31 rfl rfl
set_option maxRecDepth 20000 in
theorem Lv_X8_132 : k_LV RX8 132 yX8_readsAndCounts cX8_readsAndCounts 2 (some .int) 0 := ⟨mA 911 rfl rfl, lm_X8_readsAndCounts, le_X8_readsAndCounts, li_BarcodeWandModel, lk_X8_readsAndCounts, ly_X8_readsAndCounts⟩
set_option maxRecDepth 20000 in
theorem lf_X8_13 : Cond.fieldLink RX8 13 "BarcodeWandModel" "buffer" "[C" ∈ wsA := mA 789 rfl rfl
set_option maxRecDepth 20000 in
theorem lk_X8_arePeriods : Cond.code yX8_arePeriods cX8_arePeriods 2 (some .boolean) ∈ wsA := mA 902 rfl rfl
theorem ly_X8_arePeriods : k_y yX8_arePeriods 2 := ⟨by decide +kernel, by decide +kernel, by decide +kernel⟩
set_option maxRecDepth 20000 in
theorem ls_X8_arePeriods : Cond.static yX8_arePeriods ∈ wsA := mA 901 rfl rfl
set_option maxRecDepth 20000 in
theorem Ls_X8_135 : k_LS RX8 135 yX8_arePeriods cX8_arePeriods 2 (some .boolean) 2 := ⟨mA 900 rfl rfl, ls_X8_arePeriods, li_BarcodeWandModel, lk_X8_arePeriods, ly_X8_arePeriods⟩
set_option maxRecDepth 20000 in
theorem lf_X8_150 : Cond.fieldLink RX8 150 "BarcodeWandModel" "spot" "I" ∈ wsA := mA 796 rfl rfl
set_option maxRecDepth 20000 in
theorem lk_X8_command : Cond.code yX8_command cX8_command 2 (some .char) ∈ wsA := mA 1069 rfl rfl
theorem ly_X8_command : k_y yX8_command 0 := ⟨by decide +kernel, by decide +kernel, by decide +kernel⟩
set_option maxRecDepth 20000 in
theorem lm_X8_command : Cond.instanceMethod yX8_command ∈ wsA := mA 1068 rfl rfl
theorem le_X8_command : Cond.selects (yX8_command).cls yX8_command yX8_command ∈ wsA := mS 47 rfl rfl
set_option maxRecDepth 20000 in
theorem Lv_X8_179 : k_LV RX8 179 yX8_command cX8_command 2 (some .char) 0 := ⟨mA 1066 rfl rfl, lm_X8_command, le_X8_command, li_BarcodeWandModel, lk_X8_command, ly_X8_command⟩
set_option maxRecDepth 20000 in
theorem lk_X8_error : Cond.code yX8_error cX8_error 1 (some .int) ∈ wsA := mA 1065 rfl rfl
theorem ly_X8_error : k_y yX8_error 0 := ⟨by decide +kernel, by decide +kernel, by decide +kernel⟩
set_option maxRecDepth 20000 in
theorem lm_X8_error : Cond.instanceMethod yX8_error ∈ wsA := mA 1064 rfl rfl
theorem le_X8_error : Cond.selects (yX8_error).cls yX8_error yX8_error ∈ wsA := mS 46 rfl rfl
set_option maxRecDepth 20000 in
theorem Lv_X8_183 : k_LV RX8 183 yX8_error cX8_error 1 (some .int) 0 := ⟨mA 1062 rfl rfl, lm_X8_error, le_X8_error, li_BarcodeWandModel, lk_X8_error, ly_X8_error⟩
theorem dX8_readsAndCounts_0 : decode cX8_readsAndCounts 0 = .ok (.aload_n 0, 1) := by decide +kernel
theorem dX8_readsAndCounts_1 : decode cX8_readsAndCounts 1 = .ok (.invokevirtual 119, 3) := by decide +kernel
theorem dX8_readsAndCounts_4 : decode cX8_readsAndCounts 4 = .ok (.aload_n 0, 1) := by decide +kernel
theorem dX8_readsAndCounts_5 : decode cX8_readsAndCounts 5 = .ok (.aload_n 0, 1) := by decide +kernel
theorem dX8_readsAndCounts_6 : decode cX8_readsAndCounts 6 = .ok (.getfield 7, 3) := by decide +kernel
theorem dX8_readsAndCounts_9 : decode cX8_readsAndCounts 9 = .ok (.bipush 93, 2) := by decide +kernel
theorem dX8_readsAndCounts_11 : decode cX8_readsAndCounts 11 = .ok (.iaload, 1) := by decide +kernel
theorem dX8_readsAndCounts_12 : decode cX8_readsAndCounts 12 = .ok (.invokevirtual 122, 3) := by decide +kernel
theorem dX8_readsAndCounts_15 : decode cX8_readsAndCounts 15 = .ok (.istore_n 1, 1) := by decide +kernel
theorem dX8_readsAndCounts_16 : decode cX8_readsAndCounts 16 = .ok (.iload_n 1, 1) := by decide +kernel
theorem dX8_readsAndCounts_17 : decode cX8_readsAndCounts 17 = .ok (.ifCond .le 17, 3) := by decide +kernel
theorem dX8_readsAndCounts_20 : decode cX8_readsAndCounts 20 = .ok (.aload_n 0, 1) := by decide +kernel
theorem dX8_readsAndCounts_21 : decode cX8_readsAndCounts 21 = .ok (.getfield 7, 3) := by decide +kernel
theorem dX8_readsAndCounts_24 : decode cX8_readsAndCounts 24 = .ok (.bipush 126, 2) := by decide +kernel
theorem dX8_readsAndCounts_26 : decode cX8_readsAndCounts 26 = .ok (.dup2, 1) := by decide +kernel
theorem dX8_readsAndCounts_27 : decode cX8_readsAndCounts 27 = .ok (.iaload, 1) := by decide +kernel
theorem dX8_readsAndCounts_28 : decode cX8_readsAndCounts 28 = .ok (.iconst 1, 1) := by decide +kernel
theorem dX8_readsAndCounts_29 : decode cX8_readsAndCounts 29 = .ok (.iadd, 1) := by decide +kernel
theorem dX8_readsAndCounts_30 : decode cX8_readsAndCounts 30 = .ok (.iastore, 1) := by decide +kernel
theorem dX8_readsAndCounts_31 : decode cX8_readsAndCounts 31 = .ok (.goto 18, 3) := by decide +kernel
theorem dX8_readsAndCounts_34 : decode cX8_readsAndCounts 34 = .ok (.aload_n 0, 1) := by decide +kernel
theorem dX8_readsAndCounts_35 : decode cX8_readsAndCounts 35 = .ok (.getfield 7, 3) := by decide +kernel
theorem dX8_readsAndCounts_38 : decode cX8_readsAndCounts 38 = .ok (.bipush 125, 2) := by decide +kernel
theorem dX8_readsAndCounts_40 : decode cX8_readsAndCounts 40 = .ok (.dup2, 1) := by decide +kernel
theorem dX8_readsAndCounts_41 : decode cX8_readsAndCounts 41 = .ok (.iaload, 1) := by decide +kernel
theorem dX8_readsAndCounts_42 : decode cX8_readsAndCounts 42 = .ok (.iconst 1, 1) := by decide +kernel
theorem dX8_readsAndCounts_43 : decode cX8_readsAndCounts 43 = .ok (.iadd, 1) := by decide +kernel
theorem dX8_readsAndCounts_44 : decode cX8_readsAndCounts 44 = .ok (.iastore, 1) := by decide +kernel
theorem dX8_readsAndCounts_45 : decode cX8_readsAndCounts 45 = .ok (.aload_n 0, 1) := by decide +kernel
theorem dX8_readsAndCounts_46 : decode cX8_readsAndCounts 46 = .ok (.invokevirtual 125, 3) := by decide +kernel
theorem dX8_readsAndCounts_49 : decode cX8_readsAndCounts 49 = .ok (.iload_n 1, 1) := by decide +kernel
theorem dX8_readsAndCounts_50 : decode cX8_readsAndCounts 50 = .ok (.ireturn, 1) := by decide +kernel
theorem dX8_read_0 : decode cX8_read 0 = .ok (.aload_n 0, 1) := by decide +kernel
theorem dX8_read_1 : decode cX8_read 1 = .ok (.iconst 0, 1) := by decide +kernel
theorem dX8_read_2 : decode cX8_read 2 = .ok (.putfield 23, 3) := by decide +kernel
theorem dX8_read_5 : decode cX8_read 5 = .ok (.aload_n 0, 1) := by decide +kernel
theorem dX8_read_6 : decode cX8_read 6 = .ok (.invokevirtual 62, 3) := by decide +kernel
theorem dX8_read_9 : decode cX8_read 9 = .ok (.aload_n 0, 1) := by decide +kernel
theorem dX8_read_10 : decode cX8_read 10 = .ok (.invokevirtual 132, 3) := by decide +kernel
theorem dX8_read_13 : decode cX8_read 13 = .ok (.ireturn, 1) := by decide +kernel
theorem dX8_clearMeasurement_0 : decode cX8_clearMeasurement 0 = .ok (.aload_n 0, 1) := by decide +kernel
theorem dX8_clearMeasurement_1 : decode cX8_clearMeasurement 1 = .ok (.iconst 0, 1) := by decide +kernel
theorem dX8_clearMeasurement_2 : decode cX8_clearMeasurement 2 = .ok (.putfield 23, 3) := by decide +kernel
theorem dX8_clearMeasurement_5 : decode cX8_clearMeasurement 5 = .ok (.aload_n 0, 1) := by decide +kernel
theorem dX8_clearMeasurement_6 : decode cX8_clearMeasurement 6 = .ok (.invokevirtual 62, 3) := by decide +kernel
theorem dX8_clearMeasurement_9 : decode cX8_clearMeasurement 9 = .ok (.aload_n 0, 1) := by decide +kernel
theorem dX8_clearMeasurement_10 : decode cX8_clearMeasurement 10 = .ok (.getfield 7, 3) := by decide +kernel
theorem dX8_clearMeasurement_13 : decode cX8_clearMeasurement 13 = .ok (.bipush 51, 2) := by decide +kernel
theorem dX8_clearMeasurement_15 : decode cX8_clearMeasurement 15 = .ok (.iaload, 1) := by decide +kernel
theorem dX8_clearMeasurement_16 : decode cX8_clearMeasurement 16 = .ok (.istore_n 1, 1) := by decide +kernel
theorem dX8_clearMeasurement_17 : decode cX8_clearMeasurement 17 = .ok (.aload_n 0, 1) := by decide +kernel
theorem dX8_clearMeasurement_18 : decode cX8_clearMeasurement 18 = .ok (.getfield 7, 3) := by decide +kernel
theorem dX8_clearMeasurement_21 : decode cX8_clearMeasurement 21 = .ok (.bipush 51, 2) := by decide +kernel
theorem dX8_clearMeasurement_23 : decode cX8_clearMeasurement 23 = .ok (.iconst 0, 1) := by decide +kernel
theorem dX8_clearMeasurement_24 : decode cX8_clearMeasurement 24 = .ok (.iastore, 1) := by decide +kernel
theorem dX8_clearMeasurement_25 : decode cX8_clearMeasurement 25 = .ok (.iload_n 1, 1) := by decide +kernel
theorem dX8_clearMeasurement_26 : decode cX8_clearMeasurement 26 = .ok (.ireturn, 1) := by decide +kernel
theorem dX8_measure_0 : decode cX8_measure 0 = .ok (.aload_n 0, 1) := by decide +kernel
theorem dX8_measure_1 : decode cX8_measure 1 = .ok (.iload_n 1, 1) := by decide +kernel
theorem dX8_measure_2 : decode cX8_measure 2 = .ok (.iconst 1, 1) := by decide +kernel
theorem dX8_measure_3 : decode cX8_measure 3 = .ok (.sipush 9999, 3) := by decide +kernel
theorem dX8_measure_6 : decode cX8_measure 6 = .ok (.invokestatic 46, 3) := by decide +kernel
theorem dX8_measure_9 : decode cX8_measure 9 = .ok (.aload_n 0, 1) := by decide +kernel
theorem dX8_measure_10 : decode cX8_measure 10 = .ok (.getfield 7, 3) := by decide +kernel
theorem dX8_measure_13 : decode cX8_measure 13 = .ok (.bipush 51, 2) := by decide +kernel
theorem dX8_measure_15 : decode cX8_measure 15 = .ok (.iaload, 1) := by decide +kernel
theorem dX8_measure_16 : decode cX8_measure 16 = .ok (.bipush 41, 2) := by decide +kernel
theorem dX8_measure_18 : decode cX8_measure 18 = .ok (.if_icmp .ge 7, 3) := by decide +kernel
theorem dX8_measure_21 : decode cX8_measure 21 = .ok (.iconst 1, 1) := by decide +kernel
theorem dX8_measure_22 : decode cX8_measure 22 = .ok (.goto 4, 3) := by decide +kernel
theorem dX8_measure_25 : decode cX8_measure 25 = .ok (.iconst 0, 1) := by decide +kernel
theorem dX8_measure_26 : decode cX8_measure 26 = .ok (.invokevirtual 58, 3) := by decide +kernel
theorem dX8_measure_29 : decode cX8_measure 29 = .ok (.ifCond .ne 5, 3) := by decide +kernel
theorem dX8_measure_32 : decode cX8_measure 32 = .ok (.iconst 0, 1) := by decide +kernel
theorem dX8_measure_33 : decode cX8_measure 33 = .ok (.ireturn, 1) := by decide +kernel
theorem dX8_measure_34 : decode cX8_measure 34 = .ok (.aload_n 0, 1) := by decide +kernel
theorem dX8_measure_35 : decode cX8_measure 35 = .ok (.invokevirtual 62, 3) := by decide +kernel
theorem dX8_measure_38 : decode cX8_measure 38 = .ok (.aload_n 0, 1) := by decide +kernel
theorem dX8_measure_39 : decode cX8_measure 39 = .ok (.getfield 7, 3) := by decide +kernel
theorem dX8_measure_42 : decode cX8_measure 42 = .ok (.bipush 52, 2) := by decide +kernel
theorem dX8_measure_44 : decode cX8_measure 44 = .ok (.aload_n 0, 1) := by decide +kernel
theorem dX8_measure_45 : decode cX8_measure 45 = .ok (.getfield 7, 3) := by decide +kernel
theorem dX8_measure_48 : decode cX8_measure 48 = .ok (.bipush 51, 2) := by decide +kernel
theorem dX8_measure_50 : decode cX8_measure 50 = .ok (.iaload, 1) := by decide +kernel
theorem dX8_measure_51 : decode cX8_measure 51 = .ok (.iadd, 1) := by decide +kernel
theorem dX8_measure_52 : decode cX8_measure 52 = .ok (.iload_n 1, 1) := by decide +kernel
theorem dX8_measure_53 : decode cX8_measure 53 = .ok (.iastore, 1) := by decide +kernel
theorem dX8_measure_54 : decode cX8_measure 54 = .ok (.aload_n 0, 1) := by decide +kernel
theorem dX8_measure_55 : decode cX8_measure 55 = .ok (.getfield 7, 3) := by decide +kernel
theorem dX8_measure_58 : decode cX8_measure 58 = .ok (.bipush 51, 2) := by decide +kernel
theorem dX8_measure_60 : decode cX8_measure 60 = .ok (.dup2, 1) := by decide +kernel
theorem dX8_measure_61 : decode cX8_measure 61 = .ok (.iaload, 1) := by decide +kernel
theorem dX8_measure_62 : decode cX8_measure 62 = .ok (.iconst 1, 1) := by decide +kernel
theorem dX8_measure_63 : decode cX8_measure 63 = .ok (.iadd, 1) := by decide +kernel
theorem dX8_measure_64 : decode cX8_measure 64 = .ok (.iastore, 1) := by decide +kernel
theorem dX8_measure_65 : decode cX8_measure 65 = .ok (.aload_n 0, 1) := by decide +kernel
theorem dX8_measure_66 : decode cX8_measure 66 = .ok (.getfield 7, 3) := by decide +kernel
theorem dX8_measure_69 : decode cX8_measure 69 = .ok (.bipush 51, 2) := by decide +kernel
theorem dX8_measure_71 : decode cX8_measure 71 = .ok (.iaload, 1) := by decide +kernel
theorem dX8_measure_72 : decode cX8_measure 72 = .ok (.ireturn, 1) := by decide +kernel
theorem dX8_setTolerance_0 : decode cX8_setTolerance 0 = .ok (.aload_n 0, 1) := by decide +kernel
theorem dX8_setTolerance_1 : decode cX8_setTolerance 1 = .ok (.iload_n 1, 1) := by decide +kernel
theorem dX8_setTolerance_2 : decode cX8_setTolerance 2 = .ok (.iconst 1, 1) := by decide +kernel
theorem dX8_setTolerance_3 : decode cX8_setTolerance 3 = .ok (.bipush 8, 2) := by decide +kernel
theorem dX8_setTolerance_5 : decode cX8_setTolerance 5 = .ok (.invokestatic 46, 3) := by decide +kernel
theorem dX8_setTolerance_8 : decode cX8_setTolerance 8 = .ok (.iconst 1, 1) := by decide +kernel
theorem dX8_setTolerance_9 : decode cX8_setTolerance 9 = .ok (.invokevirtual 58, 3) := by decide +kernel
theorem dX8_setTolerance_12 : decode cX8_setTolerance 12 = .ok (.ifCond .ne 5, 3) := by decide +kernel
theorem dX8_setTolerance_15 : decode cX8_setTolerance 15 = .ok (.iconst 0, 1) := by decide +kernel
theorem dX8_setTolerance_16 : decode cX8_setTolerance 16 = .ok (.ireturn, 1) := by decide +kernel
theorem dX8_setTolerance_17 : decode cX8_setTolerance 17 = .ok (.aload_n 0, 1) := by decide +kernel
theorem dX8_setTolerance_18 : decode cX8_setTolerance 18 = .ok (.invokevirtual 62, 3) := by decide +kernel
theorem dX8_setTolerance_21 : decode cX8_setTolerance 21 = .ok (.aload_n 0, 1) := by decide +kernel
theorem dX8_setTolerance_22 : decode cX8_setTolerance 22 = .ok (.getfield 7, 3) := by decide +kernel
theorem dX8_setTolerance_25 : decode cX8_setTolerance 25 = .ok (.bipush 93, 2) := by decide +kernel
theorem dX8_setTolerance_27 : decode cX8_setTolerance 27 = .ok (.iaload, 1) := by decide +kernel
theorem dX8_setTolerance_28 : decode cX8_setTolerance 28 = .ok (.istore_n 2, 1) := by decide +kernel
theorem dX8_setTolerance_29 : decode cX8_setTolerance 29 = .ok (.aload_n 0, 1) := by decide +kernel
theorem dX8_setTolerance_30 : decode cX8_setTolerance 30 = .ok (.getfield 7, 3) := by decide +kernel
theorem dX8_setTolerance_33 : decode cX8_setTolerance 33 = .ok (.bipush 93, 2) := by decide +kernel
theorem dX8_setTolerance_35 : decode cX8_setTolerance 35 = .ok (.iload_n 1, 1) := by decide +kernel
theorem dX8_setTolerance_36 : decode cX8_setTolerance 36 = .ok (.iastore, 1) := by decide +kernel
theorem dX8_setTolerance_37 : decode cX8_setTolerance 37 = .ok (.iload_n 2, 1) := by decide +kernel
theorem dX8_setTolerance_38 : decode cX8_setTolerance 38 = .ok (.ireturn, 1) := by decide +kernel
theorem dX8_append_0 : decode cX8_append 0 = .ok (.aload_n 0, 1) := by decide +kernel
theorem dX8_append_1 : decode cX8_append 1 = .ok (.iload_n 1, 1) := by decide +kernel
theorem dX8_append_2 : decode cX8_append 2 = .ok (.bipush 33, 2) := by decide +kernel
theorem dX8_append_4 : decode cX8_append 4 = .ok (.bipush 126, 2) := by decide +kernel
theorem dX8_append_6 : decode cX8_append 6 = .ok (.invokestatic 46, 3) := by decide +kernel
theorem dX8_append_9 : decode cX8_append 9 = .ok (.aload_n 0, 1) := by decide +kernel
theorem dX8_append_10 : decode cX8_append 10 = .ok (.getfield 147, 3) := by decide +kernel
theorem dX8_append_13 : decode cX8_append 13 = .ok (.bipush 60, 2) := by decide +kernel
theorem dX8_append_15 : decode cX8_append 15 = .ok (.if_icmp .ge 7, 3) := by decide +kernel
theorem dX8_append_18 : decode cX8_append 18 = .ok (.iconst 1, 1) := by decide +kernel
theorem dX8_append_19 : decode cX8_append 19 = .ok (.goto 4, 3) := by decide +kernel
theorem dX8_append_22 : decode cX8_append 22 = .ok (.iconst 0, 1) := by decide +kernel
theorem dX8_append_23 : decode cX8_append 23 = .ok (.invokevirtual 58, 3) := by decide +kernel
theorem dX8_append_26 : decode cX8_append 26 = .ok (.ifCond .ne 5, 3) := by decide +kernel
theorem dX8_append_29 : decode cX8_append 29 = .ok (.iconst 0, 1) := by decide +kernel
theorem dX8_append_30 : decode cX8_append 30 = .ok (.ireturn, 1) := by decide +kernel
theorem dX8_append_31 : decode cX8_append 31 = .ok (.aload_n 0, 1) := by decide +kernel
theorem dX8_append_32 : decode cX8_append 32 = .ok (.getfield 13, 3) := by decide +kernel
theorem dX8_append_35 : decode cX8_append 35 = .ok (.aload_n 0, 1) := by decide +kernel
theorem dX8_append_36 : decode cX8_append 36 = .ok (.getfield 147, 3) := by decide +kernel
theorem dX8_append_39 : decode cX8_append 39 = .ok (.iload_n 1, 1) := by decide +kernel
theorem dX8_append_40 : decode cX8_append 40 = .ok (.i2c, 1) := by decide +kernel
theorem dX8_append_41 : decode cX8_append 41 = .ok (.castore, 1) := by decide +kernel
theorem dX8_append_42 : decode cX8_append 42 = .ok (.aload_n 0, 1) := by decide +kernel
theorem dX8_append_43 : decode cX8_append 43 = .ok (.dup, 1) := by decide +kernel
theorem dX8_append_44 : decode cX8_append 44 = .ok (.getfield 147, 3) := by decide +kernel
theorem dX8_append_47 : decode cX8_append 47 = .ok (.iconst 1, 1) := by decide +kernel
theorem dX8_append_48 : decode cX8_append 48 = .ok (.iadd, 1) := by decide +kernel
theorem dX8_append_49 : decode cX8_append 49 = .ok (.putfield 147, 3) := by decide +kernel
theorem dX8_append_52 : decode cX8_append 52 = .ok (.aload_n 0, 1) := by decide +kernel
theorem dX8_append_53 : decode cX8_append 53 = .ok (.getfield 147, 3) := by decide +kernel
theorem dX8_append_56 : decode cX8_append 56 = .ok (.ireturn, 1) := by decide +kernel
theorem dX8_digit_0 : decode cX8_digit 0 = .ok (.aload_n 0, 1) := by decide +kernel
theorem dX8_digit_1 : decode cX8_digit 1 = .ok (.iload_n 1, 1) := by decide +kernel
theorem dX8_digit_2 : decode cX8_digit 2 = .ok (.iconst 0, 1) := by decide +kernel
theorem dX8_digit_3 : decode cX8_digit 3 = .ok (.bipush 8, 2) := by decide +kernel
theorem dX8_digit_5 : decode cX8_digit 5 = .ok (.invokestatic 46, 3) := by decide +kernel
theorem dX8_digit_8 : decode cX8_digit 8 = .ok (.iconst 1, 1) := by decide +kernel
theorem dX8_digit_9 : decode cX8_digit 9 = .ok (.invokevirtual 58, 3) := by decide +kernel
theorem dX8_digit_12 : decode cX8_digit 12 = .ok (.ifCond .ne 5, 3) := by decide +kernel
theorem dX8_digit_15 : decode cX8_digit 15 = .ok (.iconst 0, 1) := by decide +kernel
theorem dX8_digit_16 : decode cX8_digit 16 = .ok (.ireturn, 1) := by decide +kernel
theorem dX8_digit_17 : decode cX8_digit 17 = .ok (.aload_n 0, 1) := by decide +kernel
theorem dX8_digit_18 : decode cX8_digit 18 = .ok (.invokevirtual 119, 3) := by decide +kernel
theorem dX8_digit_21 : decode cX8_digit 21 = .ok (.aload_n 0, 1) := by decide +kernel
theorem dX8_digit_22 : decode cX8_digit 22 = .ok (.aload_n 0, 1) := by decide +kernel
theorem dX8_digit_23 : decode cX8_digit 23 = .ok (.getfield 7, 3) := by decide +kernel
theorem dX8_digit_26 : decode cX8_digit 26 = .ok (.bipush 93, 2) := by decide +kernel
theorem dX8_digit_28 : decode cX8_digit 28 = .ok (.iaload, 1) := by decide +kernel
theorem dX8_digit_29 : decode cX8_digit 29 = .ok (.invokevirtual 122, 3) := by decide +kernel
theorem dX8_digit_32 : decode cX8_digit 32 = .ok (.istore_n 2, 1) := by decide +kernel
theorem dX8_digit_33 : decode cX8_digit 33 = .ok (.iload_n 2, 1) := by decide +kernel
theorem dX8_digit_34 : decode cX8_digit 34 = .ok (.ifCond .gt 11, 3) := by decide +kernel
theorem dX8_digit_37 : decode cX8_digit 37 = .ok (.iload_n 1, 1) := by decide +kernel
theorem dX8_digit_38 : decode cX8_digit 38 = .ok (.aload_n 0, 1) := by decide +kernel
theorem dX8_digit_39 : decode cX8_digit 39 = .ok (.getfield 98, 3) := by decide +kernel
theorem dX8_digit_42 : decode cX8_digit 42 = .ok (.if_icmp .lt 7, 3) := by decide +kernel
theorem dX8_digit_45 : decode cX8_digit 45 = .ok (.iconst (-1), 1) := by decide +kernel
theorem dX8_digit_46 : decode cX8_digit 46 = .ok (.goto 9, 3) := by decide +kernel
theorem dX8_digit_49 : decode cX8_digit 49 = .ok (.aload_n 0, 1) := by decide +kernel
theorem dX8_digit_50 : decode cX8_digit 50 = .ok (.getfield 20, 3) := by decide +kernel
theorem dX8_digit_53 : decode cX8_digit 53 = .ok (.iload_n 1, 1) := by decide +kernel
theorem dX8_digit_54 : decode cX8_digit 54 = .ok (.iaload, 1) := by decide +kernel
theorem dX8_digit_55 : decode cX8_digit 55 = .ok (.ireturn, 1) := by decide +kernel
theorem dX8_arePeriods_0 : decode cX8_arePeriods 0 = .ok (.iload_n 0, 1) := by decide +kernel
theorem dX8_arePeriods_1 : decode cX8_arePeriods 1 = .ok (.iconst 1, 1) := by decide +kernel
theorem dX8_arePeriods_2 : decode cX8_arePeriods 2 = .ok (.bipush 50, 2) := by decide +kernel
theorem dX8_arePeriods_4 : decode cX8_arePeriods 4 = .ok (.invokestatic 46, 3) := by decide +kernel
theorem dX8_arePeriods_7 : decode cX8_arePeriods 7 = .ok (.ifCond .eq 17, 3) := by decide +kernel
theorem dX8_arePeriods_10 : decode cX8_arePeriods 10 = .ok (.iload_n 1, 1) := by decide +kernel
theorem dX8_arePeriods_11 : decode cX8_arePeriods 11 = .ok (.iconst 1, 1) := by decide +kernel
theorem dX8_arePeriods_12 : decode cX8_arePeriods 12 = .ok (.bipush 50, 2) := by decide +kernel
theorem dX8_arePeriods_14 : decode cX8_arePeriods 14 = .ok (.invokestatic 46, 3) := by decide +kernel
theorem dX8_arePeriods_17 : decode cX8_arePeriods 17 = .ok (.ifCond .eq 7, 3) := by decide +kernel
theorem dX8_arePeriods_20 : decode cX8_arePeriods 20 = .ok (.iconst 1, 1) := by decide +kernel
theorem dX8_arePeriods_21 : decode cX8_arePeriods 21 = .ok (.goto 4, 3) := by decide +kernel
theorem dX8_arePeriods_24 : decode cX8_arePeriods 24 = .ok (.iconst 0, 1) := by decide +kernel
theorem dX8_arePeriods_25 : decode cX8_arePeriods 25 = .ok (.ireturn, 1) := by decide +kernel
theorem dX8_draw_0 : decode cX8_draw 0 = .ok (.aload_n 0, 1) := by decide +kernel
theorem dX8_draw_1 : decode cX8_draw 1 = .ok (.iload_n 1, 1) := by decide +kernel
theorem dX8_draw_2 : decode cX8_draw 2 = .ok (.iload_n 2, 1) := by decide +kernel
theorem dX8_draw_3 : decode cX8_draw 3 = .ok (.invokestatic 135, 3) := by decide +kernel
theorem dX8_draw_6 : decode cX8_draw 6 = .ok (.aload_n 0, 1) := by decide +kernel
theorem dX8_draw_7 : decode cX8_draw 7 = .ok (.getfield 7, 3) := by decide +kernel
theorem dX8_draw_10 : decode cX8_draw 10 = .ok (.iconst 0, 1) := by decide +kernel
theorem dX8_draw_11 : decode cX8_draw 11 = .ok (.iaload, 1) := by decide +kernel
theorem dX8_draw_12 : decode cX8_draw 12 = .ok (.ifCond .le 7, 3) := by decide +kernel
theorem dX8_draw_15 : decode cX8_draw 15 = .ok (.iconst 1, 1) := by decide +kernel
theorem dX8_draw_16 : decode cX8_draw 16 = .ok (.goto 4, 3) := by decide +kernel
theorem dX8_draw_19 : decode cX8_draw 19 = .ok (.iconst 0, 1) := by decide +kernel
theorem dX8_draw_20 : decode cX8_draw 20 = .ok (.invokevirtual 58, 3) := by decide +kernel
theorem dX8_draw_23 : decode cX8_draw 23 = .ok (.ifCond .ne 5, 3) := by decide +kernel
theorem dX8_draw_26 : decode cX8_draw 26 = .ok (.iconst 0, 1) := by decide +kernel
theorem dX8_draw_27 : decode cX8_draw 27 = .ok (.ireturn, 1) := by decide +kernel
theorem dX8_draw_28 : decode cX8_draw 28 = .ok (.aload_n 0, 1) := by decide +kernel
theorem dX8_draw_29 : decode cX8_draw 29 = .ok (.invokevirtual 62, 3) := by decide +kernel
theorem dX8_draw_32 : decode cX8_draw 32 = .ok (.aload_n 0, 1) := by decide +kernel
theorem dX8_draw_33 : decode cX8_draw 33 = .ok (.iload_n 1, 1) := by decide +kernel
theorem dX8_draw_34 : decode cX8_draw 34 = .ok (.iload_n 2, 1) := by decide +kernel
theorem dX8_draw_35 : decode cX8_draw 35 = .ok (.iload_n 3, 1) := by decide +kernel
theorem dX8_draw_36 : decode cX8_draw 36 = .ok (.invokevirtual 138, 3) := by decide +kernel
theorem dX8_draw_39 : decode cX8_draw 39 = .ok (.ireturn, 1) := by decide +kernel
theorem dX8_ifDrawn_0 : decode cX8_ifDrawn 0 = .ok (.aload_n 0, 1) := by decide +kernel
theorem dX8_ifDrawn_1 : decode cX8_ifDrawn 1 = .ok (.iload_n 1, 1) := by decide +kernel
theorem dX8_ifDrawn_2 : decode cX8_ifDrawn 2 = .ok (.iload_n 2, 1) := by decide +kernel
theorem dX8_ifDrawn_3 : decode cX8_ifDrawn 3 = .ok (.invokestatic 135, 3) := by decide +kernel
theorem dX8_ifDrawn_6 : decode cX8_ifDrawn 6 = .ok (.aload_n 0, 1) := by decide +kernel
theorem dX8_ifDrawn_7 : decode cX8_ifDrawn 7 = .ok (.getfield 7, 3) := by decide +kernel
theorem dX8_ifDrawn_10 : decode cX8_ifDrawn 10 = .ok (.iconst 0, 1) := by decide +kernel
theorem dX8_ifDrawn_11 : decode cX8_ifDrawn 11 = .ok (.iaload, 1) := by decide +kernel
theorem dX8_ifDrawn_12 : decode cX8_ifDrawn 12 = .ok (.ifCond .le 7, 3) := by decide +kernel
theorem dX8_ifDrawn_15 : decode cX8_ifDrawn 15 = .ok (.iconst 1, 1) := by decide +kernel
theorem dX8_ifDrawn_16 : decode cX8_ifDrawn 16 = .ok (.goto 4, 3) := by decide +kernel
theorem dX8_ifDrawn_19 : decode cX8_ifDrawn 19 = .ok (.iconst 0, 1) := by decide +kernel
theorem dX8_ifDrawn_20 : decode cX8_ifDrawn 20 = .ok (.invokevirtual 58, 3) := by decide +kernel
theorem dX8_ifDrawn_23 : decode cX8_ifDrawn 23 = .ok (.ifCond .ne 5, 3) := by decide +kernel
theorem dX8_ifDrawn_26 : decode cX8_ifDrawn 26 = .ok (.iconst 0, 1) := by decide +kernel
theorem dX8_ifDrawn_27 : decode cX8_ifDrawn 27 = .ok (.ireturn, 1) := by decide +kernel
theorem dX8_ifDrawn_28 : decode cX8_ifDrawn 28 = .ok (.aload_n 0, 1) := by decide +kernel
theorem dX8_ifDrawn_29 : decode cX8_ifDrawn 29 = .ok (.iload_n 1, 1) := by decide +kernel
theorem dX8_ifDrawn_30 : decode cX8_ifDrawn 30 = .ok (.iload_n 2, 1) := by decide +kernel
theorem dX8_ifDrawn_31 : decode cX8_ifDrawn 31 = .ok (.iload_n 3, 1) := by decide +kernel
theorem dX8_ifDrawn_32 : decode cX8_ifDrawn 32 = .ok (.invokevirtual 128, 3) := by decide +kernel
theorem dX8_ifDrawn_35 : decode cX8_ifDrawn 35 = .ok (.aload_n 0, 1) := by decide +kernel
theorem dX8_ifDrawn_36 : decode cX8_ifDrawn 36 = .ok (.aload_n 0, 1) := by decide +kernel
theorem dX8_ifDrawn_37 : decode cX8_ifDrawn 37 = .ok (.getfield 7, 3) := by decide +kernel
theorem dX8_ifDrawn_40 : decode cX8_ifDrawn 40 = .ok (.bipush 93, 2) := by decide +kernel
theorem dX8_ifDrawn_42 : decode cX8_ifDrawn 42 = .ok (.iaload, 1) := by decide +kernel
theorem dX8_ifDrawn_43 : decode cX8_ifDrawn 43 = .ok (.invokevirtual 122, 3) := by decide +kernel
theorem dX8_ifDrawn_46 : decode cX8_ifDrawn 46 = .ok (.ireturn, 1) := by decide +kernel
theorem dX8_smudge_0 : decode cX8_smudge 0 = .ok (.aload_n 0, 1) := by decide +kernel
theorem dX8_smudge_1 : decode cX8_smudge 1 = .ok (.aload_n 0, 1) := by decide +kernel
theorem dX8_smudge_2 : decode cX8_smudge 2 = .ok (.iload_n 1, 1) := by decide +kernel
theorem dX8_smudge_3 : decode cX8_smudge 3 = .ok (.invokevirtual 68, 3) := by decide +kernel
theorem dX8_smudge_6 : decode cX8_smudge 6 = .ok (.iload_n 2, 1) := by decide +kernel
theorem dX8_smudge_7 : decode cX8_smudge 7 = .ok (.bipush (-9), 2) := by decide +kernel
theorem dX8_smudge_9 : decode cX8_smudge 9 = .ok (.bipush 9, 2) := by decide +kernel
theorem dX8_smudge_11 : decode cX8_smudge 11 = .ok (.invokestatic 46, 3) := by decide +kernel
theorem dX8_smudge_14 : decode cX8_smudge 14 = .ok (.invokevirtual 58, 3) := by decide +kernel
theorem dX8_smudge_17 : decode cX8_smudge 17 = .ok (.ifCond .ne 5, 3) := by decide +kernel
theorem dX8_smudge_20 : decode cX8_smudge 20 = .ok (.iconst 0, 1) := by decide +kernel
theorem dX8_smudge_21 : decode cX8_smudge 21 = .ok (.ireturn, 1) := by decide +kernel
theorem dX8_smudge_22 : decode cX8_smudge 22 = .ok (.aload_n 0, 1) := by decide +kernel
theorem dX8_smudge_23 : decode cX8_smudge 23 = .ok (.invokevirtual 62, 3) := by decide +kernel
theorem dX8_smudge_26 : decode cX8_smudge 26 = .ok (.aload_n 0, 1) := by decide +kernel
theorem dX8_smudge_27 : decode cX8_smudge 27 = .ok (.iload_n 1, 1) := by decide +kernel
theorem dX8_smudge_28 : decode cX8_smudge 28 = .ok (.iload_n 2, 1) := by decide +kernel
theorem dX8_smudge_29 : decode cX8_smudge 29 = .ok (.invokevirtual 72, 3) := by decide +kernel
theorem dX8_smudge_32 : decode cX8_smudge 32 = .ok (.ireturn, 1) := by decide +kernel
theorem dX8_command_0 : decode cX8_command 0 = .ok (.aload_n 0, 1) := by decide +kernel
theorem dX8_command_1 : decode cX8_command 1 = .ok (.getfield 150, 3) := by decide +kernel
theorem dX8_command_4 : decode cX8_command 4 = .ok (.aload_n 0, 1) := by decide +kernel
theorem dX8_command_5 : decode cX8_command 5 = .ok (.getfield 147, 3) := by decide +kernel
theorem dX8_command_8 : decode cX8_command 8 = .ok (.if_icmp .ge 15, 3) := by decide +kernel
theorem dX8_command_11 : decode cX8_command 11 = .ok (.aload_n 0, 1) := by decide +kernel
theorem dX8_command_12 : decode cX8_command 12 = .ok (.getfield 13, 3) := by decide +kernel
theorem dX8_command_15 : decode cX8_command 15 = .ok (.aload_n 0, 1) := by decide +kernel
theorem dX8_command_16 : decode cX8_command 16 = .ok (.getfield 150, 3) := by decide +kernel
theorem dX8_command_19 : decode cX8_command 19 = .ok (.caload, 1) := by decide +kernel
theorem dX8_command_20 : decode cX8_command 20 = .ok (.goto 5, 3) := by decide +kernel
theorem dX8_command_23 : decode cX8_command 23 = .ok (.bipush 32, 2) := by decide +kernel
theorem dX8_command_25 : decode cX8_command 25 = .ok (.istore_n 1, 1) := by decide +kernel
theorem dX8_command_26 : decode cX8_command 26 = .ok (.aload_n 0, 1) := by decide +kernel
theorem dX8_command_27 : decode cX8_command 27 = .ok (.dup, 1) := by decide +kernel
theorem dX8_command_28 : decode cX8_command 28 = .ok (.getfield 150, 3) := by decide +kernel
theorem dX8_command_31 : decode cX8_command 31 = .ok (.iconst 1, 1) := by decide +kernel
theorem dX8_command_32 : decode cX8_command 32 = .ok (.iadd, 1) := by decide +kernel
theorem dX8_command_33 : decode cX8_command 33 = .ok (.putfield 150, 3) := by decide +kernel
theorem dX8_command_36 : decode cX8_command 36 = .ok (.iload_n 1, 1) := by decide +kernel
theorem dX8_command_37 : decode cX8_command 37 = .ok (.lookupswitch 85 #[(98, 71), (100, 71), (112, 43), (115, 57)], 43) := by decide +kernel
theorem dX8_command_80 : decode cX8_command 80 = .ok (.aload_n 0, 1) := by decide +kernel
theorem dX8_command_81 : decode cX8_command 81 = .ok (.invokevirtual 169, 3) := by decide +kernel
theorem dX8_command_84 : decode cX8_command 84 = .ok (.ifCond .eq 7, 3) := by decide +kernel
theorem dX8_command_87 : decode cX8_command 87 = .ok (.iload_n 1, 1) := by decide +kernel
theorem dX8_command_88 : decode cX8_command 88 = .ok (.goto 5, 3) := by decide +kernel
theorem dX8_command_91 : decode cX8_command 91 = .ok (.bipush 32, 2) := by decide +kernel
theorem dX8_command_93 : decode cX8_command 93 = .ok (.ireturn, 1) := by decide +kernel
theorem dX8_command_94 : decode cX8_command 94 = .ok (.aload_n 0, 1) := by decide +kernel
theorem dX8_command_95 : decode cX8_command 95 = .ok (.invokevirtual 173, 3) := by decide +kernel
theorem dX8_command_98 : decode cX8_command 98 = .ok (.ifCond .eq 7, 3) := by decide +kernel
theorem dX8_command_101 : decode cX8_command 101 = .ok (.iload_n 1, 1) := by decide +kernel
theorem dX8_command_102 : decode cX8_command 102 = .ok (.goto 5, 3) := by decide +kernel
theorem dX8_command_105 : decode cX8_command 105 = .ok (.bipush 32, 2) := by decide +kernel
theorem dX8_command_107 : decode cX8_command 107 = .ok (.ireturn, 1) := by decide +kernel
theorem dX8_command_108 : decode cX8_command 108 = .ok (.aload_n 0, 1) := by decide +kernel
theorem dX8_command_109 : decode cX8_command 109 = .ok (.invokevirtual 176, 3) := by decide +kernel
theorem dX8_command_112 : decode cX8_command 112 = .ok (.ifCond .eq 7, 3) := by decide +kernel
theorem dX8_command_115 : decode cX8_command 115 = .ok (.iload_n 1, 1) := by decide +kernel
theorem dX8_command_116 : decode cX8_command 116 = .ok (.goto 5, 3) := by decide +kernel
theorem dX8_command_119 : decode cX8_command 119 = .ok (.bipush 32, 2) := by decide +kernel
theorem dX8_command_121 : decode cX8_command 121 = .ok (.ireturn, 1) := by decide +kernel
theorem dX8_command_122 : decode cX8_command 122 = .ok (.aload_n 0, 1) := by decide +kernel
theorem dX8_command_123 : decode cX8_command 123 = .ok (.dup, 1) := by decide +kernel
theorem dX8_command_124 : decode cX8_command 124 = .ok (.getfield 150, 3) := by decide +kernel
theorem dX8_command_127 : decode cX8_command 127 = .ok (.iconst 1, 1) := by decide +kernel
theorem dX8_command_128 : decode cX8_command 128 = .ok (.isub, 1) := by decide +kernel
theorem dX8_command_129 : decode cX8_command 129 = .ok (.putfield 150, 3) := by decide +kernel
theorem dX8_command_132 : decode cX8_command 132 = .ok (.bipush 32, 2) := by decide +kernel
theorem dX8_command_134 : decode cX8_command 134 = .ok (.ireturn, 1) := by decide +kernel
theorem dX8_error_0 : decode cX8_error 0 = .ok (.aload_n 0, 1) := by decide +kernel
theorem dX8_error_1 : decode cX8_error 1 = .ok (.iconst 0, 1) := by decide +kernel
theorem dX8_error_2 : decode cX8_error 2 = .ok (.putfield 150, 3) := by decide +kernel
theorem dX8_error_5 : decode cX8_error 5 = .ok (.aload_n 0, 1) := by decide +kernel
theorem dX8_error_6 : decode cX8_error 6 = .ok (.invokevirtual 179, 3) := by decide +kernel
theorem dX8_error_9 : decode cX8_error 9 = .ok (.bipush 32, 2) := by decide +kernel
theorem dX8_error_11 : decode cX8_error 11 = .ok (.if_icmp .eq 30, 3) := by decide +kernel
theorem dX8_error_14 : decode cX8_error 14 = .ok (.aload_n 0, 1) := by decide +kernel
theorem dX8_error_15 : decode cX8_error 15 = .ok (.getfield 150, 3) := by decide +kernel
theorem dX8_error_18 : decode cX8_error 18 = .ok (.aload_n 0, 1) := by decide +kernel
theorem dX8_error_19 : decode cX8_error 19 = .ok (.getfield 147, 3) := by decide +kernel
theorem dX8_error_22 : decode cX8_error 22 = .ok (.if_icmp .ne 5, 3) := by decide +kernel
theorem dX8_error_25 : decode cX8_error 25 = .ok (.iconst (-1), 1) := by decide +kernel
theorem dX8_error_26 : decode cX8_error 26 = .ok (.ireturn, 1) := by decide +kernel
theorem dX8_error_27 : decode cX8_error 27 = .ok (.aload_n 0, 1) := by decide +kernel
theorem dX8_error_28 : decode cX8_error 28 = .ok (.bipush 59, 2) := by decide +kernel
theorem dX8_error_30 : decode cX8_error 30 = .ok (.invokevirtual 165, 3) := by decide +kernel
theorem dX8_error_33 : decode cX8_error 33 = .ok (.ifCond .ne (-28), 3) := by decide +kernel
theorem dX8_error_36 : decode cX8_error 36 = .ok (.aload_n 0, 1) := by decide +kernel
theorem dX8_error_37 : decode cX8_error 37 = .ok (.getfield 150, 3) := by decide +kernel
theorem dX8_error_40 : decode cX8_error 40 = .ok (.ireturn, 1) := by decide +kernel
theorem dX8_error_41 : decode cX8_error 41 = .ok (.aload_n 0, 1) := by decide +kernel
theorem dX8_error_42 : decode cX8_error 42 = .ok (.getfield 150, 3) := by decide +kernel
theorem dX8_error_45 : decode cX8_error 45 = .ok (.ireturn, 1) := by decide +kernel
theorem dX8_firstError_0 : decode cX8_firstError 0 = .ok (.aload_n 0, 1) := by decide +kernel
theorem dX8_firstError_1 : decode cX8_firstError 1 = .ok (.iconst 0, 1) := by decide +kernel
theorem dX8_firstError_2 : decode cX8_firstError 2 = .ok (.putfield 23, 3) := by decide +kernel
theorem dX8_firstError_5 : decode cX8_firstError 5 = .ok (.aload_n 0, 1) := by decide +kernel
theorem dX8_firstError_6 : decode cX8_firstError 6 = .ok (.invokevirtual 183, 3) := by decide +kernel
theorem dX8_firstError_9 : decode cX8_firstError 9 = .ok (.istore_n 1, 1) := by decide +kernel
theorem dX8_firstError_10 : decode cX8_firstError 10 = .ok (.iload_n 1, 1) := by decide +kernel
theorem dX8_firstError_11 : decode cX8_firstError 11 = .ok (.iconst (-1), 1) := by decide +kernel
theorem dX8_firstError_12 : decode cX8_firstError 12 = .ok (.if_icmp .ne 10, 3) := by decide +kernel
theorem dX8_firstError_15 : decode cX8_firstError 15 = .ok (.aload_n 0, 1) := by decide +kernel
theorem dX8_firstError_16 : decode cX8_firstError 16 = .ok (.getfield 147, 3) := by decide +kernel
theorem dX8_firstError_19 : decode cX8_firstError 19 = .ok (.goto 4, 3) := by decide +kernel
theorem dX8_firstError_22 : decode cX8_firstError 22 = .ok (.iload_n 1, 1) := by decide +kernel
theorem dX8_firstError_23 : decode cX8_firstError 23 = .ok (.ireturn, 1) := by decide +kernel
theorem dX8_run_0 : decode cX8_run 0 = .ok (.aload_n 0, 1) := by decide +kernel
theorem dX8_run_1 : decode cX8_run 1 = .ok (.aload_n 0, 1) := by decide +kernel
theorem dX8_run_2 : decode cX8_run 2 = .ok (.invokevirtual 183, 3) := by decide +kernel
theorem dX8_run_5 : decode cX8_run 5 = .ok (.iconst (-1), 1) := by decide +kernel
theorem dX8_run_6 : decode cX8_run 6 = .ok (.if_icmp .ne 7, 3) := by decide +kernel
theorem dX8_run_9 : decode cX8_run 9 = .ok (.iconst 1, 1) := by decide +kernel
theorem dX8_run_10 : decode cX8_run 10 = .ok (.goto 4, 3) := by decide +kernel
theorem dX8_run_13 : decode cX8_run 13 = .ok (.iconst 0, 1) := by decide +kernel
theorem dX8_run_14 : decode cX8_run 14 = .ok (.iconst 1, 1) := by decide +kernel
theorem dX8_run_15 : decode cX8_run 15 = .ok (.invokevirtual 58, 3) := by decide +kernel
theorem dX8_run_18 : decode cX8_run 18 = .ok (.ifCond .ne 5, 3) := by decide +kernel
theorem dX8_run_21 : decode cX8_run 21 = .ok (.iconst 0, 1) := by decide +kernel
theorem dX8_run_22 : decode cX8_run 22 = .ok (.ireturn, 1) := by decide +kernel
theorem dX8_run_23 : decode cX8_run 23 = .ok (.aload_n 0, 1) := by decide +kernel
theorem dX8_run_24 : decode cX8_run 24 = .ok (.invokevirtual 62, 3) := by decide +kernel
theorem dX8_run_27 : decode cX8_run 27 = .ok (.aload_n 0, 1) := by decide +kernel
theorem dX8_run_28 : decode cX8_run 28 = .ok (.iconst 0, 1) := by decide +kernel
theorem dX8_run_29 : decode cX8_run 29 = .ok (.putfield 150, 3) := by decide +kernel
theorem dX8_run_32 : decode cX8_run 32 = .ok (.iconst 0, 1) := by decide +kernel
theorem dX8_run_33 : decode cX8_run 33 = .ok (.istore_n 1, 1) := by decide +kernel
theorem dX8_run_34 : decode cX8_run 34 = .ok (.iconst 1, 1) := by decide +kernel
theorem dX8_run_35 : decode cX8_run 35 = .ok (.istore_n 2, 1) := by decide +kernel
theorem dX8_run_36 : decode cX8_run 36 = .ok (.iload_n 2, 1) := by decide +kernel
theorem dX8_run_37 : decode cX8_run 37 = .ok (.ifCond .eq 36, 3) := by decide +kernel
theorem dX8_run_40 : decode cX8_run 40 = .ok (.aload_n 0, 1) := by decide +kernel
theorem dX8_run_41 : decode cX8_run 41 = .ok (.invokevirtual 179, 3) := by decide +kernel
theorem dX8_run_44 : decode cX8_run 44 = .ok (.istore_n 3, 1) := by decide +kernel
theorem dX8_run_45 : decode cX8_run 45 = .ok (.aload_n 0, 1) := by decide +kernel
theorem dX8_run_46 : decode cX8_run 46 = .ok (.iload_n 3, 1) := by decide +kernel
theorem dX8_run_47 : decode cX8_run 47 = .ok (.invokevirtual 186, 3) := by decide +kernel
theorem dX8_run_50 : decode cX8_run 50 = .ok (.istore_n 2, 1) := by decide +kernel
theorem dX8_run_51 : decode cX8_run 51 = .ok (.iload_n 2, 1) := by decide +kernel
theorem dX8_run_52 : decode cX8_run 52 = .ok (.ifCond .eq 18, 3) := by decide +kernel
theorem dX8_run_55 : decode cX8_run 55 = .ok (.aload_n 0, 1) := by decide +kernel
theorem dX8_run_56 : decode cX8_run 56 = .ok (.iload_n 3, 1) := by decide +kernel
theorem dX8_run_57 : decode cX8_run 57 = .ok (.invokevirtual 189, 3) := by decide +kernel
theorem dX8_run_60 : decode cX8_run 60 = .ok (.iinc 1 1, 3) := by decide +kernel
theorem dX8_run_63 : decode cX8_run 63 = .ok (.aload_n 0, 1) := by decide +kernel
theorem dX8_run_64 : decode cX8_run 64 = .ok (.bipush 59, 2) := by decide +kernel
theorem dX8_run_66 : decode cX8_run 66 = .ok (.invokevirtual 165, 3) := by decide +kernel
theorem dX8_run_69 : decode cX8_run 69 = .ok (.istore_n 2, 1) := by decide +kernel
theorem dX8_run_70 : decode cX8_run 70 = .ok (.goto (-34), 3) := by decide +kernel
theorem dX8_run_73 : decode cX8_run 73 = .ok (.aload_n 0, 1) := by decide +kernel
theorem dX8_run_74 : decode cX8_run 74 = .ok (.iconst 0, 1) := by decide +kernel
theorem dX8_run_75 : decode cX8_run 75 = .ok (.putfield 147, 3) := by decide +kernel
theorem dX8_run_78 : decode cX8_run 78 = .ok (.iload_n 1, 1) := by decide +kernel
theorem dX8_run_79 : decode cX8_run 79 = .ok (.ireturn, 1) := by decide +kernel
set_option maxHeartbeats 4000000 in
set_option maxRecDepth 100000 in
theorem c_M_readCount (l : Launch) (D : va_G) (mo : Nat) (ms : Nat) (sv : Int32) (mb : Nat) (th : Int32) (mk : Nat) (ml : Int32) (mfd : Nat) (mf : Int32) (sp : Int32) (on : Int32) (tw : Int32) (K : ClassId) (sf : Nat → Int32) (hs0 : sf 0 = 0) (hs51 : sf 51 = 0) (hs93 : sf 93 = 4) (hs94 : sf 94 = 0) (hs125 : sf 125 = 0) (hs126 : sf 126 = 0) (sz : Nat) : k_Mi (S := Nat → Int32) l D yX8_readsAndCounts cX8_readsAndCounts 2 (some .int) 3 0 0 68 [.ref mo] [(mo, .inr (8, [.ref ms, .int sv, .ref mb, .int 0, .int th, .ref mk, .int ml, .ref mfd, .int mf, .int sp, .int on, .int tw])), (ms, .inl (K, 889, .inl sf))] [(K, .int)] (fun (r : Int32) (sg : Nat → Int32) => r = 1) (fun sg => [(mo, .inr (8, [.ref ms, .int sv, .ref mb, .int 0, .int th, .ref mk, .int 0, .ref mfd, .int (-1), .int sp, .int on, .int tw])), (ms, .inl (K, 889, .inl sg))]) (fun sg => []) sz := by
  refine Met.ofW (cc := cX8_readsAndCounts) (maxL := 2) (ret := (some .int)) (by decide) rfl ?_
  intro p e s m args below meth c s₁ B hml hv
  obtain ⟨rfl, hsz, hP, hK, hD0, hG⟩ := hv
  have hx := B.exec
  have hb := B.bytes
  have hr := B.returns
  have ht : ∀ v9 ∈ wsA, v9.before ([.ref mo] : List Value).toArray s = true := fun v9 h9 => atoms_spec (ws := k_ws yX8_readsAndCounts cX8_readsAndCounts 2 (some .int)) B.pre v9 (List.mem_cons_of_mem _ h9)
  have hown : s.vm.findClass RX8 = some m.cls := findClass_of_methodNamed B.named
  have S0 : k_C p s m ([.ref mo] : List Value).toArray c cX8_readsAndCounts 2 RX8 := ⟨hx, hb, hml, hown, ht⟩
  have hlocks := B.notSynchronized
  subst hsz
  have hD := hD0.self (sz := s.heap.size)
  generalize hAe : va_A [(mo, .inr (8, [.ref ms, .int sv, .ref mb, .int 0, .int th, .ref mk, .int ml, .ref mfd, .int mf, .int sp, .int on, .int tw])), (ms, .inl (K, 889, .inl sf))] s.heap.size = A at hD hG ⊢
  have hA : ∀ q : Nat, s.heap.size ≤ q → A q := fun q h => by rw [← hAe]; exact Or.inr h
  have hS : va_S A s.heap s.heap [] := va_S.rf
  have hl := lv_entry ([.ref mo]) (n := 2) (Nat.le_of_ble_eq_true rfl)
  rw [lg_entry_eq]
  generalize (lg_sl ([.ref mo]) ++ List.replicate (2 - (lg_sl ([.ref mo])).length) Slot.unset).toArray = ls at hl ⊢
  have hl : lv_has ls 2 [(0, .ref mo)] := hl
  have hP : va_P D vwCl [(mo, .inr (8, [.ref ms, .int sv, .ref mb, .int 0, .int th, .ref mk, .int ml, .ref mfd, .int mf, .int sp, .int on, .int tw])), (ms, .inl (K, 889, .inl sf))] s.heap := hP
  refine lv_aload_n hx hb dX8_readsAndCounts_0 rfl (lv_at hl 0 rfl) ?_
  have ct := k_cut_of (wc := [(mo, .inr (8, [.ref ms, .int sv, .ref mb, .int 0, .int th, .ref mk, .int ml, .ref mfd, .int mf, .int sp, .int on, .int tw])), (ms, .inl (K, 889, .inl sf))]) (wr := []) (tc := [(K, .int)]) hG hS hA hK hP hD [0, 1] [] [0] rfl rfl (by decide) (by decide) (by decide) rfl
  refine k_endv (As := [.ref mo]) ct (k_runV (As := []) (rest := []) S0 Lv_X8_119 rfl (ci := 8) (q0 := 0) rfl rfl ct (c_M_looks l D mo ms sv mb th mk ml mfd mf sp on tw K sf (by first | assumption | exact (cpf_lo (by decide)).trans (by assumption)) (by first | assumption | exact (cpf_lo (by decide)).trans (by assumption)) (by first | assumption | exact (cpf_lo (by decide)).trans (by assumption)) (by first | assumption | exact (cpf_lo (by decide)).trans (by assumption)) (by first | assumption | exact (cpf_lo (by decide)).trans (by assumption)) (by first | assumption | exact (cpf_lo (by decide)).trans (by assumption)) s.heap.size) hl.1 rfl (Nat.le_of_ble_eq_true rfl) rfl dX8_readsAndCounts_1 ⟨⟨Nat.le_of_ble_eq_true rfl, Nat.le_of_ble_eq_true rfl⟩, Nat.le_of_ble_eq_true rfl, Nat.le_of_ble_eq_true rfl⟩) rfl rfl (fun _ _ H locs hw_2 hP hD hK hS => ?_)
  have hK : va_K D vwCl [(K, .int)] s := hK
  have hP : va_P D vwCl [(mo, .inr (8, [.ref ms, .int sv, .ref mb, .int 0, .int th, .ref mk, .int 0, .ref mfd, .int mf, .int sp, .int on, .int tw])), (ms, .inl (K, 889, .inl sf))] H := hP
  have hD : va_D A [(mo, .inr (8, [.ref ms, .int sv, .ref mb, .int 0, .int th, .ref mk, .int 0, .ref mfd, .int mf, .int sp, .int on, .int tw])), (ms, .inl (K, 889, .inl sf))] := hD
  refine lv_aload_n hx hb dX8_readsAndCounts_4 rfl (lv_at hl 0 rfl) ?_
  refine lv_aload_n hx hb dX8_readsAndCounts_5 rfl (lv_at hl 0 rfl) ?_
  refine va_get (D := D) (ci := 8) (v := .ref ms) (C := RX8) (T := TX8) (N := 12) hx hb ht inA_X8 hown hK hP 0 rfl rfl 0 (by decide) (ht _ lf_X8_7) (fun _ h9 => h9) rfl dX8_readsAndCounts_6 ?_
  refine lv_bipush (v := 93) hx hb dX8_readsAndCounts_9 (by decide) ?_
  refine va_iald hx hb hK hP 1 0 rfl rfl (by unfold vp_in; decide) dX8_readsAndCounts_11 ?_
  refine k_nrm (y := 4) (show sf (93 : Int32).toNatClampNeg = 4 from hs93) ?_
  have ct := k_cut_of (wc := [(mo, .inr (8, [.ref ms, .int sv, .ref mb, .int 0, .int th, .ref mk, .int 0, .ref mfd, .int mf, .int sp, .int on, .int tw]))]) (wr := [(ms, .inl (K, 889, .inl sf))]) (tc := []) hG hS hA hK hP hD [0] [1] [] rfl rfl (by decide) (by decide) (by decide) rfl
  refine k_endi (As := [.ref mo, .int 4]) ct (k_runV (As := [.int 4]) (rest := []) S0 Lv_X8_122 rfl (ci := 8) (q0 := 0) rfl rfl ct (c_M_reads l D mo ms sv mb th mk mfd mf sp on tw 4 H.size) hl.1 rfl (Nat.le_of_ble_eq_true rfl) rfl dX8_readsAndCounts_12 ⟨⟨Nat.le_of_ble_eq_true rfl, Nat.le_of_ble_eq_true rfl⟩, Nat.le_of_ble_eq_true rfl, Nat.le_of_ble_eq_true rfl⟩) rfl rfl (fun r_3 _ H locs hw_4 hP hD hK hS => ?_)
  have hK : va_K D vwCl [(K, .int)] s := hK
  have hP : va_P D vwCl [(ms, .inl (K, 889, .inl sf)), (mo, .inr (8, [.ref ms, .int sv, .ref mb, .int 0, .int th, .ref mk, .int 0, .ref mfd, .int (-1), .int sp, .int on, .int tw]))] H := hP
  have hD : va_D A [(ms, .inl (K, 889, .inl sf)), (mo, .inr (8, [.ref ms, .int sv, .ref mb, .int 0, .int th, .ref mk, .int 0, .ref mfd, .int (-1), .int sp, .int on, .int tw]))] := hD
  have hw_4 : r_3 = 1 := hw_4
  have hw_4 := hw_4.symm
  subst hw_4
  refine k_nrm (y := 1) rfl ?_
  refine lv_istore_n (lv' := [(1, .int 1), (0, .ref mo)]) hx hb dX8_readsAndCounts_15 rfl hl (by decide) rfl (fun ls hl => ?_)
  refine lv_iload_n hx hb dX8_readsAndCounts_16 rfl (lv_at hl 0 rfl) ?_
  refine lv_if_le (tgt := 34) hx hb dX8_readsAndCounts_17 (by decide) (fun c9 => absurd c9 (by decide)) (fun _ => ?_)
  refine lv_aload_n hx hb dX8_readsAndCounts_20 rfl (lv_at hl 1 rfl) ?_
  refine va_get (D := D) (ci := 8) (v := .ref ms) (C := RX8) (T := TX8) (N := 12) hx hb ht inA_X8 hown hK hP 1 rfl rfl 0 (by decide) (ht _ lf_X8_7) (fun _ h9 => h9) rfl dX8_readsAndCounts_21 ?_
  refine lv_bipush (v := 126) hx hb dX8_readsAndCounts_24 (by decide) ?_
  refine lv_dup2_11 hx hb dX8_readsAndCounts_26 rfl rfl ?_
  refine va_iald hx hb hK hP 0 0 rfl rfl (by unfold vp_in; decide) dX8_readsAndCounts_27 ?_
  refine k_nrm (y := 0) (show sf (126 : Int32).toNatClampNeg = 0 from hs126) ?_
  refine lv_iconst (v := 1) hx hb dX8_readsAndCounts_28 (by decide) ?_
  refine lv_iadd hx hb dX8_readsAndCounts_29 ?_
  refine k_nrm (y := 1) (by decide) ?_
  refine va_iast hx hb hK hP hD hS 0 0 rfl rfl (by unfold vp_in; decide) dX8_readsAndCounts_30 (fun H locs hP hD hS => ?_)
  have hP : va_P D vwCl [(ms, .inl (K, 889, .inl (upd sf ((126 : Int32).toNatClampNeg) 1))), (mo, .inr (8, [.ref ms, .int sv, .ref mb, .int 0, .int th, .ref mk, .int 0, .ref mfd, .int (-1), .int sp, .int on, .int tw]))] H := hP
  have hD : va_D A [(ms, .inl (K, 889, .inl (upd sf ((126 : Int32).toNatClampNeg) 1))), (mo, .inr (8, [.ref ms, .int sv, .ref mb, .int 0, .int th, .ref mk, .int 0, .ref mfd, .int (-1), .int sp, .int on, .int tw]))] := hD
  refine lv_goto (tgt := 49) hx hb dX8_readsAndCounts_31 (by decide) ?_
  refine lv_iload_n hx hb dX8_readsAndCounts_49 rfl (lv_at hl 0 rfl) ?_
  have hP9 : va_P D vwCl [(mo, .inr (8, [.ref ms, .int sv, .ref mb, .int 0, .int th, .ref mk, .int 0, .ref mfd, .int (-1), .int sp, .int on, .int tw])), (ms, .inl (K, 889, .inl (upd sf ((126 : Int32).toNatClampNeg) 1)))] H := hP.sub [1, 0] rfl
  have hD9 : va_D A [(mo, .inr (8, [.ref ms, .int sv, .ref mb, .int 0, .int th, .ref mk, .int 0, .ref mfd, .int (-1), .int sp, .int on, .int tw])), (ms, .inl (K, 889, .inl (upd sf ((126 : Int32).toNatClampNeg) 1)))] := hD.sub [1, 0] (by decide) rfl
  have hK9 : va_K D vwCl [] s := hK.sub [] rfl
  exact W.iret (v := 1) hx hb hr (fun t ht9 hW9 => ⟨⟨1, upd sf ((126 : Int32).toNatClampNeg) 1, rfl, by first | rfl | trivial | assumption, ⟨by rw [ht9]; exact hP9, va_K.moved hW9.alike hK9, hD9⟩⟩, hS.F ht9⟩) hS.2.2 dX8_readsAndCounts_50
set_option maxHeartbeats 4000000 in
set_option maxRecDepth 100000 in
theorem c_M_read (l : Launch) (D : va_G) (mo : Nat) (ms : Nat) (mb : Nat) (th : Int32) (mk : Nat) (ml : Int32) (mfd : Nat) (mf : Int32) (sp : Int32) (on : Int32) (tw : Int32) (K : ClassId) (sf : Nat → Int32) (hs0 : sf 0 = 0) (hs51 : sf 51 = 0) (hs93 : sf 93 = 4) (hs94 : sf 94 = 0) (hs125 : sf 125 = 0) (hs126 : sf 126 = 0) (sz : Nat) : k_Mi (S := Nat → Int32) l D yX8_read cX8_read 1 (some .int) 4 0 0 89 [.ref mo] [(mo, .inr (8, [.ref ms, .int 0, .ref mb, .int 0, .int th, .ref mk, .int ml, .ref mfd, .int mf, .int sp, .int on, .int tw])), (ms, .inl (K, 889, .inl sf))] [(K, .int)] (fun (r : Int32) (sg : Nat → Int32) => r = 1) (fun sg => [(mo, .inr (8, [.ref ms, .int 1, .ref mb, .int 0, .int 0, .ref mk, .int 0, .ref mfd, .int (-1), .int sp, .int on, .int tw])), (ms, .inl (K, 889, .inl sg))]) (fun sg => []) sz := by
  refine Met.ofW (cc := cX8_read) (maxL := 1) (ret := (some .int)) (by decide) rfl ?_
  intro p e s m args below meth c s₁ B hml hv
  obtain ⟨rfl, hsz, hP, hK, hD0, hG⟩ := hv
  have hx := B.exec
  have hb := B.bytes
  have hr := B.returns
  have ht : ∀ v9 ∈ wsA, v9.before ([.ref mo] : List Value).toArray s = true := fun v9 h9 => atoms_spec (ws := k_ws yX8_read cX8_read 1 (some .int)) B.pre v9 (List.mem_cons_of_mem _ h9)
  have hown : s.vm.findClass RX8 = some m.cls := findClass_of_methodNamed B.named
  have S0 : k_C p s m ([.ref mo] : List Value).toArray c cX8_read 1 RX8 := ⟨hx, hb, hml, hown, ht⟩
  have hlocks := B.notSynchronized
  subst hsz
  have hD := hD0.self (sz := s.heap.size)
  generalize hAe : va_A [(mo, .inr (8, [.ref ms, .int 0, .ref mb, .int 0, .int th, .ref mk, .int ml, .ref mfd, .int mf, .int sp, .int on, .int tw])), (ms, .inl (K, 889, .inl sf))] s.heap.size = A at hD hG ⊢
  have hA : ∀ q : Nat, s.heap.size ≤ q → A q := fun q h => by rw [← hAe]; exact Or.inr h
  have hS : va_S A s.heap s.heap [] := va_S.rf
  have hl := lv_entry ([.ref mo]) (n := 1) (Nat.le_of_ble_eq_true rfl)
  rw [lg_entry_eq]
  generalize (lg_sl ([.ref mo]) ++ List.replicate (1 - (lg_sl ([.ref mo])).length) Slot.unset).toArray = ls at hl ⊢
  have hl : lv_has ls 1 [(0, .ref mo)] := hl
  have hP : va_P D vwCl [(mo, .inr (8, [.ref ms, .int 0, .ref mb, .int 0, .int th, .ref mk, .int ml, .ref mfd, .int mf, .int sp, .int on, .int tw])), (ms, .inl (K, 889, .inl sf))] s.heap := hP
  refine lv_aload_n hx hb dX8_read_0 rfl (lv_at hl 0 rfl) ?_
  refine lv_iconst (v := 0) hx hb dX8_read_1 (by decide) ?_
  refine va_put (D := D) (ci := 8) (v := .int 0) (ty := .int) (C := RX8) (T := TX8) (N := 12) hx hb ht inA_X8 tyX8 tyX8_ok nmX8 hown hK hP hD hS 0 rfl rfl 4 (by decide) (ht _ lf_X8_23) (fun _ h9 => h9) rfl (tyX8_ok 4 (by decide)) rfl rfl (Nat.le_of_ble_eq_true rfl) dX8_read_2 (fun H locs hP hD hS => ?_)
  have hP : va_P D vwCl [(mo, .inr (8, [.ref ms, .int 0, .ref mb, .int 0, .int 0, .ref mk, .int ml, .ref mfd, .int mf, .int sp, .int on, .int tw])), (ms, .inl (K, 889, .inl sf))] H := hP
  have hD : va_D A [(mo, .inr (8, [.ref ms, .int 0, .ref mb, .int 0, .int 0, .ref mk, .int ml, .ref mfd, .int mf, .int sp, .int on, .int tw])), (ms, .inl (K, 889, .inl sf))] := hD
  refine lv_aload_n hx hb dX8_read_5 rfl (lv_at hl 0 rfl) ?_
  have ct := k_cut_of (wc := [(mo, .inr (8, [.ref ms, .int 0, .ref mb, .int 0, .int 0, .ref mk, .int ml, .ref mfd, .int mf, .int sp, .int on, .int tw])), (ms, .inl (K, 889, .inl sf))]) (wr := []) (tc := [(K, .int)]) hG hS hA hK hP hD [0, 1] [] [0] rfl rfl (by decide) (by decide) (by decide) rfl
  refine k_endv (As := [.ref mo]) ct (k_runV (As := []) (rest := []) S0 Lv_X8_62 rfl (ci := 8) (q0 := 0) rfl rfl ct (c_M_saves l D mo ms mb 0 mk ml mfd mf sp on tw K sf H.size) hl.1 rfl (Nat.le_of_ble_eq_true rfl) rfl dX8_read_6 ⟨⟨Nat.le_of_ble_eq_true rfl, Nat.le_of_ble_eq_true rfl⟩, Nat.le_of_ble_eq_true rfl, Nat.le_of_ble_eq_true rfl⟩) rfl rfl (fun _ _ H locs hw_2 hP hD hK hS => ?_)
  have hK : va_K D vwCl [(K, .int)] s := hK
  have hP : va_P D vwCl [(mo, .inr (8, [.ref ms, .int 1, .ref mb, .int 0, .int 0, .ref mk, .int ml, .ref mfd, .int mf, .int sp, .int on, .int tw])), (ms, .inl (K, 889, .inl (cpf sf 127)))] H := hP
  have hD : va_D A [(mo, .inr (8, [.ref ms, .int 1, .ref mb, .int 0, .int 0, .ref mk, .int ml, .ref mfd, .int mf, .int sp, .int on, .int tw])), (ms, .inl (K, 889, .inl (cpf sf 127)))] := hD
  refine lv_aload_n hx hb dX8_read_9 rfl (lv_at hl 0 rfl) ?_
  have ct := k_cut_of (wc := [(mo, .inr (8, [.ref ms, .int 1, .ref mb, .int 0, .int 0, .ref mk, .int ml, .ref mfd, .int mf, .int sp, .int on, .int tw])), (ms, .inl (K, 889, .inl (cpf sf 127)))]) (wr := []) (tc := [(K, .int)]) hG hS hA hK hP hD [0, 1] [] [0] rfl rfl (by decide) (by decide) (by decide) rfl
  refine k_endi (As := [.ref mo]) ct (k_runV (As := []) (rest := []) S0 Lv_X8_132 rfl (ci := 8) (q0 := 0) rfl rfl ct (c_M_readCount l D mo ms 1 mb 0 mk ml mfd mf sp on tw K (cpf sf 127) (by first | assumption | exact (cpf_lo (by decide)).trans (by assumption)) (by first | assumption | exact (cpf_lo (by decide)).trans (by assumption)) (by first | assumption | exact (cpf_lo (by decide)).trans (by assumption)) (by first | assumption | exact (cpf_lo (by decide)).trans (by assumption)) (by first | assumption | exact (cpf_lo (by decide)).trans (by assumption)) (by first | assumption | exact (cpf_lo (by decide)).trans (by assumption)) H.size) hl.1 rfl (Nat.le_of_ble_eq_true rfl) rfl dX8_read_10 ⟨⟨Nat.le_of_ble_eq_true rfl, Nat.le_of_ble_eq_true rfl⟩, Nat.le_of_ble_eq_true rfl, Nat.le_of_ble_eq_true rfl⟩) rfl rfl (fun r_3 sg_4 H locs hw_5 hP hD hK hS => ?_)
  have hK : va_K D vwCl [(K, .int)] s := hK
  have hP : va_P D vwCl [(mo, .inr (8, [.ref ms, .int 1, .ref mb, .int 0, .int 0, .ref mk, .int 0, .ref mfd, .int (-1), .int sp, .int on, .int tw])), (ms, .inl (K, 889, .inl sg_4))] H := hP
  have hD : va_D A [(mo, .inr (8, [.ref ms, .int 1, .ref mb, .int 0, .int 0, .ref mk, .int 0, .ref mfd, .int (-1), .int sp, .int on, .int tw])), (ms, .inl (K, 889, .inl sg_4))] := hD
  have hw_5 : r_3 = 1 := hw_5
  have hw_5 := hw_5.symm
  subst hw_5
  refine k_nrm (y := 1) rfl ?_
  have hP9 : va_P D vwCl [(mo, .inr (8, [.ref ms, .int 1, .ref mb, .int 0, .int 0, .ref mk, .int 0, .ref mfd, .int (-1), .int sp, .int on, .int tw])), (ms, .inl (K, 889, .inl sg_4))] H := hP.sub [0, 1] rfl
  have hD9 : va_D A [(mo, .inr (8, [.ref ms, .int 1, .ref mb, .int 0, .int 0, .ref mk, .int 0, .ref mfd, .int (-1), .int sp, .int on, .int tw])), (ms, .inl (K, 889, .inl sg_4))] := hD.sub [0, 1] (by decide) rfl
  have hK9 : va_K D vwCl [] s := hK.sub [] rfl
  exact W.iret (v := 1) hx hb hr (fun t ht9 hW9 => ⟨⟨1, sg_4, rfl, by first | rfl | trivial | assumption, ⟨by rw [ht9]; exact hP9, va_K.moved hW9.alike hK9, hD9⟩⟩, hS.F ht9⟩) hS.2.2 dX8_read_13
set_option maxHeartbeats 4000000 in
set_option maxRecDepth 100000 in
theorem c_M_clearM (l : Launch) (D : va_G) (mo : Nat) (ms : Nat) (mb : Nat) (th : Int32) (mk : Nat) (ml : Int32) (mfd : Nat) (mf : Int32) (sp : Int32) (on : Int32) (tw : Int32) (K : ClassId) (sf : Nat → Int32) (hs0 : sf 0 = 0) (hs51 : sf 51 = 0) (hs93 : sf 93 = 4) (hs94 : sf 94 = 0) (hs125 : sf 125 = 0) (hs126 : sf 126 = 0) (sz : Nat) : k_Mi (S := Nat → Int32) l D yX8_clearMeasurement cX8_clearMeasurement 2 (some .int) 2 0 0 44 [.ref mo] [(mo, .inr (8, [.ref ms, .int 0, .ref mb, .int 0, .int th, .ref mk, .int ml, .ref mfd, .int mf, .int sp, .int on, .int tw])), (ms, .inl (K, 889, .inl sf))] [(K, .int)] (fun (r : Int32) (sg : Nat → Int32) => r = 0) (fun sg => [(mo, .inr (8, [.ref ms, .int 1, .ref mb, .int 0, .int 0, .ref mk, .int ml, .ref mfd, .int mf, .int sp, .int on, .int tw])), (ms, .inl (K, 889, .inl sg))]) (fun sg => []) sz := by
  refine Met.ofW (cc := cX8_clearMeasurement) (maxL := 2) (ret := (some .int)) (by decide) rfl ?_
  intro p e s m args below meth c s₁ B hml hv
  obtain ⟨rfl, hsz, hP, hK, hD0, hG⟩ := hv
  have hx := B.exec
  have hb := B.bytes
  have hr := B.returns
  have ht : ∀ v9 ∈ wsA, v9.before ([.ref mo] : List Value).toArray s = true := fun v9 h9 => atoms_spec (ws := k_ws yX8_clearMeasurement cX8_clearMeasurement 2 (some .int)) B.pre v9 (List.mem_cons_of_mem _ h9)
  have hown : s.vm.findClass RX8 = some m.cls := findClass_of_methodNamed B.named
  have S0 : k_C p s m ([.ref mo] : List Value).toArray c cX8_clearMeasurement 2 RX8 := ⟨hx, hb, hml, hown, ht⟩
  have hlocks := B.notSynchronized
  subst hsz
  have hD := hD0.self (sz := s.heap.size)
  generalize hAe : va_A [(mo, .inr (8, [.ref ms, .int 0, .ref mb, .int 0, .int th, .ref mk, .int ml, .ref mfd, .int mf, .int sp, .int on, .int tw])), (ms, .inl (K, 889, .inl sf))] s.heap.size = A at hD hG ⊢
  have hA : ∀ q : Nat, s.heap.size ≤ q → A q := fun q h => by rw [← hAe]; exact Or.inr h
  have hS : va_S A s.heap s.heap [] := va_S.rf
  have hl := lv_entry ([.ref mo]) (n := 2) (Nat.le_of_ble_eq_true rfl)
  rw [lg_entry_eq]
  generalize (lg_sl ([.ref mo]) ++ List.replicate (2 - (lg_sl ([.ref mo])).length) Slot.unset).toArray = ls at hl ⊢
  have hl : lv_has ls 2 [(0, .ref mo)] := hl
  have hP : va_P D vwCl [(mo, .inr (8, [.ref ms, .int 0, .ref mb, .int 0, .int th, .ref mk, .int ml, .ref mfd, .int mf, .int sp, .int on, .int tw])), (ms, .inl (K, 889, .inl sf))] s.heap := hP
  refine lv_aload_n hx hb dX8_clearMeasurement_0 rfl (lv_at hl 0 rfl) ?_
  refine lv_iconst (v := 0) hx hb dX8_clearMeasurement_1 (by decide) ?_
  refine va_put (D := D) (ci := 8) (v := .int 0) (ty := .int) (C := RX8) (T := TX8) (N := 12) hx hb ht inA_X8 tyX8 tyX8_ok nmX8 hown hK hP hD hS 0 rfl rfl 4 (by decide) (ht _ lf_X8_23) (fun _ h9 => h9) rfl (tyX8_ok 4 (by decide)) rfl rfl (Nat.le_of_ble_eq_true rfl) dX8_clearMeasurement_2 (fun H locs hP hD hS => ?_)
  have hP : va_P D vwCl [(mo, .inr (8, [.ref ms, .int 0, .ref mb, .int 0, .int 0, .ref mk, .int ml, .ref mfd, .int mf, .int sp, .int on, .int tw])), (ms, .inl (K, 889, .inl sf))] H := hP
  have hD : va_D A [(mo, .inr (8, [.ref ms, .int 0, .ref mb, .int 0, .int 0, .ref mk, .int ml, .ref mfd, .int mf, .int sp, .int on, .int tw])), (ms, .inl (K, 889, .inl sf))] := hD
  refine lv_aload_n hx hb dX8_clearMeasurement_5 rfl (lv_at hl 0 rfl) ?_
  have ct := k_cut_of (wc := [(mo, .inr (8, [.ref ms, .int 0, .ref mb, .int 0, .int 0, .ref mk, .int ml, .ref mfd, .int mf, .int sp, .int on, .int tw])), (ms, .inl (K, 889, .inl sf))]) (wr := []) (tc := [(K, .int)]) hG hS hA hK hP hD [0, 1] [] [0] rfl rfl (by decide) (by decide) (by decide) rfl
  refine k_endv (As := [.ref mo]) ct (k_runV (As := []) (rest := []) S0 Lv_X8_62 rfl (ci := 8) (q0 := 0) rfl rfl ct (c_M_saves l D mo ms mb 0 mk ml mfd mf sp on tw K sf H.size) hl.1 rfl (Nat.le_of_ble_eq_true rfl) rfl dX8_clearMeasurement_6 ⟨⟨Nat.le_of_ble_eq_true rfl, Nat.le_of_ble_eq_true rfl⟩, Nat.le_of_ble_eq_true rfl, Nat.le_of_ble_eq_true rfl⟩) rfl rfl (fun _ _ H locs hw_2 hP hD hK hS => ?_)
  have hK : va_K D vwCl [(K, .int)] s := hK
  have hP : va_P D vwCl [(mo, .inr (8, [.ref ms, .int 1, .ref mb, .int 0, .int 0, .ref mk, .int ml, .ref mfd, .int mf, .int sp, .int on, .int tw])), (ms, .inl (K, 889, .inl (cpf sf 127)))] H := hP
  have hD : va_D A [(mo, .inr (8, [.ref ms, .int 1, .ref mb, .int 0, .int 0, .ref mk, .int ml, .ref mfd, .int mf, .int sp, .int on, .int tw])), (ms, .inl (K, 889, .inl (cpf sf 127)))] := hD
  refine lv_aload_n hx hb dX8_clearMeasurement_9 rfl (lv_at hl 0 rfl) ?_
  refine va_get (D := D) (ci := 8) (v := .ref ms) (C := RX8) (T := TX8) (N := 12) hx hb ht inA_X8 hown hK hP 0 rfl rfl 0 (by decide) (ht _ lf_X8_7) (fun _ h9 => h9) rfl dX8_clearMeasurement_10 ?_
  refine lv_bipush (v := 51) hx hb dX8_clearMeasurement_13 (by decide) ?_
  refine va_iald hx hb hK hP 1 0 rfl rfl (by unfold vp_in; decide) dX8_clearMeasurement_15 ?_
  refine k_nrm (y := 0) (show (cpf sf 127) (51 : Int32).toNatClampNeg = 0 from ((cpf_lo (by decide)).trans hs51)) ?_
  refine lv_istore_n (lv' := [(1, .int 0), (0, .ref mo)]) hx hb dX8_clearMeasurement_16 rfl hl (by decide) rfl (fun ls hl => ?_)
  refine lv_aload_n hx hb dX8_clearMeasurement_17 rfl (lv_at hl 1 rfl) ?_
  refine va_get (D := D) (ci := 8) (v := .ref ms) (C := RX8) (T := TX8) (N := 12) hx hb ht inA_X8 hown hK hP 0 rfl rfl 0 (by decide) (ht _ lf_X8_7) (fun _ h9 => h9) rfl dX8_clearMeasurement_18 ?_
  refine lv_bipush (v := 51) hx hb dX8_clearMeasurement_21 (by decide) ?_
  refine lv_iconst (v := 0) hx hb dX8_clearMeasurement_23 (by decide) ?_
  refine va_iast hx hb hK hP hD hS 1 0 rfl rfl (by unfold vp_in; decide) dX8_clearMeasurement_24 (fun H locs hP hD hS => ?_)
  have hP : va_P D vwCl [(mo, .inr (8, [.ref ms, .int 1, .ref mb, .int 0, .int 0, .ref mk, .int ml, .ref mfd, .int mf, .int sp, .int on, .int tw])), (ms, .inl (K, 889, .inl (upd (cpf sf 127) ((51 : Int32).toNatClampNeg) 0)))] H := hP
  have hD : va_D A [(mo, .inr (8, [.ref ms, .int 1, .ref mb, .int 0, .int 0, .ref mk, .int ml, .ref mfd, .int mf, .int sp, .int on, .int tw])), (ms, .inl (K, 889, .inl (upd (cpf sf 127) ((51 : Int32).toNatClampNeg) 0)))] := hD
  refine lv_iload_n hx hb dX8_clearMeasurement_25 rfl (lv_at hl 0 rfl) ?_
  have hP9 : va_P D vwCl [(mo, .inr (8, [.ref ms, .int 1, .ref mb, .int 0, .int 0, .ref mk, .int ml, .ref mfd, .int mf, .int sp, .int on, .int tw])), (ms, .inl (K, 889, .inl (upd (cpf sf 127) ((51 : Int32).toNatClampNeg) 0)))] H := hP.sub [0, 1] rfl
  have hD9 : va_D A [(mo, .inr (8, [.ref ms, .int 1, .ref mb, .int 0, .int 0, .ref mk, .int ml, .ref mfd, .int mf, .int sp, .int on, .int tw])), (ms, .inl (K, 889, .inl (upd (cpf sf 127) ((51 : Int32).toNatClampNeg) 0)))] := hD.sub [0, 1] (by decide) rfl
  have hK9 : va_K D vwCl [] s := hK.sub [] rfl
  exact W.iret (v := 0) hx hb hr (fun t ht9 hW9 => ⟨⟨0, upd (cpf sf 127) ((51 : Int32).toNatClampNeg) 0, rfl, by first | rfl | trivial | assumption, ⟨by rw [ht9]; exact hP9, va_K.moved hW9.alike hK9, hD9⟩⟩, hS.F ht9⟩) hS.2.2 dX8_clearMeasurement_26
set_option maxHeartbeats 4000000 in
set_option maxRecDepth 100000 in
theorem c_M_measure (l : Launch) (D : va_G) (mo : Nat) (ms : Nat) (mb : Nat) (th : Int32) (mk : Nat) (ml : Int32) (mfd : Nat) (mf : Int32) (sp : Int32) (on : Int32) (tw : Int32) (K : ClassId) (sf : Nat → Int32) (i : Int32) (hs0 : sf 0 = 0) (hs51 : sf 51 = 0) (hs93 : sf 93 = 4) (hs94 : sf 94 = 0) (hs125 : sf 125 = 0) (hs126 : sf 126 = 0) (sz : Nat) : k_Mi (S := Int32 × Int32 × (Nat → Int32)) l D yX8_measure cX8_measure 2 (some .int) 2 0 0 44 [.ref mo, .int i] [(mo, .inr (8, [.ref ms, .int 0, .ref mb, .int 0, .int th, .ref mk, .int ml, .ref mfd, .int mf, .int sp, .int on, .int tw])), (ms, .inl (K, 889, .inl sf))] [(K, .int)] (fun (r : Int32) (u : Int32 × Int32 × (Nat → Int32)) => match u with | (th1, sv1, sg) => (k_tim i ∧ r = 1 ∧ th1 = 0) ∨ (¬ k_tim i ∧ th1 = 1)) (fun u => match u with | (th1, sv1, sg) => [(mo, .inr (8, [.ref ms, .int sv1, .ref mb, .int 0, .int th1, .ref mk, .int ml, .ref mfd, .int mf, .int sp, .int on, .int tw])), (ms, .inl (K, 889, .inl sg))]) (fun u => match u with | (th1, sv1, sg) => []) sz := by
  refine Met.ofW (cc := cX8_measure) (maxL := 2) (ret := (some .int)) (by decide) rfl ?_
  intro p e s m args below meth c s₁ B hml hv
  obtain ⟨rfl, hsz, hP, hK, hD0, hG⟩ := hv
  have hx := B.exec
  have hb := B.bytes
  have hr := B.returns
  have ht : ∀ v9 ∈ wsA, v9.before ([.ref mo, .int i] : List Value).toArray s = true := fun v9 h9 => atoms_spec (ws := k_ws yX8_measure cX8_measure 2 (some .int)) B.pre v9 (List.mem_cons_of_mem _ h9)
  have hown : s.vm.findClass RX8 = some m.cls := findClass_of_methodNamed B.named
  have S0 : k_C p s m ([.ref mo, .int i] : List Value).toArray c cX8_measure 2 RX8 := ⟨hx, hb, hml, hown, ht⟩
  have hlocks := B.notSynchronized
  subst hsz
  have hD := hD0.self (sz := s.heap.size)
  generalize hAe : va_A [(mo, .inr (8, [.ref ms, .int 0, .ref mb, .int 0, .int th, .ref mk, .int ml, .ref mfd, .int mf, .int sp, .int on, .int tw])), (ms, .inl (K, 889, .inl sf))] s.heap.size = A at hD hG ⊢
  have hA : ∀ q : Nat, s.heap.size ≤ q → A q := fun q h => by rw [← hAe]; exact Or.inr h
  have hS : va_S A s.heap s.heap [] := va_S.rf
  have hl := lv_entry ([.ref mo, .int i]) (n := 2) (Nat.le_of_ble_eq_true rfl)
  rw [lg_entry_eq]
  generalize (lg_sl ([.ref mo, .int i]) ++ List.replicate (2 - (lg_sl ([.ref mo, .int i])).length) Slot.unset).toArray = ls at hl ⊢
  have hl : lv_has ls 2 [(0, .ref mo), (1, .int i)] := hl
  have hP : va_P D vwCl [(mo, .inr (8, [.ref ms, .int 0, .ref mb, .int 0, .int th, .ref mk, .int ml, .ref mfd, .int mf, .int sp, .int on, .int tw])), (ms, .inl (K, 889, .inl sf))] s.heap := hP
  refine lv_aload_n hx hb dX8_measure_0 rfl (lv_at hl 0 rfl) ?_
  refine lv_iload_n hx hb dX8_measure_1 rfl (lv_at hl 1 rfl) ?_
  refine lv_iconst (v := 1) hx hb dX8_measure_2 (by decide) ?_
  refine lv_sipush (v := 9999) hx hb dX8_measure_3 (by decide) ?_
  have ct := k_cut_of (wc := []) (wr := [(mo, .inr (8, [.ref ms, .int 0, .ref mb, .int 0, .int th, .ref mk, .int ml, .ref mfd, .int mf, .int sp, .int on, .int tw])), (ms, .inl (K, 889, .inl sf))]) (tc := []) hG hS hA hK hP hD [] [0, 1] [] rfl rfl (by decide) (by decide) (by decide) rfl
  refine k_endi (As := [.int i, .int 1, .int 9999]) ct (k_runS (As := [.int i, .int 1, .int 9999]) (rest := [.ref mo]) S0 Ls_X8_46 ct (c_M_in l D i 1 9999 s.heap.size) hl.1 rfl (Nat.le_of_ble_eq_true rfl) rfl dX8_measure_6 ⟨⟨Nat.le_of_ble_eq_true rfl, Nat.le_of_ble_eq_true rfl⟩, Nat.le_of_ble_eq_true rfl, Nat.le_of_ble_eq_true rfl⟩) rfl rfl (fun r_1 _ H locs hw_2 hP hD hK hS => ?_)
  have hK : va_K D vwCl [(K, .int)] s := hK
  have hP : va_P D vwCl [(mo, .inr (8, [.ref ms, .int 0, .ref mb, .int 0, .int th, .ref mk, .int ml, .ref mfd, .int mf, .int sp, .int on, .int tw])), (ms, .inl (K, 889, .inl sf))] H := hP
  have hD : va_D A [(mo, .inr (8, [.ref ms, .int 0, .ref mb, .int 0, .int th, .ref mk, .int ml, .ref mfd, .int mf, .int sp, .int on, .int tw])), (ms, .inl (K, 889, .inl sf))] := hD
  rcases hw_2 with ⟨hr9, c_3, c_4⟩ | ⟨hr9, c_5⟩
  · subst hr9
    refine lv_aload_n hx hb dX8_measure_9 rfl (lv_at hl 0 rfl) ?_
    refine va_get (D := D) (ci := 8) (v := .ref ms) (C := RX8) (T := TX8) (N := 12) hx hb ht inA_X8 hown hK hP 0 rfl rfl 0 (by decide) (ht _ lf_X8_7) (fun _ h9 => h9) rfl dX8_measure_10 ?_
    refine lv_bipush (v := 51) hx hb dX8_measure_13 (by decide) ?_
    refine va_iald hx hb hK hP 1 0 rfl rfl (by unfold vp_in; decide) dX8_measure_15 ?_
    refine k_nrm (y := 0) (show sf (51 : Int32).toNatClampNeg = 0 from hs51) ?_
    refine lv_bipush (v := 41) hx hb dX8_measure_16 (by decide) ?_
    refine lv_icmp_ge (tgt := 25) hx hb dX8_measure_18 (by decide) (fun c9 => absurd c9 (by decide)) (fun _ => ?_)
    refine lv_iconst (v := 1) hx hb dX8_measure_21 (by decide) ?_
    refine lv_goto (tgt := 26) hx hb dX8_measure_22 (by decide) ?_
    have ct := k_cut_of (wc := [(mo, .inr (8, [.ref ms, .int 0, .ref mb, .int 0, .int th, .ref mk, .int ml, .ref mfd, .int mf, .int sp, .int on, .int tw]))]) (wr := [(ms, .inl (K, 889, .inl sf))]) (tc := []) hG hS hA hK hP hD [0] [1] [] rfl rfl (by decide) (by decide) (by decide) rfl
    refine k_endi (As := [.ref mo, .int 1, .int 1]) ct (k_runV (As := [.int 1, .int 1]) (rest := []) S0 Lv_X8_58 rfl (ci := 8) (q0 := 0) rfl rfl ct (c_M_goes11 l D mo ms 0 mb th mk ml mfd mf sp on tw H.size) hl.1 rfl (Nat.le_of_ble_eq_true rfl) rfl dX8_measure_26 ⟨⟨Nat.le_of_ble_eq_true rfl, Nat.le_of_ble_eq_true rfl⟩, Nat.le_of_ble_eq_true rfl, Nat.le_of_ble_eq_true rfl⟩) rfl rfl (fun r_6 _ H locs hw_7 hP hD hK hS => ?_)
    have hK : va_K D vwCl [(K, .int)] s := hK
    have hP : va_P D vwCl [(ms, .inl (K, 889, .inl sf)), (mo, .inr (8, [.ref ms, .int 0, .ref mb, .int 0, .int 0, .ref mk, .int ml, .ref mfd, .int mf, .int sp, .int on, .int tw]))] H := hP
    have hD : va_D A [(ms, .inl (K, 889, .inl sf)), (mo, .inr (8, [.ref ms, .int 0, .ref mb, .int 0, .int 0, .ref mk, .int ml, .ref mfd, .int mf, .int sp, .int on, .int tw]))] := hD
    have hw_7 : r_6 = 1 := hw_7
    have hw_7 := hw_7.symm
    subst hw_7
    refine k_nrm (y := 1) rfl ?_
    refine lv_if_ne (tgt := 34) hx hb dX8_measure_29 (by decide) (fun _ => ?_) (fun c9 => absurd c9 (by decide))
    refine lv_aload_n hx hb dX8_measure_34 rfl (lv_at hl 0 rfl) ?_
    have ct := k_cut_of (wc := [(mo, .inr (8, [.ref ms, .int 0, .ref mb, .int 0, .int 0, .ref mk, .int ml, .ref mfd, .int mf, .int sp, .int on, .int tw])), (ms, .inl (K, 889, .inl sf))]) (wr := []) (tc := [(K, .int)]) hG hS hA hK hP hD [1, 0] [] [0] rfl rfl (by decide) (by decide) (by decide) rfl
    refine k_endv (As := [.ref mo]) ct (k_runV (As := []) (rest := []) S0 Lv_X8_62 rfl (ci := 8) (q0 := 0) rfl rfl ct (c_M_saves l D mo ms mb 0 mk ml mfd mf sp on tw K sf H.size) hl.1 rfl (Nat.le_of_ble_eq_true rfl) rfl dX8_measure_35 ⟨⟨Nat.le_of_ble_eq_true rfl, Nat.le_of_ble_eq_true rfl⟩, Nat.le_of_ble_eq_true rfl, Nat.le_of_ble_eq_true rfl⟩) rfl rfl (fun _ _ H locs hw_9 hP hD hK hS => ?_)
    have hK : va_K D vwCl [(K, .int)] s := hK
    have hP : va_P D vwCl [(mo, .inr (8, [.ref ms, .int 1, .ref mb, .int 0, .int 0, .ref mk, .int ml, .ref mfd, .int mf, .int sp, .int on, .int tw])), (ms, .inl (K, 889, .inl (cpf sf 127)))] H := hP
    have hD : va_D A [(mo, .inr (8, [.ref ms, .int 1, .ref mb, .int 0, .int 0, .ref mk, .int ml, .ref mfd, .int mf, .int sp, .int on, .int tw])), (ms, .inl (K, 889, .inl (cpf sf 127)))] := hD
    refine lv_aload_n hx hb dX8_measure_38 rfl (lv_at hl 0 rfl) ?_
    refine va_get (D := D) (ci := 8) (v := .ref ms) (C := RX8) (T := TX8) (N := 12) hx hb ht inA_X8 hown hK hP 0 rfl rfl 0 (by decide) (ht _ lf_X8_7) (fun _ h9 => h9) rfl dX8_measure_39 ?_
    refine lv_bipush (v := 52) hx hb dX8_measure_42 (by decide) ?_
    refine lv_aload_n hx hb dX8_measure_44 rfl (lv_at hl 0 rfl) ?_
    refine va_get (D := D) (ci := 8) (v := .ref ms) (C := RX8) (T := TX8) (N := 12) hx hb ht inA_X8 hown hK hP 0 rfl rfl 0 (by decide) (ht _ lf_X8_7) (fun _ h9 => h9) rfl dX8_measure_45 ?_
    refine lv_bipush (v := 51) hx hb dX8_measure_48 (by decide) ?_
    refine va_iald hx hb hK hP 1 0 rfl rfl (by unfold vp_in; decide) dX8_measure_50 ?_
    refine k_nrm (y := 0) (show (cpf sf 127) (51 : Int32).toNatClampNeg = 0 from ((cpf_lo (by decide)).trans hs51)) ?_
    refine lv_iadd hx hb dX8_measure_51 ?_
    refine k_nrm (y := 52) (by decide) ?_
    refine lv_iload_n hx hb dX8_measure_52 rfl (lv_at hl 1 rfl) ?_
    refine va_iast hx hb hK hP hD hS 1 0 rfl rfl (by unfold vp_in; decide) dX8_measure_53 (fun H locs hP hD hS => ?_)
    have hP : va_P D vwCl [(mo, .inr (8, [.ref ms, .int 1, .ref mb, .int 0, .int 0, .ref mk, .int ml, .ref mfd, .int mf, .int sp, .int on, .int tw])), (ms, .inl (K, 889, .inl (upd (cpf sf 127) ((52 : Int32).toNatClampNeg) i)))] H := hP
    have hD : va_D A [(mo, .inr (8, [.ref ms, .int 1, .ref mb, .int 0, .int 0, .ref mk, .int ml, .ref mfd, .int mf, .int sp, .int on, .int tw])), (ms, .inl (K, 889, .inl (upd (cpf sf 127) ((52 : Int32).toNatClampNeg) i)))] := hD
    refine lv_aload_n hx hb dX8_measure_54 rfl (lv_at hl 0 rfl) ?_
    refine va_get (D := D) (ci := 8) (v := .ref ms) (C := RX8) (T := TX8) (N := 12) hx hb ht inA_X8 hown hK hP 0 rfl rfl 0 (by decide) (ht _ lf_X8_7) (fun _ h9 => h9) rfl dX8_measure_55 ?_
    refine lv_bipush (v := 51) hx hb dX8_measure_58 (by decide) ?_
    refine lv_dup2_11 hx hb dX8_measure_60 rfl rfl ?_
    refine va_iald hx hb hK hP 1 0 rfl rfl (by unfold vp_in; decide) dX8_measure_61 ?_
    refine k_nrm (y := 0) (show upd (cpf sf 127) 52 i 51 = 0 from (pk_un (by decide)).trans ((cpf_lo (by decide)).trans hs51)) ?_
    refine lv_iconst (v := 1) hx hb dX8_measure_62 (by decide) ?_
    refine lv_iadd hx hb dX8_measure_63 ?_
    refine k_nrm (y := 1) (by decide) ?_
    refine va_iast hx hb hK hP hD hS 1 0 rfl rfl (by unfold vp_in; decide) dX8_measure_64 (fun H locs hP hD hS => ?_)
    have hP : va_P D vwCl [(mo, .inr (8, [.ref ms, .int 1, .ref mb, .int 0, .int 0, .ref mk, .int ml, .ref mfd, .int mf, .int sp, .int on, .int tw])), (ms, .inl (K, 889, .inl (upd (upd (cpf sf 127) ((52 : Int32).toNatClampNeg) i) ((51 : Int32).toNatClampNeg) 1)))] H := hP
    have hD : va_D A [(mo, .inr (8, [.ref ms, .int 1, .ref mb, .int 0, .int 0, .ref mk, .int ml, .ref mfd, .int mf, .int sp, .int on, .int tw])), (ms, .inl (K, 889, .inl (upd (upd (cpf sf 127) ((52 : Int32).toNatClampNeg) i) ((51 : Int32).toNatClampNeg) 1)))] := hD
    refine lv_aload_n hx hb dX8_measure_65 rfl (lv_at hl 0 rfl) ?_
    refine va_get (D := D) (ci := 8) (v := .ref ms) (C := RX8) (T := TX8) (N := 12) hx hb ht inA_X8 hown hK hP 0 rfl rfl 0 (by decide) (ht _ lf_X8_7) (fun _ h9 => h9) rfl dX8_measure_66 ?_
    refine lv_bipush (v := 51) hx hb dX8_measure_69 (by decide) ?_
    refine va_iald hx hb hK hP 1 0 rfl rfl (by unfold vp_in; decide) dX8_measure_71 ?_
    refine k_nrm (y := 1) (show upd (upd (cpf sf 127) 52 i) 51 1 51 = 1 from pk_us) ?_
    have hP9 : va_P D vwCl [(mo, .inr (8, [.ref ms, .int 1, .ref mb, .int 0, .int 0, .ref mk, .int ml, .ref mfd, .int mf, .int sp, .int on, .int tw])), (ms, .inl (K, 889, .inl (upd (upd (cpf sf 127) ((52 : Int32).toNatClampNeg) i) ((51 : Int32).toNatClampNeg) 1)))] H := hP.sub [0, 1] rfl
    have hD9 : va_D A [(mo, .inr (8, [.ref ms, .int 1, .ref mb, .int 0, .int 0, .ref mk, .int ml, .ref mfd, .int mf, .int sp, .int on, .int tw])), (ms, .inl (K, 889, .inl (upd (upd (cpf sf 127) ((52 : Int32).toNatClampNeg) i) ((51 : Int32).toNatClampNeg) 1)))] := hD.sub [0, 1] (by decide) rfl
    have hK9 : va_K D vwCl [] s := hK.sub [] rfl
    exact W.iret (v := 1) hx hb hr (fun t ht9 hW9 => ⟨⟨1, (0, 1, upd (upd (cpf sf 127) ((52 : Int32).toNatClampNeg) i) ((51 : Int32).toNatClampNeg) 1), rfl, by exact Or.inl ⟨rg_y c_3 c_4, rfl, rfl⟩, ⟨by rw [ht9]; exact hP9, va_K.moved hW9.alike hK9, hD9⟩⟩, hS.F ht9⟩) hS.2.2 dX8_measure_72
  · subst hr9
    refine lv_aload_n hx hb dX8_measure_9 rfl (lv_at hl 0 rfl) ?_
    refine va_get (D := D) (ci := 8) (v := .ref ms) (C := RX8) (T := TX8) (N := 12) hx hb ht inA_X8 hown hK hP 0 rfl rfl 0 (by decide) (ht _ lf_X8_7) (fun _ h9 => h9) rfl dX8_measure_10 ?_
    refine lv_bipush (v := 51) hx hb dX8_measure_13 (by decide) ?_
    refine va_iald hx hb hK hP 1 0 rfl rfl (by unfold vp_in; decide) dX8_measure_15 ?_
    refine k_nrm (y := 0) (show sf (51 : Int32).toNatClampNeg = 0 from hs51) ?_
    refine lv_bipush (v := 41) hx hb dX8_measure_16 (by decide) ?_
    refine lv_icmp_ge (tgt := 25) hx hb dX8_measure_18 (by decide) (fun c9 => absurd c9 (by decide)) (fun _ => ?_)
    refine lv_iconst (v := 1) hx hb dX8_measure_21 (by decide) ?_
    refine lv_goto (tgt := 26) hx hb dX8_measure_22 (by decide) ?_
    have ct := k_cut_of (wc := [(mo, .inr (8, [.ref ms, .int 0, .ref mb, .int 0, .int th, .ref mk, .int ml, .ref mfd, .int mf, .int sp, .int on, .int tw]))]) (wr := [(ms, .inl (K, 889, .inl sf))]) (tc := []) hG hS hA hK hP hD [0] [1] [] rfl rfl (by decide) (by decide) (by decide) rfl
    refine k_endi (As := [.ref mo, .int 0, .int 1]) ct (k_runV (As := [.int 0, .int 1]) (rest := []) S0 Lv_X8_58 rfl (ci := 8) (q0 := 0) rfl rfl ct (c_M_goes0 l D mo ms 0 mb th mk ml mfd mf sp on tw 1 H.size) hl.1 rfl (Nat.le_of_ble_eq_true rfl) rfl dX8_measure_26 ⟨⟨Nat.le_of_ble_eq_true rfl, Nat.le_of_ble_eq_true rfl⟩, Nat.le_of_ble_eq_true rfl, Nat.le_of_ble_eq_true rfl⟩) rfl rfl (fun r_10 _ H locs hw_11 hP hD hK hS => ?_)
    have hK : va_K D vwCl [(K, .int)] s := hK
    have hP : va_P D vwCl [(ms, .inl (K, 889, .inl sf)), (mo, .inr (8, [.ref ms, .int 0, .ref mb, .int 0, .int 1, .ref mk, .int ml, .ref mfd, .int mf, .int sp, .int on, .int tw]))] H := hP
    have hD : va_D A [(ms, .inl (K, 889, .inl sf)), (mo, .inr (8, [.ref ms, .int 0, .ref mb, .int 0, .int 1, .ref mk, .int ml, .ref mfd, .int mf, .int sp, .int on, .int tw]))] := hD
    have hw_11 : r_10 = 0 := hw_11
    have hw_11 := hw_11.symm
    subst hw_11
    refine k_nrm (y := 0) rfl ?_
    refine lv_if_ne (tgt := 34) hx hb dX8_measure_29 (by decide) (fun c9 => absurd (by decide) c9) (fun _ => ?_)
    refine lv_iconst (v := 0) hx hb dX8_measure_32 (by decide) ?_
    have hP9 : va_P D vwCl [(mo, .inr (8, [.ref ms, .int 0, .ref mb, .int 0, .int 1, .ref mk, .int ml, .ref mfd, .int mf, .int sp, .int on, .int tw])), (ms, .inl (K, 889, .inl sf))] H := hP.sub [1, 0] rfl
    have hD9 : va_D A [(mo, .inr (8, [.ref ms, .int 0, .ref mb, .int 0, .int 1, .ref mk, .int ml, .ref mfd, .int mf, .int sp, .int on, .int tw])), (ms, .inl (K, 889, .inl sf))] := hD.sub [1, 0] (by decide) rfl
    have hK9 : va_K D vwCl [] s := hK.sub [] rfl
    exact W.iret (v := 0) hx hb hr (fun t ht9 hW9 => ⟨⟨0, (1, 0, sf), rfl, by exact Or.inr ⟨rg_n c_5, rfl⟩, ⟨by rw [ht9]; exact hP9, va_K.moved hW9.alike hK9, hD9⟩⟩, hS.F ht9⟩) hS.2.2 dX8_measure_33
set_option maxHeartbeats 4000000 in
set_option maxRecDepth 100000 in
theorem c_M_setTol (l : Launch) (D : va_G) (mo : Nat) (ms : Nat) (mb : Nat) (th : Int32) (mk : Nat) (ml : Int32) (mfd : Nat) (mf : Int32) (sp : Int32) (on : Int32) (tw : Int32) (K : ClassId) (sf : Nat → Int32) (i : Int32) (hs0 : sf 0 = 0) (hs51 : sf 51 = 0) (hs93 : sf 93 = 4) (hs94 : sf 94 = 0) (hs125 : sf 125 = 0) (hs126 : sf 126 = 0) (sz : Nat) : k_Mi (S := Int32 × Int32 × (Nat → Int32)) l D yX8_setTolerance cX8_setTolerance 3 (some .int) 2 0 0 44 [.ref mo, .int i] [(mo, .inr (8, [.ref ms, .int 0, .ref mb, .int 0, .int th, .ref mk, .int ml, .ref mfd, .int mf, .int sp, .int on, .int tw])), (ms, .inl (K, 889, .inl sf))] [(K, .int)] (fun (r : Int32) (u : Int32 × Int32 × (Nat → Int32)) => match u with | (th1, sv1, sg) => (k_tol i ∧ r = 4 ∧ th1 = 0) ∨ (¬ k_tol i ∧ th1 = 1)) (fun u => match u with | (th1, sv1, sg) => [(mo, .inr (8, [.ref ms, .int sv1, .ref mb, .int 0, .int th1, .ref mk, .int ml, .ref mfd, .int mf, .int sp, .int on, .int tw])), (ms, .inl (K, 889, .inl sg))]) (fun u => match u with | (th1, sv1, sg) => []) sz := by
  refine Met.ofW (cc := cX8_setTolerance) (maxL := 3) (ret := (some .int)) (by decide) rfl ?_
  intro p e s m args below meth c s₁ B hml hv
  obtain ⟨rfl, hsz, hP, hK, hD0, hG⟩ := hv
  have hx := B.exec
  have hb := B.bytes
  have hr := B.returns
  have ht : ∀ v9 ∈ wsA, v9.before ([.ref mo, .int i] : List Value).toArray s = true := fun v9 h9 => atoms_spec (ws := k_ws yX8_setTolerance cX8_setTolerance 3 (some .int)) B.pre v9 (List.mem_cons_of_mem _ h9)
  have hown : s.vm.findClass RX8 = some m.cls := findClass_of_methodNamed B.named
  have S0 : k_C p s m ([.ref mo, .int i] : List Value).toArray c cX8_setTolerance 3 RX8 := ⟨hx, hb, hml, hown, ht⟩
  have hlocks := B.notSynchronized
  subst hsz
  have hD := hD0.self (sz := s.heap.size)
  generalize hAe : va_A [(mo, .inr (8, [.ref ms, .int 0, .ref mb, .int 0, .int th, .ref mk, .int ml, .ref mfd, .int mf, .int sp, .int on, .int tw])), (ms, .inl (K, 889, .inl sf))] s.heap.size = A at hD hG ⊢
  have hA : ∀ q : Nat, s.heap.size ≤ q → A q := fun q h => by rw [← hAe]; exact Or.inr h
  have hS : va_S A s.heap s.heap [] := va_S.rf
  have hl := lv_entry ([.ref mo, .int i]) (n := 3) (Nat.le_of_ble_eq_true rfl)
  rw [lg_entry_eq]
  generalize (lg_sl ([.ref mo, .int i]) ++ List.replicate (3 - (lg_sl ([.ref mo, .int i])).length) Slot.unset).toArray = ls at hl ⊢
  have hl : lv_has ls 3 [(0, .ref mo), (1, .int i)] := hl
  have hP : va_P D vwCl [(mo, .inr (8, [.ref ms, .int 0, .ref mb, .int 0, .int th, .ref mk, .int ml, .ref mfd, .int mf, .int sp, .int on, .int tw])), (ms, .inl (K, 889, .inl sf))] s.heap := hP
  refine lv_aload_n hx hb dX8_setTolerance_0 rfl (lv_at hl 0 rfl) ?_
  refine lv_iload_n hx hb dX8_setTolerance_1 rfl (lv_at hl 1 rfl) ?_
  refine lv_iconst (v := 1) hx hb dX8_setTolerance_2 (by decide) ?_
  refine lv_bipush (v := 8) hx hb dX8_setTolerance_3 (by decide) ?_
  have ct := k_cut_of (wc := []) (wr := [(mo, .inr (8, [.ref ms, .int 0, .ref mb, .int 0, .int th, .ref mk, .int ml, .ref mfd, .int mf, .int sp, .int on, .int tw])), (ms, .inl (K, 889, .inl sf))]) (tc := []) hG hS hA hK hP hD [] [0, 1] [] rfl rfl (by decide) (by decide) (by decide) rfl
  refine k_endi (As := [.int i, .int 1, .int 8]) ct (k_runS (As := [.int i, .int 1, .int 8]) (rest := [.ref mo]) S0 Ls_X8_46 ct (c_M_in l D i 1 8 s.heap.size) hl.1 rfl (Nat.le_of_ble_eq_true rfl) rfl dX8_setTolerance_5 ⟨⟨Nat.le_of_ble_eq_true rfl, Nat.le_of_ble_eq_true rfl⟩, Nat.le_of_ble_eq_true rfl, Nat.le_of_ble_eq_true rfl⟩) rfl rfl (fun r_1 _ H locs hw_2 hP hD hK hS => ?_)
  have hK : va_K D vwCl [(K, .int)] s := hK
  have hP : va_P D vwCl [(mo, .inr (8, [.ref ms, .int 0, .ref mb, .int 0, .int th, .ref mk, .int ml, .ref mfd, .int mf, .int sp, .int on, .int tw])), (ms, .inl (K, 889, .inl sf))] H := hP
  have hD : va_D A [(mo, .inr (8, [.ref ms, .int 0, .ref mb, .int 0, .int th, .ref mk, .int ml, .ref mfd, .int mf, .int sp, .int on, .int tw])), (ms, .inl (K, 889, .inl sf))] := hD
  rcases hw_2 with ⟨hr9, c_3, c_4⟩ | ⟨hr9, c_5⟩
  · subst hr9
    refine lv_iconst (v := 1) hx hb dX8_setTolerance_8 (by decide) ?_
    have ct := k_cut_of (wc := [(mo, .inr (8, [.ref ms, .int 0, .ref mb, .int 0, .int th, .ref mk, .int ml, .ref mfd, .int mf, .int sp, .int on, .int tw]))]) (wr := [(ms, .inl (K, 889, .inl sf))]) (tc := []) hG hS hA hK hP hD [0] [1] [] rfl rfl (by decide) (by decide) (by decide) rfl
    refine k_endi (As := [.ref mo, .int 1, .int 1]) ct (k_runV (As := [.int 1, .int 1]) (rest := []) S0 Lv_X8_58 rfl (ci := 8) (q0 := 0) rfl rfl ct (c_M_goes11 l D mo ms 0 mb th mk ml mfd mf sp on tw H.size) hl.1 rfl (Nat.le_of_ble_eq_true rfl) rfl dX8_setTolerance_9 ⟨⟨Nat.le_of_ble_eq_true rfl, Nat.le_of_ble_eq_true rfl⟩, Nat.le_of_ble_eq_true rfl, Nat.le_of_ble_eq_true rfl⟩) rfl rfl (fun r_6 _ H locs hw_7 hP hD hK hS => ?_)
    have hK : va_K D vwCl [(K, .int)] s := hK
    have hP : va_P D vwCl [(ms, .inl (K, 889, .inl sf)), (mo, .inr (8, [.ref ms, .int 0, .ref mb, .int 0, .int 0, .ref mk, .int ml, .ref mfd, .int mf, .int sp, .int on, .int tw]))] H := hP
    have hD : va_D A [(ms, .inl (K, 889, .inl sf)), (mo, .inr (8, [.ref ms, .int 0, .ref mb, .int 0, .int 0, .ref mk, .int ml, .ref mfd, .int mf, .int sp, .int on, .int tw]))] := hD
    have hw_7 : r_6 = 1 := hw_7
    have hw_7 := hw_7.symm
    subst hw_7
    refine k_nrm (y := 1) rfl ?_
    refine lv_if_ne (tgt := 17) hx hb dX8_setTolerance_12 (by decide) (fun _ => ?_) (fun c9 => absurd c9 (by decide))
    refine lv_aload_n hx hb dX8_setTolerance_17 rfl (lv_at hl 0 rfl) ?_
    have ct := k_cut_of (wc := [(mo, .inr (8, [.ref ms, .int 0, .ref mb, .int 0, .int 0, .ref mk, .int ml, .ref mfd, .int mf, .int sp, .int on, .int tw])), (ms, .inl (K, 889, .inl sf))]) (wr := []) (tc := [(K, .int)]) hG hS hA hK hP hD [1, 0] [] [0] rfl rfl (by decide) (by decide) (by decide) rfl
    refine k_endv (As := [.ref mo]) ct (k_runV (As := []) (rest := []) S0 Lv_X8_62 rfl (ci := 8) (q0 := 0) rfl rfl ct (c_M_saves l D mo ms mb 0 mk ml mfd mf sp on tw K sf H.size) hl.1 rfl (Nat.le_of_ble_eq_true rfl) rfl dX8_setTolerance_18 ⟨⟨Nat.le_of_ble_eq_true rfl, Nat.le_of_ble_eq_true rfl⟩, Nat.le_of_ble_eq_true rfl, Nat.le_of_ble_eq_true rfl⟩) rfl rfl (fun _ _ H locs hw_9 hP hD hK hS => ?_)
    have hK : va_K D vwCl [(K, .int)] s := hK
    have hP : va_P D vwCl [(mo, .inr (8, [.ref ms, .int 1, .ref mb, .int 0, .int 0, .ref mk, .int ml, .ref mfd, .int mf, .int sp, .int on, .int tw])), (ms, .inl (K, 889, .inl (cpf sf 127)))] H := hP
    have hD : va_D A [(mo, .inr (8, [.ref ms, .int 1, .ref mb, .int 0, .int 0, .ref mk, .int ml, .ref mfd, .int mf, .int sp, .int on, .int tw])), (ms, .inl (K, 889, .inl (cpf sf 127)))] := hD
    refine lv_aload_n hx hb dX8_setTolerance_21 rfl (lv_at hl 0 rfl) ?_
    refine va_get (D := D) (ci := 8) (v := .ref ms) (C := RX8) (T := TX8) (N := 12) hx hb ht inA_X8 hown hK hP 0 rfl rfl 0 (by decide) (ht _ lf_X8_7) (fun _ h9 => h9) rfl dX8_setTolerance_22 ?_
    refine lv_bipush (v := 93) hx hb dX8_setTolerance_25 (by decide) ?_
    refine va_iald hx hb hK hP 1 0 rfl rfl (by unfold vp_in; decide) dX8_setTolerance_27 ?_
    refine k_nrm (y := 4) (show (cpf sf 127) (93 : Int32).toNatClampNeg = 4 from ((cpf_lo (by decide)).trans hs93)) ?_
    refine lv_istore_n (lv' := [(2, .int 4), (0, .ref mo), (1, .int i)]) hx hb dX8_setTolerance_28 rfl hl (by decide) rfl (fun ls hl => ?_)
    refine lv_aload_n hx hb dX8_setTolerance_29 rfl (lv_at hl 1 rfl) ?_
    refine va_get (D := D) (ci := 8) (v := .ref ms) (C := RX8) (T := TX8) (N := 12) hx hb ht inA_X8 hown hK hP 0 rfl rfl 0 (by decide) (ht _ lf_X8_7) (fun _ h9 => h9) rfl dX8_setTolerance_30 ?_
    refine lv_bipush (v := 93) hx hb dX8_setTolerance_33 (by decide) ?_
    refine lv_iload_n hx hb dX8_setTolerance_35 rfl (lv_at hl 2 rfl) ?_
    refine va_iast hx hb hK hP hD hS 1 0 rfl rfl (by unfold vp_in; decide) dX8_setTolerance_36 (fun H locs hP hD hS => ?_)
    have hP : va_P D vwCl [(mo, .inr (8, [.ref ms, .int 1, .ref mb, .int 0, .int 0, .ref mk, .int ml, .ref mfd, .int mf, .int sp, .int on, .int tw])), (ms, .inl (K, 889, .inl (upd (cpf sf 127) ((93 : Int32).toNatClampNeg) i)))] H := hP
    have hD : va_D A [(mo, .inr (8, [.ref ms, .int 1, .ref mb, .int 0, .int 0, .ref mk, .int ml, .ref mfd, .int mf, .int sp, .int on, .int tw])), (ms, .inl (K, 889, .inl (upd (cpf sf 127) ((93 : Int32).toNatClampNeg) i)))] := hD
    refine lv_iload_n hx hb dX8_setTolerance_37 rfl (lv_at hl 0 rfl) ?_
    have hP9 : va_P D vwCl [(mo, .inr (8, [.ref ms, .int 1, .ref mb, .int 0, .int 0, .ref mk, .int ml, .ref mfd, .int mf, .int sp, .int on, .int tw])), (ms, .inl (K, 889, .inl (upd (cpf sf 127) ((93 : Int32).toNatClampNeg) i)))] H := hP.sub [0, 1] rfl
    have hD9 : va_D A [(mo, .inr (8, [.ref ms, .int 1, .ref mb, .int 0, .int 0, .ref mk, .int ml, .ref mfd, .int mf, .int sp, .int on, .int tw])), (ms, .inl (K, 889, .inl (upd (cpf sf 127) ((93 : Int32).toNatClampNeg) i)))] := hD.sub [0, 1] (by decide) rfl
    have hK9 : va_K D vwCl [] s := hK.sub [] rfl
    exact W.iret (v := 4) hx hb hr (fun t ht9 hW9 => ⟨⟨4, (0, 1, upd (cpf sf 127) ((93 : Int32).toNatClampNeg) i), rfl, by exact Or.inl ⟨rg_y c_3 c_4, rfl, rfl⟩, ⟨by rw [ht9]; exact hP9, va_K.moved hW9.alike hK9, hD9⟩⟩, hS.F ht9⟩) hS.2.2 dX8_setTolerance_38
  · subst hr9
    refine lv_iconst (v := 1) hx hb dX8_setTolerance_8 (by decide) ?_
    have ct := k_cut_of (wc := [(mo, .inr (8, [.ref ms, .int 0, .ref mb, .int 0, .int th, .ref mk, .int ml, .ref mfd, .int mf, .int sp, .int on, .int tw]))]) (wr := [(ms, .inl (K, 889, .inl sf))]) (tc := []) hG hS hA hK hP hD [0] [1] [] rfl rfl (by decide) (by decide) (by decide) rfl
    refine k_endi (As := [.ref mo, .int 0, .int 1]) ct (k_runV (As := [.int 0, .int 1]) (rest := []) S0 Lv_X8_58 rfl (ci := 8) (q0 := 0) rfl rfl ct (c_M_goes0 l D mo ms 0 mb th mk ml mfd mf sp on tw 1 H.size) hl.1 rfl (Nat.le_of_ble_eq_true rfl) rfl dX8_setTolerance_9 ⟨⟨Nat.le_of_ble_eq_true rfl, Nat.le_of_ble_eq_true rfl⟩, Nat.le_of_ble_eq_true rfl, Nat.le_of_ble_eq_true rfl⟩) rfl rfl (fun r_10 _ H locs hw_11 hP hD hK hS => ?_)
    have hK : va_K D vwCl [(K, .int)] s := hK
    have hP : va_P D vwCl [(ms, .inl (K, 889, .inl sf)), (mo, .inr (8, [.ref ms, .int 0, .ref mb, .int 0, .int 1, .ref mk, .int ml, .ref mfd, .int mf, .int sp, .int on, .int tw]))] H := hP
    have hD : va_D A [(ms, .inl (K, 889, .inl sf)), (mo, .inr (8, [.ref ms, .int 0, .ref mb, .int 0, .int 1, .ref mk, .int ml, .ref mfd, .int mf, .int sp, .int on, .int tw]))] := hD
    have hw_11 : r_10 = 0 := hw_11
    have hw_11 := hw_11.symm
    subst hw_11
    refine k_nrm (y := 0) rfl ?_
    refine lv_if_ne (tgt := 17) hx hb dX8_setTolerance_12 (by decide) (fun c9 => absurd (by decide) c9) (fun _ => ?_)
    refine lv_iconst (v := 0) hx hb dX8_setTolerance_15 (by decide) ?_
    have hP9 : va_P D vwCl [(mo, .inr (8, [.ref ms, .int 0, .ref mb, .int 0, .int 1, .ref mk, .int ml, .ref mfd, .int mf, .int sp, .int on, .int tw])), (ms, .inl (K, 889, .inl sf))] H := hP.sub [1, 0] rfl
    have hD9 : va_D A [(mo, .inr (8, [.ref ms, .int 0, .ref mb, .int 0, .int 1, .ref mk, .int ml, .ref mfd, .int mf, .int sp, .int on, .int tw])), (ms, .inl (K, 889, .inl sf))] := hD.sub [1, 0] (by decide) rfl
    have hK9 : va_K D vwCl [] s := hK.sub [] rfl
    exact W.iret (v := 0) hx hb hr (fun t ht9 hW9 => ⟨⟨0, (1, 0, sf), rfl, by exact Or.inr ⟨rg_n c_5, rfl⟩, ⟨by rw [ht9]; exact hP9, va_K.moved hW9.alike hK9, hD9⟩⟩, hS.F ht9⟩) hS.2.2 dX8_setTolerance_16
set_option maxHeartbeats 4000000 in
set_option maxRecDepth 100000 in
theorem c_M_append (l : Launch) (D : va_G) (mo : Nat) (ms : Nat) (sv : Int32) (mb : Nat) (th : Int32) (mk : Nat) (ml : Int32) (mfd : Nat) (mf : Int32) (sp : Int32) (on : Int32) (tw : Int32) (KC : ClassId) (bf : Nat → Int32) (i : Int32) (sz : Nat) : k_Mi (S := Int32 × Int32 × (Nat → Int32)) l D yX8_append cX8_append 2 (some .int) 1 0 0 22 [.ref mo, .int i] [(mo, .inr (8, [.ref ms, .int sv, .ref mb, .int 0, .int th, .ref mk, .int ml, .ref mfd, .int mf, .int sp, .int on, .int tw])), (mb, .inl (KC, 60, .inl bf))] [(KC, .char)] (fun (r : Int32) (u : Int32 × Int32 × (Nat → Int32)) => match u with | (th1, ty1, bg) => (k_chr i ∧ r = 1 ∧ th1 = 0) ∨ (¬ k_chr i ∧ th1 = 1)) (fun u => match u with | (th1, ty1, bg) => [(mo, .inr (8, [.ref ms, .int sv, .ref mb, .int ty1, .int th1, .ref mk, .int ml, .ref mfd, .int mf, .int sp, .int on, .int tw])), (mb, .inl (KC, 60, .inl bg))]) (fun u => match u with | (th1, ty1, bg) => []) sz := by
  refine Met.ofW (cc := cX8_append) (maxL := 2) (ret := (some .int)) (by decide) rfl ?_
  intro p e s m args below meth c s₁ B hml hv
  obtain ⟨rfl, hsz, hP, hK, hD0, hG⟩ := hv
  have hx := B.exec
  have hb := B.bytes
  have hr := B.returns
  have ht : ∀ v9 ∈ wsA, v9.before ([.ref mo, .int i] : List Value).toArray s = true := fun v9 h9 => atoms_spec (ws := k_ws yX8_append cX8_append 2 (some .int)) B.pre v9 (List.mem_cons_of_mem _ h9)
  have hown : s.vm.findClass RX8 = some m.cls := findClass_of_methodNamed B.named
  have S0 : k_C p s m ([.ref mo, .int i] : List Value).toArray c cX8_append 2 RX8 := ⟨hx, hb, hml, hown, ht⟩
  have hlocks := B.notSynchronized
  subst hsz
  have hD := hD0.self (sz := s.heap.size)
  generalize hAe : va_A [(mo, .inr (8, [.ref ms, .int sv, .ref mb, .int 0, .int th, .ref mk, .int ml, .ref mfd, .int mf, .int sp, .int on, .int tw])), (mb, .inl (KC, 60, .inl bf))] s.heap.size = A at hD hG ⊢
  have hA : ∀ q : Nat, s.heap.size ≤ q → A q := fun q h => by rw [← hAe]; exact Or.inr h
  have hS : va_S A s.heap s.heap [] := va_S.rf
  have hl := lv_entry ([.ref mo, .int i]) (n := 2) (Nat.le_of_ble_eq_true rfl)
  rw [lg_entry_eq]
  generalize (lg_sl ([.ref mo, .int i]) ++ List.replicate (2 - (lg_sl ([.ref mo, .int i])).length) Slot.unset).toArray = ls at hl ⊢
  have hl : lv_has ls 2 [(0, .ref mo), (1, .int i)] := hl
  have hP : va_P D vwCl [(mo, .inr (8, [.ref ms, .int sv, .ref mb, .int 0, .int th, .ref mk, .int ml, .ref mfd, .int mf, .int sp, .int on, .int tw])), (mb, .inl (KC, 60, .inl bf))] s.heap := hP
  refine lv_aload_n hx hb dX8_append_0 rfl (lv_at hl 0 rfl) ?_
  refine lv_iload_n hx hb dX8_append_1 rfl (lv_at hl 1 rfl) ?_
  refine lv_bipush (v := 33) hx hb dX8_append_2 (by decide) ?_
  refine lv_bipush (v := 126) hx hb dX8_append_4 (by decide) ?_
  have ct := k_cut_of (wc := []) (wr := [(mo, .inr (8, [.ref ms, .int sv, .ref mb, .int 0, .int th, .ref mk, .int ml, .ref mfd, .int mf, .int sp, .int on, .int tw])), (mb, .inl (KC, 60, .inl bf))]) (tc := []) hG hS hA hK hP hD [] [0, 1] [] rfl rfl (by decide) (by decide) (by decide) rfl
  refine k_endi (As := [.int i, .int 33, .int 126]) ct (k_runS (As := [.int i, .int 33, .int 126]) (rest := [.ref mo]) S0 Ls_X8_46 ct (c_M_in l D i 33 126 s.heap.size) hl.1 rfl (Nat.le_of_ble_eq_true rfl) rfl dX8_append_6 ⟨⟨Nat.le_of_ble_eq_true rfl, Nat.le_of_ble_eq_true rfl⟩, Nat.le_of_ble_eq_true rfl, Nat.le_of_ble_eq_true rfl⟩) rfl rfl (fun r_1 _ H locs hw_2 hP hD hK hS => ?_)
  have hK : va_K D vwCl [(KC, .char)] s := hK
  have hP : va_P D vwCl [(mo, .inr (8, [.ref ms, .int sv, .ref mb, .int 0, .int th, .ref mk, .int ml, .ref mfd, .int mf, .int sp, .int on, .int tw])), (mb, .inl (KC, 60, .inl bf))] H := hP
  have hD : va_D A [(mo, .inr (8, [.ref ms, .int sv, .ref mb, .int 0, .int th, .ref mk, .int ml, .ref mfd, .int mf, .int sp, .int on, .int tw])), (mb, .inl (KC, 60, .inl bf))] := hD
  rcases hw_2 with ⟨hr9, c_3, c_4⟩ | ⟨hr9, c_5⟩
  · subst hr9
    refine lv_aload_n hx hb dX8_append_9 rfl (lv_at hl 0 rfl) ?_
    refine va_get (D := D) (ci := 8) (v := .int 0) (C := RX8) (T := TX8) (N := 12) hx hb ht inA_X8 hown hK hP 0 rfl rfl 3 (by decide) (ht _ lf_X8_147) (fun _ h9 => h9) rfl dX8_append_10 ?_
    refine lv_bipush (v := 60) hx hb dX8_append_13 (by decide) ?_
    refine lv_icmp_ge (tgt := 22) hx hb dX8_append_15 (by decide) (fun c9 => absurd c9 (by decide)) (fun _ => ?_)
    refine lv_iconst (v := 1) hx hb dX8_append_18 (by decide) ?_
    refine lv_goto (tgt := 23) hx hb dX8_append_19 (by decide) ?_
    have ct := k_cut_of (wc := [(mo, .inr (8, [.ref ms, .int sv, .ref mb, .int 0, .int th, .ref mk, .int ml, .ref mfd, .int mf, .int sp, .int on, .int tw]))]) (wr := [(mb, .inl (KC, 60, .inl bf))]) (tc := []) hG hS hA hK hP hD [0] [1] [] rfl rfl (by decide) (by decide) (by decide) rfl
    refine k_endi (As := [.ref mo, .int 1, .int 1]) ct (k_runV (As := [.int 1, .int 1]) (rest := []) S0 Lv_X8_58 rfl (ci := 8) (q0 := 0) rfl rfl ct (c_M_goes11 l D mo ms sv mb th mk ml mfd mf sp on tw H.size) hl.1 rfl (Nat.le_of_ble_eq_true rfl) rfl dX8_append_23 ⟨⟨Nat.le_of_ble_eq_true rfl, Nat.le_of_ble_eq_true rfl⟩, Nat.le_of_ble_eq_true rfl, Nat.le_of_ble_eq_true rfl⟩) rfl rfl (fun r_6 _ H locs hw_7 hP hD hK hS => ?_)
    have hK : va_K D vwCl [(KC, .char)] s := hK
    have hP : va_P D vwCl [(mb, .inl (KC, 60, .inl bf)), (mo, .inr (8, [.ref ms, .int sv, .ref mb, .int 0, .int 0, .ref mk, .int ml, .ref mfd, .int mf, .int sp, .int on, .int tw]))] H := hP
    have hD : va_D A [(mb, .inl (KC, 60, .inl bf)), (mo, .inr (8, [.ref ms, .int sv, .ref mb, .int 0, .int 0, .ref mk, .int ml, .ref mfd, .int mf, .int sp, .int on, .int tw]))] := hD
    have hw_7 : r_6 = 1 := hw_7
    have hw_7 := hw_7.symm
    subst hw_7
    refine k_nrm (y := 1) rfl ?_
    refine lv_if_ne (tgt := 31) hx hb dX8_append_26 (by decide) (fun _ => ?_) (fun c9 => absurd c9 (by decide))
    refine lv_aload_n hx hb dX8_append_31 rfl (lv_at hl 0 rfl) ?_
    refine va_get (D := D) (ci := 8) (v := .ref mb) (C := RX8) (T := TX8) (N := 12) hx hb ht inA_X8 hown hK hP 1 rfl rfl 2 (by decide) (ht _ lf_X8_13) (fun _ h9 => h9) rfl dX8_append_32 ?_
    refine lv_aload_n hx hb dX8_append_35 rfl (lv_at hl 0 rfl) ?_
    refine va_get (D := D) (ci := 8) (v := .int 0) (C := RX8) (T := TX8) (N := 12) hx hb ht inA_X8 hown hK hP 1 rfl rfl 3 (by decide) (ht _ lf_X8_147) (fun _ h9 => h9) rfl dX8_append_36 ?_
    refine lv_iload_n hx hb dX8_append_39 rfl (lv_at hl 1 rfl) ?_
    refine lv_i2c (v := (i.toUInt32 % 65536).toInt32) hx hb dX8_append_40 (rfl) ?_
    refine va_cast hx hb hK hP hD hS 0 0 rfl rfl (by unfold vp_in; decide) dX8_append_41 (fun H locs hP hD hS => ?_)
    have hP : va_P D vwCl [(mb, .inl (KC, 60, .inl (upd bf ((0 : Int32).toNatClampNeg) (vp_nar .char ((i.toUInt32 % 65536).toInt32))))), (mo, .inr (8, [.ref ms, .int sv, .ref mb, .int 0, .int 0, .ref mk, .int ml, .ref mfd, .int mf, .int sp, .int on, .int tw]))] H := hP
    have hD : va_D A [(mb, .inl (KC, 60, .inl (upd bf ((0 : Int32).toNatClampNeg) (vp_nar .char ((i.toUInt32 % 65536).toInt32))))), (mo, .inr (8, [.ref ms, .int sv, .ref mb, .int 0, .int 0, .ref mk, .int ml, .ref mfd, .int mf, .int sp, .int on, .int tw]))] := hD
    refine lv_aload_n hx hb dX8_append_42 rfl (lv_at hl 0 rfl) ?_
    refine lv_dup hx hb dX8_append_43 rfl ?_
    refine va_get (D := D) (ci := 8) (v := .int 0) (C := RX8) (T := TX8) (N := 12) hx hb ht inA_X8 hown hK hP 1 rfl rfl 3 (by decide) (ht _ lf_X8_147) (fun _ h9 => h9) rfl dX8_append_44 ?_
    refine lv_iconst (v := 1) hx hb dX8_append_47 (by decide) ?_
    refine lv_iadd hx hb dX8_append_48 ?_
    refine k_nrm (y := 1) (by decide) ?_
    refine va_put (D := D) (ci := 8) (v := .int 1) (ty := .int) (C := RX8) (T := TX8) (N := 12) hx hb ht inA_X8 tyX8 tyX8_ok nmX8 hown hK hP hD hS 1 rfl rfl 3 (by decide) (ht _ lf_X8_147) (fun _ h9 => h9) rfl (tyX8_ok 3 (by decide)) rfl rfl (Nat.le_of_ble_eq_true rfl) dX8_append_49 (fun H locs hP hD hS => ?_)
    have hP : va_P D vwCl [(mb, .inl (KC, 60, .inl (upd bf ((0 : Int32).toNatClampNeg) (vp_nar .char ((i.toUInt32 % 65536).toInt32))))), (mo, .inr (8, [.ref ms, .int sv, .ref mb, .int 1, .int 0, .ref mk, .int ml, .ref mfd, .int mf, .int sp, .int on, .int tw]))] H := hP
    have hD : va_D A [(mb, .inl (KC, 60, .inl (upd bf ((0 : Int32).toNatClampNeg) (vp_nar .char ((i.toUInt32 % 65536).toInt32))))), (mo, .inr (8, [.ref ms, .int sv, .ref mb, .int 1, .int 0, .ref mk, .int ml, .ref mfd, .int mf, .int sp, .int on, .int tw]))] := hD
    refine lv_aload_n hx hb dX8_append_52 rfl (lv_at hl 0 rfl) ?_
    refine va_get (D := D) (ci := 8) (v := .int 1) (C := RX8) (T := TX8) (N := 12) hx hb ht inA_X8 hown hK hP 1 rfl rfl 3 (by decide) (ht _ lf_X8_147) (fun _ h9 => h9) rfl dX8_append_53 ?_
    have hP9 : va_P D vwCl [(mo, .inr (8, [.ref ms, .int sv, .ref mb, .int 1, .int 0, .ref mk, .int ml, .ref mfd, .int mf, .int sp, .int on, .int tw])), (mb, .inl (KC, 60, .inl (upd bf ((0 : Int32).toNatClampNeg) (vp_nar .char ((i.toUInt32 % 65536).toInt32)))))] H := hP.sub [1, 0] rfl
    have hD9 : va_D A [(mo, .inr (8, [.ref ms, .int sv, .ref mb, .int 1, .int 0, .ref mk, .int ml, .ref mfd, .int mf, .int sp, .int on, .int tw])), (mb, .inl (KC, 60, .inl (upd bf ((0 : Int32).toNatClampNeg) (vp_nar .char ((i.toUInt32 % 65536).toInt32)))))] := hD.sub [1, 0] (by decide) rfl
    have hK9 : va_K D vwCl [] s := hK.sub [] rfl
    exact W.iret (v := 1) hx hb hr (fun t ht9 hW9 => ⟨⟨1, (0, 1, upd bf ((0 : Int32).toNatClampNeg) (vp_nar .char ((i.toUInt32 % 65536).toInt32))), rfl, by exact Or.inl ⟨rg_y c_3 c_4, rfl, rfl⟩, ⟨by rw [ht9]; exact hP9, va_K.moved hW9.alike hK9, hD9⟩⟩, hS.F ht9⟩) hS.2.2 dX8_append_56
  · subst hr9
    refine lv_aload_n hx hb dX8_append_9 rfl (lv_at hl 0 rfl) ?_
    refine va_get (D := D) (ci := 8) (v := .int 0) (C := RX8) (T := TX8) (N := 12) hx hb ht inA_X8 hown hK hP 0 rfl rfl 3 (by decide) (ht _ lf_X8_147) (fun _ h9 => h9) rfl dX8_append_10 ?_
    refine lv_bipush (v := 60) hx hb dX8_append_13 (by decide) ?_
    refine lv_icmp_ge (tgt := 22) hx hb dX8_append_15 (by decide) (fun c9 => absurd c9 (by decide)) (fun _ => ?_)
    refine lv_iconst (v := 1) hx hb dX8_append_18 (by decide) ?_
    refine lv_goto (tgt := 23) hx hb dX8_append_19 (by decide) ?_
    have ct := k_cut_of (wc := [(mo, .inr (8, [.ref ms, .int sv, .ref mb, .int 0, .int th, .ref mk, .int ml, .ref mfd, .int mf, .int sp, .int on, .int tw]))]) (wr := [(mb, .inl (KC, 60, .inl bf))]) (tc := []) hG hS hA hK hP hD [0] [1] [] rfl rfl (by decide) (by decide) (by decide) rfl
    refine k_endi (As := [.ref mo, .int 0, .int 1]) ct (k_runV (As := [.int 0, .int 1]) (rest := []) S0 Lv_X8_58 rfl (ci := 8) (q0 := 0) rfl rfl ct (c_M_goes0 l D mo ms sv mb th mk ml mfd mf sp on tw 1 H.size) hl.1 rfl (Nat.le_of_ble_eq_true rfl) rfl dX8_append_23 ⟨⟨Nat.le_of_ble_eq_true rfl, Nat.le_of_ble_eq_true rfl⟩, Nat.le_of_ble_eq_true rfl, Nat.le_of_ble_eq_true rfl⟩) rfl rfl (fun r_8 _ H locs hw_9 hP hD hK hS => ?_)
    have hK : va_K D vwCl [(KC, .char)] s := hK
    have hP : va_P D vwCl [(mb, .inl (KC, 60, .inl bf)), (mo, .inr (8, [.ref ms, .int sv, .ref mb, .int 0, .int 1, .ref mk, .int ml, .ref mfd, .int mf, .int sp, .int on, .int tw]))] H := hP
    have hD : va_D A [(mb, .inl (KC, 60, .inl bf)), (mo, .inr (8, [.ref ms, .int sv, .ref mb, .int 0, .int 1, .ref mk, .int ml, .ref mfd, .int mf, .int sp, .int on, .int tw]))] := hD
    have hw_9 : r_8 = 0 := hw_9
    have hw_9 := hw_9.symm
    subst hw_9
    refine k_nrm (y := 0) rfl ?_
    refine lv_if_ne (tgt := 31) hx hb dX8_append_26 (by decide) (fun c9 => absurd (by decide) c9) (fun _ => ?_)
    refine lv_iconst (v := 0) hx hb dX8_append_29 (by decide) ?_
    have hP9 : va_P D vwCl [(mo, .inr (8, [.ref ms, .int sv, .ref mb, .int 0, .int 1, .ref mk, .int ml, .ref mfd, .int mf, .int sp, .int on, .int tw])), (mb, .inl (KC, 60, .inl bf))] H := hP.sub [1, 0] rfl
    have hD9 : va_D A [(mo, .inr (8, [.ref ms, .int sv, .ref mb, .int 0, .int 1, .ref mk, .int ml, .ref mfd, .int mf, .int sp, .int on, .int tw])), (mb, .inl (KC, 60, .inl bf))] := hD.sub [1, 0] (by decide) rfl
    have hK9 : va_K D vwCl [] s := hK.sub [] rfl
    exact W.iret (v := 0) hx hb hr (fun t ht9 hW9 => ⟨⟨0, (1, 0, bf), rfl, by exact Or.inr ⟨rg_n c_5, rfl⟩, ⟨by rw [ht9]; exact hP9, va_K.moved hW9.alike hK9, hD9⟩⟩, hS.F ht9⟩) hS.2.2 dX8_append_30
set_option maxHeartbeats 4000000 in
set_option maxRecDepth 100000 in
theorem c_M_digit (l : Launch) (D : va_G) (mo : Nat) (ms : Nat) (sv : Int32) (mb : Nat) (th : Int32) (mk : Nat) (ml : Int32) (mfd : Nat) (mf : Int32) (sp : Int32) (on : Int32) (tw : Int32) (K : ClassId) (sf : Nat → Int32) (i : Int32) (hs0 : sf 0 = 0) (hs51 : sf 51 = 0) (hs93 : sf 93 = 4) (hs94 : sf 94 = 0) (hs125 : sf 125 = 0) (hs126 : sf 126 = 0) (sz : Nat) : k_Mi (S := Int32 × Int32 × Int32) l D yX8_digit cX8_digit 3 (some .int) 3 0 0 68 [.ref mo, .int i] [(mo, .inr (8, [.ref ms, .int sv, .ref mb, .int 0, .int th, .ref mk, .int ml, .ref mfd, .int mf, .int sp, .int on, .int tw])), (ms, .inl (K, 889, .inl sf))] [(K, .int)] (fun (r : Int32) (u : Int32 × Int32 × Int32) => match u with | (th1, ml1, mf1) => (k_in9 i ∧ r = (-1) ∧ th1 = 0) ∨ (¬ k_in9 i ∧ th1 = 1)) (fun u => match u with | (th1, ml1, mf1) => [(mo, .inr (8, [.ref ms, .int sv, .ref mb, .int 0, .int th1, .ref mk, .int ml1, .ref mfd, .int mf1, .int sp, .int on, .int tw])), (ms, .inl (K, 889, .inl sf))]) (fun u => match u with | (th1, ml1, mf1) => []) sz := by
  refine Met.ofW (cc := cX8_digit) (maxL := 3) (ret := (some .int)) (by decide) rfl ?_
  intro p e s m args below meth c s₁ B hml hv
  obtain ⟨rfl, hsz, hP, hK, hD0, hG⟩ := hv
  have hx := B.exec
  have hb := B.bytes
  have hr := B.returns
  have ht : ∀ v9 ∈ wsA, v9.before ([.ref mo, .int i] : List Value).toArray s = true := fun v9 h9 => atoms_spec (ws := k_ws yX8_digit cX8_digit 3 (some .int)) B.pre v9 (List.mem_cons_of_mem _ h9)
  have hown : s.vm.findClass RX8 = some m.cls := findClass_of_methodNamed B.named
  have S0 : k_C p s m ([.ref mo, .int i] : List Value).toArray c cX8_digit 3 RX8 := ⟨hx, hb, hml, hown, ht⟩
  have hlocks := B.notSynchronized
  subst hsz
  have hD := hD0.self (sz := s.heap.size)
  generalize hAe : va_A [(mo, .inr (8, [.ref ms, .int sv, .ref mb, .int 0, .int th, .ref mk, .int ml, .ref mfd, .int mf, .int sp, .int on, .int tw])), (ms, .inl (K, 889, .inl sf))] s.heap.size = A at hD hG ⊢
  have hA : ∀ q : Nat, s.heap.size ≤ q → A q := fun q h => by rw [← hAe]; exact Or.inr h
  have hS : va_S A s.heap s.heap [] := va_S.rf
  have hl := lv_entry ([.ref mo, .int i]) (n := 3) (Nat.le_of_ble_eq_true rfl)
  rw [lg_entry_eq]
  generalize (lg_sl ([.ref mo, .int i]) ++ List.replicate (3 - (lg_sl ([.ref mo, .int i])).length) Slot.unset).toArray = ls at hl ⊢
  have hl : lv_has ls 3 [(0, .ref mo), (1, .int i)] := hl
  have hP : va_P D vwCl [(mo, .inr (8, [.ref ms, .int sv, .ref mb, .int 0, .int th, .ref mk, .int ml, .ref mfd, .int mf, .int sp, .int on, .int tw])), (ms, .inl (K, 889, .inl sf))] s.heap := hP
  refine lv_aload_n hx hb dX8_digit_0 rfl (lv_at hl 0 rfl) ?_
  refine lv_iload_n hx hb dX8_digit_1 rfl (lv_at hl 1 rfl) ?_
  refine lv_iconst (v := 0) hx hb dX8_digit_2 (by decide) ?_
  refine lv_bipush (v := 8) hx hb dX8_digit_3 (by decide) ?_
  have ct := k_cut_of (wc := []) (wr := [(mo, .inr (8, [.ref ms, .int sv, .ref mb, .int 0, .int th, .ref mk, .int ml, .ref mfd, .int mf, .int sp, .int on, .int tw])), (ms, .inl (K, 889, .inl sf))]) (tc := []) hG hS hA hK hP hD [] [0, 1] [] rfl rfl (by decide) (by decide) (by decide) rfl
  refine k_endi (As := [.int i, .int 0, .int 8]) ct (k_runS (As := [.int i, .int 0, .int 8]) (rest := [.ref mo]) S0 Ls_X8_46 ct (c_M_in l D i 0 8 s.heap.size) hl.1 rfl (Nat.le_of_ble_eq_true rfl) rfl dX8_digit_5 ⟨⟨Nat.le_of_ble_eq_true rfl, Nat.le_of_ble_eq_true rfl⟩, Nat.le_of_ble_eq_true rfl, Nat.le_of_ble_eq_true rfl⟩) rfl rfl (fun r_1 _ H locs hw_2 hP hD hK hS => ?_)
  have hK : va_K D vwCl [(K, .int)] s := hK
  have hP : va_P D vwCl [(mo, .inr (8, [.ref ms, .int sv, .ref mb, .int 0, .int th, .ref mk, .int ml, .ref mfd, .int mf, .int sp, .int on, .int tw])), (ms, .inl (K, 889, .inl sf))] H := hP
  have hD : va_D A [(mo, .inr (8, [.ref ms, .int sv, .ref mb, .int 0, .int th, .ref mk, .int ml, .ref mfd, .int mf, .int sp, .int on, .int tw])), (ms, .inl (K, 889, .inl sf))] := hD
  rcases hw_2 with ⟨hr9, c_3, c_4⟩ | ⟨hr9, c_5⟩
  · subst hr9
    refine lv_iconst (v := 1) hx hb dX8_digit_8 (by decide) ?_
    have ct := k_cut_of (wc := [(mo, .inr (8, [.ref ms, .int sv, .ref mb, .int 0, .int th, .ref mk, .int ml, .ref mfd, .int mf, .int sp, .int on, .int tw]))]) (wr := [(ms, .inl (K, 889, .inl sf))]) (tc := []) hG hS hA hK hP hD [0] [1] [] rfl rfl (by decide) (by decide) (by decide) rfl
    refine k_endi (As := [.ref mo, .int 1, .int 1]) ct (k_runV (As := [.int 1, .int 1]) (rest := []) S0 Lv_X8_58 rfl (ci := 8) (q0 := 0) rfl rfl ct (c_M_goes11 l D mo ms sv mb th mk ml mfd mf sp on tw H.size) hl.1 rfl (Nat.le_of_ble_eq_true rfl) rfl dX8_digit_9 ⟨⟨Nat.le_of_ble_eq_true rfl, Nat.le_of_ble_eq_true rfl⟩, Nat.le_of_ble_eq_true rfl, Nat.le_of_ble_eq_true rfl⟩) rfl rfl (fun r_6 _ H locs hw_7 hP hD hK hS => ?_)
    have hK : va_K D vwCl [(K, .int)] s := hK
    have hP : va_P D vwCl [(ms, .inl (K, 889, .inl sf)), (mo, .inr (8, [.ref ms, .int sv, .ref mb, .int 0, .int 0, .ref mk, .int ml, .ref mfd, .int mf, .int sp, .int on, .int tw]))] H := hP
    have hD : va_D A [(ms, .inl (K, 889, .inl sf)), (mo, .inr (8, [.ref ms, .int sv, .ref mb, .int 0, .int 0, .ref mk, .int ml, .ref mfd, .int mf, .int sp, .int on, .int tw]))] := hD
    have hw_7 : r_6 = 1 := hw_7
    have hw_7 := hw_7.symm
    subst hw_7
    refine k_nrm (y := 1) rfl ?_
    refine lv_if_ne (tgt := 17) hx hb dX8_digit_12 (by decide) (fun _ => ?_) (fun c9 => absurd c9 (by decide))
    refine lv_aload_n hx hb dX8_digit_17 rfl (lv_at hl 0 rfl) ?_
    have ct := k_cut_of (wc := [(mo, .inr (8, [.ref ms, .int sv, .ref mb, .int 0, .int 0, .ref mk, .int ml, .ref mfd, .int mf, .int sp, .int on, .int tw])), (ms, .inl (K, 889, .inl sf))]) (wr := []) (tc := [(K, .int)]) hG hS hA hK hP hD [1, 0] [] [0] rfl rfl (by decide) (by decide) (by decide) rfl
    refine k_endv (As := [.ref mo]) ct (k_runV (As := []) (rest := []) S0 Lv_X8_119 rfl (ci := 8) (q0 := 0) rfl rfl ct (c_M_looks l D mo ms sv mb 0 mk ml mfd mf sp on tw K sf (by first | assumption | exact (cpf_lo (by decide)).trans (by assumption)) (by first | assumption | exact (cpf_lo (by decide)).trans (by assumption)) (by first | assumption | exact (cpf_lo (by decide)).trans (by assumption)) (by first | assumption | exact (cpf_lo (by decide)).trans (by assumption)) (by first | assumption | exact (cpf_lo (by decide)).trans (by assumption)) (by first | assumption | exact (cpf_lo (by decide)).trans (by assumption)) H.size) hl.1 rfl (Nat.le_of_ble_eq_true rfl) rfl dX8_digit_18 ⟨⟨Nat.le_of_ble_eq_true rfl, Nat.le_of_ble_eq_true rfl⟩, Nat.le_of_ble_eq_true rfl, Nat.le_of_ble_eq_true rfl⟩) rfl rfl (fun _ _ H locs hw_9 hP hD hK hS => ?_)
    have hK : va_K D vwCl [(K, .int)] s := hK
    have hP : va_P D vwCl [(mo, .inr (8, [.ref ms, .int sv, .ref mb, .int 0, .int 0, .ref mk, .int 0, .ref mfd, .int mf, .int sp, .int on, .int tw])), (ms, .inl (K, 889, .inl sf))] H := hP
    have hD : va_D A [(mo, .inr (8, [.ref ms, .int sv, .ref mb, .int 0, .int 0, .ref mk, .int 0, .ref mfd, .int mf, .int sp, .int on, .int tw])), (ms, .inl (K, 889, .inl sf))] := hD
    refine lv_aload_n hx hb dX8_digit_21 rfl (lv_at hl 0 rfl) ?_
    refine lv_aload_n hx hb dX8_digit_22 rfl (lv_at hl 0 rfl) ?_
    refine va_get (D := D) (ci := 8) (v := .ref ms) (C := RX8) (T := TX8) (N := 12) hx hb ht inA_X8 hown hK hP 0 rfl rfl 0 (by decide) (ht _ lf_X8_7) (fun _ h9 => h9) rfl dX8_digit_23 ?_
    refine lv_bipush (v := 93) hx hb dX8_digit_26 (by decide) ?_
    refine va_iald hx hb hK hP 1 0 rfl rfl (by unfold vp_in; decide) dX8_digit_28 ?_
    refine k_nrm (y := 4) (show sf (93 : Int32).toNatClampNeg = 4 from hs93) ?_
    have ct := k_cut_of (wc := [(mo, .inr (8, [.ref ms, .int sv, .ref mb, .int 0, .int 0, .ref mk, .int 0, .ref mfd, .int mf, .int sp, .int on, .int tw]))]) (wr := [(ms, .inl (K, 889, .inl sf))]) (tc := []) hG hS hA hK hP hD [0] [1] [] rfl rfl (by decide) (by decide) (by decide) rfl
    refine k_endi (As := [.ref mo, .int 4]) ct (k_runV (As := [.int 4]) (rest := []) S0 Lv_X8_122 rfl (ci := 8) (q0 := 0) rfl rfl ct (c_M_reads l D mo ms sv mb 0 mk mfd mf sp on tw 4 H.size) hl.1 rfl (Nat.le_of_ble_eq_true rfl) rfl dX8_digit_29 ⟨⟨Nat.le_of_ble_eq_true rfl, Nat.le_of_ble_eq_true rfl⟩, Nat.le_of_ble_eq_true rfl, Nat.le_of_ble_eq_true rfl⟩) rfl rfl (fun r_10 _ H locs hw_11 hP hD hK hS => ?_)
    have hK : va_K D vwCl [(K, .int)] s := hK
    have hP : va_P D vwCl [(ms, .inl (K, 889, .inl sf)), (mo, .inr (8, [.ref ms, .int sv, .ref mb, .int 0, .int 0, .ref mk, .int 0, .ref mfd, .int (-1), .int sp, .int on, .int tw]))] H := hP
    have hD : va_D A [(ms, .inl (K, 889, .inl sf)), (mo, .inr (8, [.ref ms, .int sv, .ref mb, .int 0, .int 0, .ref mk, .int 0, .ref mfd, .int (-1), .int sp, .int on, .int tw]))] := hD
    have hw_11 : r_10 = 1 := hw_11
    have hw_11 := hw_11.symm
    subst hw_11
    refine k_nrm (y := 1) rfl ?_
    refine lv_istore_n (lv' := [(2, .int 1), (0, .ref mo), (1, .int i)]) hx hb dX8_digit_32 rfl hl (by decide) rfl (fun ls hl => ?_)
    refine lv_iload_n hx hb dX8_digit_33 rfl (lv_at hl 0 rfl) ?_
    refine lv_if_gt (tgt := 45) hx hb dX8_digit_34 (by decide) (fun _ => ?_) (fun c9 => absurd (by decide) c9)
    refine lv_iconst (v := (-1)) hx hb dX8_digit_45 (by decide) ?_
    refine lv_goto (tgt := 55) hx hb dX8_digit_46 (by decide) ?_
    have hP9 : va_P D vwCl [(mo, .inr (8, [.ref ms, .int sv, .ref mb, .int 0, .int 0, .ref mk, .int 0, .ref mfd, .int (-1), .int sp, .int on, .int tw])), (ms, .inl (K, 889, .inl sf))] H := hP.sub [1, 0] rfl
    have hD9 : va_D A [(mo, .inr (8, [.ref ms, .int sv, .ref mb, .int 0, .int 0, .ref mk, .int 0, .ref mfd, .int (-1), .int sp, .int on, .int tw])), (ms, .inl (K, 889, .inl sf))] := hD.sub [1, 0] (by decide) rfl
    have hK9 : va_K D vwCl [] s := hK.sub [] rfl
    exact W.iret (v := (-1)) hx hb hr (fun t ht9 hW9 => ⟨⟨(-1), (0, 0, (-1)), rfl, by exact Or.inl ⟨in9_y c_3 c_4, rfl, rfl⟩, ⟨by rw [ht9]; exact hP9, va_K.moved hW9.alike hK9, hD9⟩⟩, hS.F ht9⟩) hS.2.2 dX8_digit_55
  · subst hr9
    refine lv_iconst (v := 1) hx hb dX8_digit_8 (by decide) ?_
    have ct := k_cut_of (wc := [(mo, .inr (8, [.ref ms, .int sv, .ref mb, .int 0, .int th, .ref mk, .int ml, .ref mfd, .int mf, .int sp, .int on, .int tw]))]) (wr := [(ms, .inl (K, 889, .inl sf))]) (tc := []) hG hS hA hK hP hD [0] [1] [] rfl rfl (by decide) (by decide) (by decide) rfl
    refine k_endi (As := [.ref mo, .int 0, .int 1]) ct (k_runV (As := [.int 0, .int 1]) (rest := []) S0 Lv_X8_58 rfl (ci := 8) (q0 := 0) rfl rfl ct (c_M_goes0 l D mo ms sv mb th mk ml mfd mf sp on tw 1 H.size) hl.1 rfl (Nat.le_of_ble_eq_true rfl) rfl dX8_digit_9 ⟨⟨Nat.le_of_ble_eq_true rfl, Nat.le_of_ble_eq_true rfl⟩, Nat.le_of_ble_eq_true rfl, Nat.le_of_ble_eq_true rfl⟩) rfl rfl (fun r_12 _ H locs hw_13 hP hD hK hS => ?_)
    have hK : va_K D vwCl [(K, .int)] s := hK
    have hP : va_P D vwCl [(ms, .inl (K, 889, .inl sf)), (mo, .inr (8, [.ref ms, .int sv, .ref mb, .int 0, .int 1, .ref mk, .int ml, .ref mfd, .int mf, .int sp, .int on, .int tw]))] H := hP
    have hD : va_D A [(ms, .inl (K, 889, .inl sf)), (mo, .inr (8, [.ref ms, .int sv, .ref mb, .int 0, .int 1, .ref mk, .int ml, .ref mfd, .int mf, .int sp, .int on, .int tw]))] := hD
    have hw_13 : r_12 = 0 := hw_13
    have hw_13 := hw_13.symm
    subst hw_13
    refine k_nrm (y := 0) rfl ?_
    refine lv_if_ne (tgt := 17) hx hb dX8_digit_12 (by decide) (fun c9 => absurd (by decide) c9) (fun _ => ?_)
    refine lv_iconst (v := 0) hx hb dX8_digit_15 (by decide) ?_
    have hP9 : va_P D vwCl [(mo, .inr (8, [.ref ms, .int sv, .ref mb, .int 0, .int 1, .ref mk, .int ml, .ref mfd, .int mf, .int sp, .int on, .int tw])), (ms, .inl (K, 889, .inl sf))] H := hP.sub [1, 0] rfl
    have hD9 : va_D A [(mo, .inr (8, [.ref ms, .int sv, .ref mb, .int 0, .int 1, .ref mk, .int ml, .ref mfd, .int mf, .int sp, .int on, .int tw])), (ms, .inl (K, 889, .inl sf))] := hD.sub [1, 0] (by decide) rfl
    have hK9 : va_K D vwCl [] s := hK.sub [] rfl
    exact W.iret (v := 0) hx hb hr (fun t ht9 hW9 => ⟨⟨0, (1, ml, mf), rfl, by exact Or.inr ⟨in9_n c_5, rfl⟩, ⟨by rw [ht9]; exact hP9, va_K.moved hW9.alike hK9, hD9⟩⟩, hS.F ht9⟩) hS.2.2 dX8_digit_16
set_option maxHeartbeats 4000000 in
set_option maxRecDepth 100000 in
theorem c_M_arePeriods (l : Launch) (D : va_G) (i : Int32) (j : Int32) (sz : Nat) : k_Mi (S := Unit) l D yX8_arePeriods cX8_arePeriods 2 (some .boolean) 1 0 0 22 [.int i, .int j] [] [] (fun (r : Int32) (_ : Unit) => (r = 1 ∧ k_per i j) ∨ (r = 0 ∧ ¬ k_per i j)) (fun _ => []) (fun _ => []) sz := by
  refine Met.ofW (cc := cX8_arePeriods) (maxL := 2) (ret := (some .boolean)) (by decide) rfl ?_
  intro p e s m args below meth c s₁ B hml hv
  obtain ⟨rfl, hsz, hP, hK, hD0, hG⟩ := hv
  have hx := B.exec
  have hb := B.bytes
  have hr := B.returns
  have ht : ∀ v9 ∈ wsA, v9.before ([.int i, .int j] : List Value).toArray s = true := fun v9 h9 => atoms_spec (ws := k_ws yX8_arePeriods cX8_arePeriods 2 (some .boolean)) B.pre v9 (List.mem_cons_of_mem _ h9)
  have hown : s.vm.findClass RX8 = some m.cls := findClass_of_methodNamed B.named
  have S0 : k_C p s m ([.int i, .int j] : List Value).toArray c cX8_arePeriods 2 RX8 := ⟨hx, hb, hml, hown, ht⟩
  have hlocks := B.notSynchronized
  subst hsz
  have hD := hD0.self (sz := s.heap.size)
  generalize hAe : va_A [] s.heap.size = A at hD hG ⊢
  have hA : ∀ q : Nat, s.heap.size ≤ q → A q := fun q h => by rw [← hAe]; exact Or.inr h
  have hS : va_S A s.heap s.heap [] := va_S.rf
  have hl := lv_entry ([.int i, .int j]) (n := 2) (Nat.le_of_ble_eq_true rfl)
  rw [lg_entry_eq]
  generalize (lg_sl ([.int i, .int j]) ++ List.replicate (2 - (lg_sl ([.int i, .int j])).length) Slot.unset).toArray = ls at hl ⊢
  have hl : lv_has ls 2 [(0, .int i), (1, .int j)] := hl
  have hP : va_P D vwCl [] s.heap := hP
  refine lv_iload_n hx hb dX8_arePeriods_0 rfl (lv_at hl 0 rfl) ?_
  refine lv_iconst (v := 1) hx hb dX8_arePeriods_1 (by decide) ?_
  refine lv_bipush (v := 50) hx hb dX8_arePeriods_2 (by decide) ?_
  have ct := k_cut_of (wc := []) (wr := []) (tc := []) hG hS hA hK hP hD [] [] [] rfl rfl (by decide) (by decide) (by decide) rfl
  refine k_endi (As := [.int i, .int 1, .int 50]) ct (k_runS (As := [.int i, .int 1, .int 50]) (rest := []) S0 Ls_X8_46 ct (c_M_in l D i 1 50 s.heap.size) hl.1 rfl (Nat.le_of_ble_eq_true rfl) rfl dX8_arePeriods_4 ⟨⟨Nat.le_of_ble_eq_true rfl, Nat.le_of_ble_eq_true rfl⟩, Nat.le_of_ble_eq_true rfl, Nat.le_of_ble_eq_true rfl⟩) rfl rfl (fun r_1 _ H locs hw_2 hP hD hK hS => ?_)
  have hK : va_K D vwCl [] s := hK
  have hP : va_P D vwCl [] H := hP
  have hD : va_D A [] := hD
  rcases hw_2 with ⟨hr9, c_3, c_4⟩ | ⟨hr9, c_5⟩
  · subst hr9
    refine lv_if_eq (tgt := 24) hx hb dX8_arePeriods_7 (by decide) (fun c9 => absurd c9 (by decide)) (fun _ => ?_)
    refine lv_iload_n hx hb dX8_arePeriods_10 rfl (lv_at hl 1 rfl) ?_
    refine lv_iconst (v := 1) hx hb dX8_arePeriods_11 (by decide) ?_
    refine lv_bipush (v := 50) hx hb dX8_arePeriods_12 (by decide) ?_
    have ct := k_cut_of (wc := []) (wr := []) (tc := []) hG hS hA hK hP hD [] [] [] rfl rfl (by decide) (by decide) (by decide) rfl
    refine k_endi (As := [.int j, .int 1, .int 50]) ct (k_runS (As := [.int j, .int 1, .int 50]) (rest := []) S0 Ls_X8_46 ct (c_M_in l D j 1 50 H.size) hl.1 rfl (Nat.le_of_ble_eq_true rfl) rfl dX8_arePeriods_14 ⟨⟨Nat.le_of_ble_eq_true rfl, Nat.le_of_ble_eq_true rfl⟩, Nat.le_of_ble_eq_true rfl, Nat.le_of_ble_eq_true rfl⟩) rfl rfl (fun r_6 _ H locs hw_7 hP hD hK hS => ?_)
    have hK : va_K D vwCl [] s := hK
    have hP : va_P D vwCl [] H := hP
    have hD : va_D A [] := hD
    rcases hw_7 with ⟨hr9, c_8, c_9⟩ | ⟨hr9, c_10⟩
    · subst hr9
      refine lv_if_eq (tgt := 24) hx hb dX8_arePeriods_17 (by decide) (fun c9 => absurd c9 (by decide)) (fun _ => ?_)
      refine lv_iconst (v := 1) hx hb dX8_arePeriods_20 (by decide) ?_
      refine lv_goto (tgt := 25) hx hb dX8_arePeriods_21 (by decide) ?_
      have hP9 : va_P D vwCl [] H := hP.sub [] rfl
      have hD9 : va_D A [] := hD.sub [] (by decide) rfl
      have hK9 : va_K D vwCl [] s := hK.sub [] rfl
      exact W.zret (v := 1) hx hb hr (rfl) (fun t ht9 hW9 => ⟨⟨1, (), rfl, by exact Or.inl ⟨rfl, per_y c_3 c_4 c_8 c_9⟩, ⟨by rw [ht9]; exact hP9, va_K.moved hW9.alike hK9, hD9⟩⟩, hS.F ht9⟩) hS.2.2 dX8_arePeriods_25
    · subst hr9
      refine lv_if_eq (tgt := 24) hx hb dX8_arePeriods_17 (by decide) (fun _ => ?_) (fun c9 => absurd (by decide) c9)
      refine lv_iconst (v := 0) hx hb dX8_arePeriods_24 (by decide) ?_
      have hP9 : va_P D vwCl [] H := hP.sub [] rfl
      have hD9 : va_D A [] := hD.sub [] (by decide) rfl
      have hK9 : va_K D vwCl [] s := hK.sub [] rfl
      exact W.zret (v := 0) hx hb hr (rfl) (fun t ht9 hW9 => ⟨⟨0, (), rfl, by exact Or.inr ⟨rfl, per_n2 c_10⟩, ⟨by rw [ht9]; exact hP9, va_K.moved hW9.alike hK9, hD9⟩⟩, hS.F ht9⟩) hS.2.2 dX8_arePeriods_25
  · subst hr9
    refine lv_if_eq (tgt := 24) hx hb dX8_arePeriods_7 (by decide) (fun _ => ?_) (fun c9 => absurd (by decide) c9)
    refine lv_iconst (v := 0) hx hb dX8_arePeriods_24 (by decide) ?_
    have hP9 : va_P D vwCl [] H := hP.sub [] rfl
    have hD9 : va_D A [] := hD.sub [] (by decide) rfl
    have hK9 : va_K D vwCl [] s := hK.sub [] rfl
    exact W.zret (v := 0) hx hb hr (rfl) (fun t ht9 hW9 => ⟨⟨0, (), rfl, by exact Or.inr ⟨rfl, per_n1 c_5⟩, ⟨by rw [ht9]; exact hP9, va_K.moved hW9.alike hK9, hD9⟩⟩, hS.F ht9⟩) hS.2.2 dX8_arePeriods_25
set_option maxHeartbeats 4000000 in
set_option maxRecDepth 100000 in
theorem c_M_draw (l : Launch) (D : va_G) (mo : Nat) (ms : Nat) (sv : Int32) (mb : Nat) (th : Int32) (mk : Nat) (ml : Int32) (mfd : Nat) (mf : Int32) (sp : Int32) (on : Int32) (tw : Int32) (K : ClassId) (sf : Nat → Int32) (i : Int32) (j : Int32) (b : Int32) (hs0 : sf 0 = 0) (hs51 : sf 51 = 0) (hs93 : sf 93 = 4) (hs94 : sf 94 = 0) (hs125 : sf 125 = 0) (hs126 : sf 126 = 0) (sz : Nat) : k_Mi (S := Int32) l D yX8_draw cX8_draw 4 (some .int) 2 0 0 43 [.ref mo, .int i, .int j, .int b] [(mo, .inr (8, [.ref ms, .int sv, .ref mb, .int 0, .int th, .ref mk, .int ml, .ref mfd, .int mf, .int sp, .int on, .int tw])), (ms, .inl (K, 889, .inl sf))] [(K, .int)] (fun (r : Int32) (th1 : Int32) => (k_per i j ∧ th1 = 2) ∨ (¬ k_per i j ∧ th1 = 1)) (fun th1 => [(mo, .inr (8, [.ref ms, .int sv, .ref mb, .int 0, .int th1, .ref mk, .int ml, .ref mfd, .int mf, .int sp, .int on, .int tw])), (ms, .inl (K, 889, .inl sf))]) (fun th1 => []) sz := by
  refine Met.ofW (cc := cX8_draw) (maxL := 4) (ret := (some .int)) (by decide) rfl ?_
  intro p e s m args below meth c s₁ B hml hv
  obtain ⟨rfl, hsz, hP, hK, hD0, hG⟩ := hv
  have hx := B.exec
  have hb := B.bytes
  have hr := B.returns
  have ht : ∀ v9 ∈ wsA, v9.before ([.ref mo, .int i, .int j, .int b] : List Value).toArray s = true := fun v9 h9 => atoms_spec (ws := k_ws yX8_draw cX8_draw 4 (some .int)) B.pre v9 (List.mem_cons_of_mem _ h9)
  have hown : s.vm.findClass RX8 = some m.cls := findClass_of_methodNamed B.named
  have S0 : k_C p s m ([.ref mo, .int i, .int j, .int b] : List Value).toArray c cX8_draw 4 RX8 := ⟨hx, hb, hml, hown, ht⟩
  have hlocks := B.notSynchronized
  subst hsz
  have hD := hD0.self (sz := s.heap.size)
  generalize hAe : va_A [(mo, .inr (8, [.ref ms, .int sv, .ref mb, .int 0, .int th, .ref mk, .int ml, .ref mfd, .int mf, .int sp, .int on, .int tw])), (ms, .inl (K, 889, .inl sf))] s.heap.size = A at hD hG ⊢
  have hA : ∀ q : Nat, s.heap.size ≤ q → A q := fun q h => by rw [← hAe]; exact Or.inr h
  have hS : va_S A s.heap s.heap [] := va_S.rf
  have hl := lv_entry ([.ref mo, .int i, .int j, .int b]) (n := 4) (Nat.le_of_ble_eq_true rfl)
  rw [lg_entry_eq]
  generalize (lg_sl ([.ref mo, .int i, .int j, .int b]) ++ List.replicate (4 - (lg_sl ([.ref mo, .int i, .int j, .int b])).length) Slot.unset).toArray = ls at hl ⊢
  have hl : lv_has ls 4 [(0, .ref mo), (1, .int i), (2, .int j), (3, .int b)] := hl
  have hP : va_P D vwCl [(mo, .inr (8, [.ref ms, .int sv, .ref mb, .int 0, .int th, .ref mk, .int ml, .ref mfd, .int mf, .int sp, .int on, .int tw])), (ms, .inl (K, 889, .inl sf))] s.heap := hP
  refine lv_aload_n hx hb dX8_draw_0 rfl (lv_at hl 0 rfl) ?_
  refine lv_iload_n hx hb dX8_draw_1 rfl (lv_at hl 1 rfl) ?_
  refine lv_iload_n hx hb dX8_draw_2 rfl (lv_at hl 2 rfl) ?_
  have ct := k_cut_of (wc := []) (wr := [(mo, .inr (8, [.ref ms, .int sv, .ref mb, .int 0, .int th, .ref mk, .int ml, .ref mfd, .int mf, .int sp, .int on, .int tw])), (ms, .inl (K, 889, .inl sf))]) (tc := []) hG hS hA hK hP hD [] [0, 1] [] rfl rfl (by decide) (by decide) (by decide) rfl
  refine k_endi (As := [.int i, .int j]) ct (k_runS (As := [.int i, .int j]) (rest := [.ref mo]) S0 Ls_X8_135 ct (c_M_arePeriods l D i j s.heap.size) hl.1 rfl (Nat.le_of_ble_eq_true rfl) rfl dX8_draw_3 ⟨⟨Nat.le_of_ble_eq_true rfl, Nat.le_of_ble_eq_true rfl⟩, Nat.le_of_ble_eq_true rfl, Nat.le_of_ble_eq_true rfl⟩) rfl rfl (fun r_1 _ H locs hw_2 hP hD hK hS => ?_)
  have hK : va_K D vwCl [(K, .int)] s := hK
  have hP : va_P D vwCl [(mo, .inr (8, [.ref ms, .int sv, .ref mb, .int 0, .int th, .ref mk, .int ml, .ref mfd, .int mf, .int sp, .int on, .int tw])), (ms, .inl (K, 889, .inl sf))] H := hP
  have hD : va_D A [(mo, .inr (8, [.ref ms, .int sv, .ref mb, .int 0, .int th, .ref mk, .int ml, .ref mfd, .int mf, .int sp, .int on, .int tw])), (ms, .inl (K, 889, .inl sf))] := hD
  rcases hw_2 with ⟨hr9, c_3⟩ | ⟨hr9, c_4⟩
  · subst hr9
    refine lv_aload_n hx hb dX8_draw_6 rfl (lv_at hl 0 rfl) ?_
    refine va_get (D := D) (ci := 8) (v := .ref ms) (C := RX8) (T := TX8) (N := 12) hx hb ht inA_X8 hown hK hP 0 rfl rfl 0 (by decide) (ht _ lf_X8_7) (fun _ h9 => h9) rfl dX8_draw_7 ?_
    refine lv_iconst (v := 0) hx hb dX8_draw_10 (by decide) ?_
    refine va_iald hx hb hK hP 1 0 rfl rfl (by unfold vp_in; decide) dX8_draw_11 ?_
    refine k_nrm (y := 0) (show sf (0 : Int32).toNatClampNeg = 0 from hs0) ?_
    refine lv_if_le (tgt := 19) hx hb dX8_draw_12 (by decide) (fun _ => ?_) (fun c9 => absurd (by decide) c9)
    refine lv_iconst (v := 0) hx hb dX8_draw_19 (by decide) ?_
    have ct := k_cut_of (wc := [(mo, .inr (8, [.ref ms, .int sv, .ref mb, .int 0, .int th, .ref mk, .int ml, .ref mfd, .int mf, .int sp, .int on, .int tw]))]) (wr := [(ms, .inl (K, 889, .inl sf))]) (tc := []) hG hS hA hK hP hD [0] [1] [] rfl rfl (by decide) (by decide) (by decide) rfl
    refine k_endi (As := [.ref mo, .int 1, .int 0]) ct (k_runV (As := [.int 1, .int 0]) (rest := []) S0 Lv_X8_58 rfl (ci := 8) (q0 := 0) rfl rfl ct (c_M_goes10 l D mo ms sv mb th mk ml mfd mf sp on tw H.size) hl.1 rfl (Nat.le_of_ble_eq_true rfl) rfl dX8_draw_20 ⟨⟨Nat.le_of_ble_eq_true rfl, Nat.le_of_ble_eq_true rfl⟩, Nat.le_of_ble_eq_true rfl, Nat.le_of_ble_eq_true rfl⟩) rfl rfl (fun r_5 _ H locs hw_6 hP hD hK hS => ?_)
    have hK : va_K D vwCl [(K, .int)] s := hK
    have hP : va_P D vwCl [(ms, .inl (K, 889, .inl sf)), (mo, .inr (8, [.ref ms, .int sv, .ref mb, .int 0, .int 2, .ref mk, .int ml, .ref mfd, .int mf, .int sp, .int on, .int tw]))] H := hP
    have hD : va_D A [(ms, .inl (K, 889, .inl sf)), (mo, .inr (8, [.ref ms, .int sv, .ref mb, .int 0, .int 2, .ref mk, .int ml, .ref mfd, .int mf, .int sp, .int on, .int tw]))] := hD
    have hw_6 : r_5 = 0 := hw_6
    have hw_6 := hw_6.symm
    subst hw_6
    refine k_nrm (y := 0) rfl ?_
    refine lv_if_ne (tgt := 28) hx hb dX8_draw_23 (by decide) (fun c9 => absurd (by decide) c9) (fun _ => ?_)
    refine lv_iconst (v := 0) hx hb dX8_draw_26 (by decide) ?_
    have hP9 : va_P D vwCl [(mo, .inr (8, [.ref ms, .int sv, .ref mb, .int 0, .int 2, .ref mk, .int ml, .ref mfd, .int mf, .int sp, .int on, .int tw])), (ms, .inl (K, 889, .inl sf))] H := hP.sub [1, 0] rfl
    have hD9 : va_D A [(mo, .inr (8, [.ref ms, .int sv, .ref mb, .int 0, .int 2, .ref mk, .int ml, .ref mfd, .int mf, .int sp, .int on, .int tw])), (ms, .inl (K, 889, .inl sf))] := hD.sub [1, 0] (by decide) rfl
    have hK9 : va_K D vwCl [] s := hK.sub [] rfl
    exact W.iret (v := 0) hx hb hr (fun t ht9 hW9 => ⟨⟨0, 2, rfl, by exact Or.inl ⟨c_3, rfl⟩, ⟨by rw [ht9]; exact hP9, va_K.moved hW9.alike hK9, hD9⟩⟩, hS.F ht9⟩) hS.2.2 dX8_draw_27
  · subst hr9
    refine lv_aload_n hx hb dX8_draw_6 rfl (lv_at hl 0 rfl) ?_
    refine va_get (D := D) (ci := 8) (v := .ref ms) (C := RX8) (T := TX8) (N := 12) hx hb ht inA_X8 hown hK hP 0 rfl rfl 0 (by decide) (ht _ lf_X8_7) (fun _ h9 => h9) rfl dX8_draw_7 ?_
    refine lv_iconst (v := 0) hx hb dX8_draw_10 (by decide) ?_
    refine va_iald hx hb hK hP 1 0 rfl rfl (by unfold vp_in; decide) dX8_draw_11 ?_
    refine k_nrm (y := 0) (show sf (0 : Int32).toNatClampNeg = 0 from hs0) ?_
    refine lv_if_le (tgt := 19) hx hb dX8_draw_12 (by decide) (fun _ => ?_) (fun c9 => absurd (by decide) c9)
    refine lv_iconst (v := 0) hx hb dX8_draw_19 (by decide) ?_
    have ct := k_cut_of (wc := [(mo, .inr (8, [.ref ms, .int sv, .ref mb, .int 0, .int th, .ref mk, .int ml, .ref mfd, .int mf, .int sp, .int on, .int tw]))]) (wr := [(ms, .inl (K, 889, .inl sf))]) (tc := []) hG hS hA hK hP hD [0] [1] [] rfl rfl (by decide) (by decide) (by decide) rfl
    refine k_endi (As := [.ref mo, .int 0, .int 0]) ct (k_runV (As := [.int 0, .int 0]) (rest := []) S0 Lv_X8_58 rfl (ci := 8) (q0 := 0) rfl rfl ct (c_M_goes0 l D mo ms sv mb th mk ml mfd mf sp on tw 0 H.size) hl.1 rfl (Nat.le_of_ble_eq_true rfl) rfl dX8_draw_20 ⟨⟨Nat.le_of_ble_eq_true rfl, Nat.le_of_ble_eq_true rfl⟩, Nat.le_of_ble_eq_true rfl, Nat.le_of_ble_eq_true rfl⟩) rfl rfl (fun r_7 _ H locs hw_8 hP hD hK hS => ?_)
    have hK : va_K D vwCl [(K, .int)] s := hK
    have hP : va_P D vwCl [(ms, .inl (K, 889, .inl sf)), (mo, .inr (8, [.ref ms, .int sv, .ref mb, .int 0, .int 1, .ref mk, .int ml, .ref mfd, .int mf, .int sp, .int on, .int tw]))] H := hP
    have hD : va_D A [(ms, .inl (K, 889, .inl sf)), (mo, .inr (8, [.ref ms, .int sv, .ref mb, .int 0, .int 1, .ref mk, .int ml, .ref mfd, .int mf, .int sp, .int on, .int tw]))] := hD
    have hw_8 : r_7 = 0 := hw_8
    have hw_8 := hw_8.symm
    subst hw_8
    refine k_nrm (y := 0) rfl ?_
    refine lv_if_ne (tgt := 28) hx hb dX8_draw_23 (by decide) (fun c9 => absurd (by decide) c9) (fun _ => ?_)
    refine lv_iconst (v := 0) hx hb dX8_draw_26 (by decide) ?_
    have hP9 : va_P D vwCl [(mo, .inr (8, [.ref ms, .int sv, .ref mb, .int 0, .int 1, .ref mk, .int ml, .ref mfd, .int mf, .int sp, .int on, .int tw])), (ms, .inl (K, 889, .inl sf))] H := hP.sub [1, 0] rfl
    have hD9 : va_D A [(mo, .inr (8, [.ref ms, .int sv, .ref mb, .int 0, .int 1, .ref mk, .int ml, .ref mfd, .int mf, .int sp, .int on, .int tw])), (ms, .inl (K, 889, .inl sf))] := hD.sub [1, 0] (by decide) rfl
    have hK9 : va_K D vwCl [] s := hK.sub [] rfl
    exact W.iret (v := 0) hx hb hr (fun t ht9 hW9 => ⟨⟨0, 1, rfl, by exact Or.inr ⟨c_4, rfl⟩, ⟨by rw [ht9]; exact hP9, va_K.moved hW9.alike hK9, hD9⟩⟩, hS.F ht9⟩) hS.2.2 dX8_draw_27
set_option maxHeartbeats 4000000 in
set_option maxRecDepth 100000 in
theorem c_M_ifDrawn (l : Launch) (D : va_G) (mo : Nat) (ms : Nat) (sv : Int32) (mb : Nat) (th : Int32) (mk : Nat) (ml : Int32) (mfd : Nat) (mf : Int32) (sp : Int32) (on : Int32) (tw : Int32) (K : ClassId) (sf : Nat → Int32) (i : Int32) (j : Int32) (b : Int32) (hs0 : sf 0 = 0) (hs51 : sf 51 = 0) (hs93 : sf 93 = 4) (hs94 : sf 94 = 0) (hs125 : sf 125 = 0) (hs126 : sf 126 = 0) (sz : Nat) : k_Mi (S := Int32) l D yX8_ifDrawn cX8_ifDrawn 4 (some .int) 2 0 0 43 [.ref mo, .int i, .int j, .int b] [(mo, .inr (8, [.ref ms, .int sv, .ref mb, .int 0, .int th, .ref mk, .int ml, .ref mfd, .int mf, .int sp, .int on, .int tw])), (ms, .inl (K, 889, .inl sf))] [(K, .int)] (fun (r : Int32) (th1 : Int32) => (k_per i j ∧ th1 = 2) ∨ (¬ k_per i j ∧ th1 = 1)) (fun th1 => [(mo, .inr (8, [.ref ms, .int sv, .ref mb, .int 0, .int th1, .ref mk, .int ml, .ref mfd, .int mf, .int sp, .int on, .int tw])), (ms, .inl (K, 889, .inl sf))]) (fun th1 => []) sz := by
  refine Met.ofW (cc := cX8_ifDrawn) (maxL := 4) (ret := (some .int)) (by decide) rfl ?_
  intro p e s m args below meth c s₁ B hml hv
  obtain ⟨rfl, hsz, hP, hK, hD0, hG⟩ := hv
  have hx := B.exec
  have hb := B.bytes
  have hr := B.returns
  have ht : ∀ v9 ∈ wsA, v9.before ([.ref mo, .int i, .int j, .int b] : List Value).toArray s = true := fun v9 h9 => atoms_spec (ws := k_ws yX8_ifDrawn cX8_ifDrawn 4 (some .int)) B.pre v9 (List.mem_cons_of_mem _ h9)
  have hown : s.vm.findClass RX8 = some m.cls := findClass_of_methodNamed B.named
  have S0 : k_C p s m ([.ref mo, .int i, .int j, .int b] : List Value).toArray c cX8_ifDrawn 4 RX8 := ⟨hx, hb, hml, hown, ht⟩
  have hlocks := B.notSynchronized
  subst hsz
  have hD := hD0.self (sz := s.heap.size)
  generalize hAe : va_A [(mo, .inr (8, [.ref ms, .int sv, .ref mb, .int 0, .int th, .ref mk, .int ml, .ref mfd, .int mf, .int sp, .int on, .int tw])), (ms, .inl (K, 889, .inl sf))] s.heap.size = A at hD hG ⊢
  have hA : ∀ q : Nat, s.heap.size ≤ q → A q := fun q h => by rw [← hAe]; exact Or.inr h
  have hS : va_S A s.heap s.heap [] := va_S.rf
  have hl := lv_entry ([.ref mo, .int i, .int j, .int b]) (n := 4) (Nat.le_of_ble_eq_true rfl)
  rw [lg_entry_eq]
  generalize (lg_sl ([.ref mo, .int i, .int j, .int b]) ++ List.replicate (4 - (lg_sl ([.ref mo, .int i, .int j, .int b])).length) Slot.unset).toArray = ls at hl ⊢
  have hl : lv_has ls 4 [(0, .ref mo), (1, .int i), (2, .int j), (3, .int b)] := hl
  have hP : va_P D vwCl [(mo, .inr (8, [.ref ms, .int sv, .ref mb, .int 0, .int th, .ref mk, .int ml, .ref mfd, .int mf, .int sp, .int on, .int tw])), (ms, .inl (K, 889, .inl sf))] s.heap := hP
  refine lv_aload_n hx hb dX8_ifDrawn_0 rfl (lv_at hl 0 rfl) ?_
  refine lv_iload_n hx hb dX8_ifDrawn_1 rfl (lv_at hl 1 rfl) ?_
  refine lv_iload_n hx hb dX8_ifDrawn_2 rfl (lv_at hl 2 rfl) ?_
  have ct := k_cut_of (wc := []) (wr := [(mo, .inr (8, [.ref ms, .int sv, .ref mb, .int 0, .int th, .ref mk, .int ml, .ref mfd, .int mf, .int sp, .int on, .int tw])), (ms, .inl (K, 889, .inl sf))]) (tc := []) hG hS hA hK hP hD [] [0, 1] [] rfl rfl (by decide) (by decide) (by decide) rfl
  refine k_endi (As := [.int i, .int j]) ct (k_runS (As := [.int i, .int j]) (rest := [.ref mo]) S0 Ls_X8_135 ct (c_M_arePeriods l D i j s.heap.size) hl.1 rfl (Nat.le_of_ble_eq_true rfl) rfl dX8_ifDrawn_3 ⟨⟨Nat.le_of_ble_eq_true rfl, Nat.le_of_ble_eq_true rfl⟩, Nat.le_of_ble_eq_true rfl, Nat.le_of_ble_eq_true rfl⟩) rfl rfl (fun r_1 _ H locs hw_2 hP hD hK hS => ?_)
  have hK : va_K D vwCl [(K, .int)] s := hK
  have hP : va_P D vwCl [(mo, .inr (8, [.ref ms, .int sv, .ref mb, .int 0, .int th, .ref mk, .int ml, .ref mfd, .int mf, .int sp, .int on, .int tw])), (ms, .inl (K, 889, .inl sf))] H := hP
  have hD : va_D A [(mo, .inr (8, [.ref ms, .int sv, .ref mb, .int 0, .int th, .ref mk, .int ml, .ref mfd, .int mf, .int sp, .int on, .int tw])), (ms, .inl (K, 889, .inl sf))] := hD
  rcases hw_2 with ⟨hr9, c_3⟩ | ⟨hr9, c_4⟩
  · subst hr9
    refine lv_aload_n hx hb dX8_ifDrawn_6 rfl (lv_at hl 0 rfl) ?_
    refine va_get (D := D) (ci := 8) (v := .ref ms) (C := RX8) (T := TX8) (N := 12) hx hb ht inA_X8 hown hK hP 0 rfl rfl 0 (by decide) (ht _ lf_X8_7) (fun _ h9 => h9) rfl dX8_ifDrawn_7 ?_
    refine lv_iconst (v := 0) hx hb dX8_ifDrawn_10 (by decide) ?_
    refine va_iald hx hb hK hP 1 0 rfl rfl (by unfold vp_in; decide) dX8_ifDrawn_11 ?_
    refine k_nrm (y := 0) (show sf (0 : Int32).toNatClampNeg = 0 from hs0) ?_
    refine lv_if_le (tgt := 19) hx hb dX8_ifDrawn_12 (by decide) (fun _ => ?_) (fun c9 => absurd (by decide) c9)
    refine lv_iconst (v := 0) hx hb dX8_ifDrawn_19 (by decide) ?_
    have ct := k_cut_of (wc := [(mo, .inr (8, [.ref ms, .int sv, .ref mb, .int 0, .int th, .ref mk, .int ml, .ref mfd, .int mf, .int sp, .int on, .int tw]))]) (wr := [(ms, .inl (K, 889, .inl sf))]) (tc := []) hG hS hA hK hP hD [0] [1] [] rfl rfl (by decide) (by decide) (by decide) rfl
    refine k_endi (As := [.ref mo, .int 1, .int 0]) ct (k_runV (As := [.int 1, .int 0]) (rest := []) S0 Lv_X8_58 rfl (ci := 8) (q0 := 0) rfl rfl ct (c_M_goes10 l D mo ms sv mb th mk ml mfd mf sp on tw H.size) hl.1 rfl (Nat.le_of_ble_eq_true rfl) rfl dX8_ifDrawn_20 ⟨⟨Nat.le_of_ble_eq_true rfl, Nat.le_of_ble_eq_true rfl⟩, Nat.le_of_ble_eq_true rfl, Nat.le_of_ble_eq_true rfl⟩) rfl rfl (fun r_5 _ H locs hw_6 hP hD hK hS => ?_)
    have hK : va_K D vwCl [(K, .int)] s := hK
    have hP : va_P D vwCl [(ms, .inl (K, 889, .inl sf)), (mo, .inr (8, [.ref ms, .int sv, .ref mb, .int 0, .int 2, .ref mk, .int ml, .ref mfd, .int mf, .int sp, .int on, .int tw]))] H := hP
    have hD : va_D A [(ms, .inl (K, 889, .inl sf)), (mo, .inr (8, [.ref ms, .int sv, .ref mb, .int 0, .int 2, .ref mk, .int ml, .ref mfd, .int mf, .int sp, .int on, .int tw]))] := hD
    have hw_6 : r_5 = 0 := hw_6
    have hw_6 := hw_6.symm
    subst hw_6
    refine k_nrm (y := 0) rfl ?_
    refine lv_if_ne (tgt := 28) hx hb dX8_ifDrawn_23 (by decide) (fun c9 => absurd (by decide) c9) (fun _ => ?_)
    refine lv_iconst (v := 0) hx hb dX8_ifDrawn_26 (by decide) ?_
    have hP9 : va_P D vwCl [(mo, .inr (8, [.ref ms, .int sv, .ref mb, .int 0, .int 2, .ref mk, .int ml, .ref mfd, .int mf, .int sp, .int on, .int tw])), (ms, .inl (K, 889, .inl sf))] H := hP.sub [1, 0] rfl
    have hD9 : va_D A [(mo, .inr (8, [.ref ms, .int sv, .ref mb, .int 0, .int 2, .ref mk, .int ml, .ref mfd, .int mf, .int sp, .int on, .int tw])), (ms, .inl (K, 889, .inl sf))] := hD.sub [1, 0] (by decide) rfl
    have hK9 : va_K D vwCl [] s := hK.sub [] rfl
    exact W.iret (v := 0) hx hb hr (fun t ht9 hW9 => ⟨⟨0, 2, rfl, by exact Or.inl ⟨c_3, rfl⟩, ⟨by rw [ht9]; exact hP9, va_K.moved hW9.alike hK9, hD9⟩⟩, hS.F ht9⟩) hS.2.2 dX8_ifDrawn_27
  · subst hr9
    refine lv_aload_n hx hb dX8_ifDrawn_6 rfl (lv_at hl 0 rfl) ?_
    refine va_get (D := D) (ci := 8) (v := .ref ms) (C := RX8) (T := TX8) (N := 12) hx hb ht inA_X8 hown hK hP 0 rfl rfl 0 (by decide) (ht _ lf_X8_7) (fun _ h9 => h9) rfl dX8_ifDrawn_7 ?_
    refine lv_iconst (v := 0) hx hb dX8_ifDrawn_10 (by decide) ?_
    refine va_iald hx hb hK hP 1 0 rfl rfl (by unfold vp_in; decide) dX8_ifDrawn_11 ?_
    refine k_nrm (y := 0) (show sf (0 : Int32).toNatClampNeg = 0 from hs0) ?_
    refine lv_if_le (tgt := 19) hx hb dX8_ifDrawn_12 (by decide) (fun _ => ?_) (fun c9 => absurd (by decide) c9)
    refine lv_iconst (v := 0) hx hb dX8_ifDrawn_19 (by decide) ?_
    have ct := k_cut_of (wc := [(mo, .inr (8, [.ref ms, .int sv, .ref mb, .int 0, .int th, .ref mk, .int ml, .ref mfd, .int mf, .int sp, .int on, .int tw]))]) (wr := [(ms, .inl (K, 889, .inl sf))]) (tc := []) hG hS hA hK hP hD [0] [1] [] rfl rfl (by decide) (by decide) (by decide) rfl
    refine k_endi (As := [.ref mo, .int 0, .int 0]) ct (k_runV (As := [.int 0, .int 0]) (rest := []) S0 Lv_X8_58 rfl (ci := 8) (q0 := 0) rfl rfl ct (c_M_goes0 l D mo ms sv mb th mk ml mfd mf sp on tw 0 H.size) hl.1 rfl (Nat.le_of_ble_eq_true rfl) rfl dX8_ifDrawn_20 ⟨⟨Nat.le_of_ble_eq_true rfl, Nat.le_of_ble_eq_true rfl⟩, Nat.le_of_ble_eq_true rfl, Nat.le_of_ble_eq_true rfl⟩) rfl rfl (fun r_7 _ H locs hw_8 hP hD hK hS => ?_)
    have hK : va_K D vwCl [(K, .int)] s := hK
    have hP : va_P D vwCl [(ms, .inl (K, 889, .inl sf)), (mo, .inr (8, [.ref ms, .int sv, .ref mb, .int 0, .int 1, .ref mk, .int ml, .ref mfd, .int mf, .int sp, .int on, .int tw]))] H := hP
    have hD : va_D A [(ms, .inl (K, 889, .inl sf)), (mo, .inr (8, [.ref ms, .int sv, .ref mb, .int 0, .int 1, .ref mk, .int ml, .ref mfd, .int mf, .int sp, .int on, .int tw]))] := hD
    have hw_8 : r_7 = 0 := hw_8
    have hw_8 := hw_8.symm
    subst hw_8
    refine k_nrm (y := 0) rfl ?_
    refine lv_if_ne (tgt := 28) hx hb dX8_ifDrawn_23 (by decide) (fun c9 => absurd (by decide) c9) (fun _ => ?_)
    refine lv_iconst (v := 0) hx hb dX8_ifDrawn_26 (by decide) ?_
    have hP9 : va_P D vwCl [(mo, .inr (8, [.ref ms, .int sv, .ref mb, .int 0, .int 1, .ref mk, .int ml, .ref mfd, .int mf, .int sp, .int on, .int tw])), (ms, .inl (K, 889, .inl sf))] H := hP.sub [1, 0] rfl
    have hD9 : va_D A [(mo, .inr (8, [.ref ms, .int sv, .ref mb, .int 0, .int 1, .ref mk, .int ml, .ref mfd, .int mf, .int sp, .int on, .int tw])), (ms, .inl (K, 889, .inl sf))] := hD.sub [1, 0] (by decide) rfl
    have hK9 : va_K D vwCl [] s := hK.sub [] rfl
    exact W.iret (v := 0) hx hb hr (fun t ht9 hW9 => ⟨⟨0, 1, rfl, by exact Or.inr ⟨c_4, rfl⟩, ⟨by rw [ht9]; exact hP9, va_K.moved hW9.alike hK9, hD9⟩⟩, hS.F ht9⟩) hS.2.2 dX8_ifDrawn_27
set_option maxHeartbeats 4000000 in
set_option maxRecDepth 100000 in
theorem c_M_smudge (l : Launch) (D : va_G) (mo : Nat) (ms : Nat) (sv : Int32) (mb : Nat) (th : Int32) (mk : Nat) (ml : Int32) (mfd : Nat) (mf : Int32) (sp : Int32) (on : Int32) (tw : Int32) (K : ClassId) (sf : Nat → Int32) (i : Int32) (j : Int32) (hs0 : sf 0 = 0) (hs51 : sf 51 = 0) (hs93 : sf 93 = 4) (hs94 : sf 94 = 0) (hs125 : sf 125 = 0) (hs126 : sf 126 = 0) (sz : Nat) : k_Mi (S := Unit) l D yX8_smudge cX8_smudge 3 (some .int) 2 0 0 43 [.ref mo, .int i, .int j] [(mo, .inr (8, [.ref ms, .int sv, .ref mb, .int 0, .int th, .ref mk, .int ml, .ref mfd, .int mf, .int sp, .int on, .int tw])), (ms, .inl (K, 889, .inl sf))] [(K, .int)] (fun (r : Int32) (_ : Unit) => True) (fun _ => [(mo, .inr (8, [.ref ms, .int sv, .ref mb, .int 0, .int 1, .ref mk, .int ml, .ref mfd, .int mf, .int sp, .int on, .int tw])), (ms, .inl (K, 889, .inl sf))]) (fun _ => []) sz := by
  refine Met.ofW (cc := cX8_smudge) (maxL := 3) (ret := (some .int)) (by decide) rfl ?_
  intro p e s m args below meth c s₁ B hml hv
  obtain ⟨rfl, hsz, hP, hK, hD0, hG⟩ := hv
  have hx := B.exec
  have hb := B.bytes
  have hr := B.returns
  have ht : ∀ v9 ∈ wsA, v9.before ([.ref mo, .int i, .int j] : List Value).toArray s = true := fun v9 h9 => atoms_spec (ws := k_ws yX8_smudge cX8_smudge 3 (some .int)) B.pre v9 (List.mem_cons_of_mem _ h9)
  have hown : s.vm.findClass RX8 = some m.cls := findClass_of_methodNamed B.named
  have S0 : k_C p s m ([.ref mo, .int i, .int j] : List Value).toArray c cX8_smudge 3 RX8 := ⟨hx, hb, hml, hown, ht⟩
  have hlocks := B.notSynchronized
  subst hsz
  have hD := hD0.self (sz := s.heap.size)
  generalize hAe : va_A [(mo, .inr (8, [.ref ms, .int sv, .ref mb, .int 0, .int th, .ref mk, .int ml, .ref mfd, .int mf, .int sp, .int on, .int tw])), (ms, .inl (K, 889, .inl sf))] s.heap.size = A at hD hG ⊢
  have hA : ∀ q : Nat, s.heap.size ≤ q → A q := fun q h => by rw [← hAe]; exact Or.inr h
  have hS : va_S A s.heap s.heap [] := va_S.rf
  have hl := lv_entry ([.ref mo, .int i, .int j]) (n := 3) (Nat.le_of_ble_eq_true rfl)
  rw [lg_entry_eq]
  generalize (lg_sl ([.ref mo, .int i, .int j]) ++ List.replicate (3 - (lg_sl ([.ref mo, .int i, .int j])).length) Slot.unset).toArray = ls at hl ⊢
  have hl : lv_has ls 3 [(0, .ref mo), (1, .int i), (2, .int j)] := hl
  have hP : va_P D vwCl [(mo, .inr (8, [.ref ms, .int sv, .ref mb, .int 0, .int th, .ref mk, .int ml, .ref mfd, .int mf, .int sp, .int on, .int tw])), (ms, .inl (K, 889, .inl sf))] s.heap := hP
  refine lv_aload_n hx hb dX8_smudge_0 rfl (lv_at hl 0 rfl) ?_
  refine lv_aload_n hx hb dX8_smudge_1 rfl (lv_at hl 0 rfl) ?_
  refine lv_iload_n hx hb dX8_smudge_2 rfl (lv_at hl 1 rfl) ?_
  have ct := k_cut_of (wc := [(mo, .inr (8, [.ref ms, .int sv, .ref mb, .int 0, .int th, .ref mk, .int ml, .ref mfd, .int mf, .int sp, .int on, .int tw])), (ms, .inl (K, 889, .inl sf))]) (wr := []) (tc := [(K, .int)]) hG hS hA hK hP hD [0, 1] [] [0] rfl rfl (by decide) (by decide) (by decide) rfl
  refine k_endi (As := [.ref mo, .int i]) ct (k_runV (As := [.int i]) (rest := [.ref mo]) S0 Lv_X8_68 rfl (ci := 8) (q0 := 0) rfl rfl ct (c_M_isElement l D mo ms sv mb th mk ml mfd mf sp on tw K sf i (by first | assumption | exact (cpf_lo (by decide)).trans (by assumption)) (by first | assumption | exact (cpf_lo (by decide)).trans (by assumption)) (by first | assumption | exact (cpf_lo (by decide)).trans (by assumption)) (by first | assumption | exact (cpf_lo (by decide)).trans (by assumption)) (by first | assumption | exact (cpf_lo (by decide)).trans (by assumption)) (by first | assumption | exact (cpf_lo (by decide)).trans (by assumption)) s.heap.size) hl.1 rfl (Nat.le_of_ble_eq_true rfl) rfl dX8_smudge_3 ⟨⟨Nat.le_of_ble_eq_true rfl, Nat.le_of_ble_eq_true rfl⟩, Nat.le_of_ble_eq_true rfl, Nat.le_of_ble_eq_true rfl⟩) rfl rfl (fun r_1 _ H locs hw_2 hP hD hK hS => ?_)
  have hK : va_K D vwCl [(K, .int)] s := hK
  have hP : va_P D vwCl [(mo, .inr (8, [.ref ms, .int sv, .ref mb, .int 0, .int th, .ref mk, .int ml, .ref mfd, .int mf, .int sp, .int on, .int tw])), (ms, .inl (K, 889, .inl sf))] H := hP
  have hD : va_D A [(mo, .inr (8, [.ref ms, .int sv, .ref mb, .int 0, .int th, .ref mk, .int ml, .ref mfd, .int mf, .int sp, .int on, .int tw])), (ms, .inl (K, 889, .inl sf))] := hD
  have hw_2 : r_1 = 0 := hw_2
  have hw_2 := hw_2.symm
  subst hw_2
  refine k_nrm (y := 0) rfl ?_
  refine lv_iload_n hx hb dX8_smudge_6 rfl (lv_at hl 2 rfl) ?_
  refine lv_bipush (v := (-9)) hx hb dX8_smudge_7 (by decide) ?_
  refine lv_bipush (v := 9) hx hb dX8_smudge_9 (by decide) ?_
  have ct := k_cut_of (wc := []) (wr := [(mo, .inr (8, [.ref ms, .int sv, .ref mb, .int 0, .int th, .ref mk, .int ml, .ref mfd, .int mf, .int sp, .int on, .int tw])), (ms, .inl (K, 889, .inl sf))]) (tc := []) hG hS hA hK hP hD [] [0, 1] [] rfl rfl (by decide) (by decide) (by decide) rfl
  refine k_endi (As := [.int j, .int (-9), .int 9]) ct (k_runS (As := [.int j, .int (-9), .int 9]) (rest := [.int 0, .ref mo]) S0 Ls_X8_46 ct (c_M_in l D j (-9) 9 H.size) hl.1 rfl (Nat.le_of_ble_eq_true rfl) rfl dX8_smudge_11 ⟨⟨Nat.le_of_ble_eq_true rfl, Nat.le_of_ble_eq_true rfl⟩, Nat.le_of_ble_eq_true rfl, Nat.le_of_ble_eq_true rfl⟩) rfl rfl (fun r_3 _ H locs hw_4 hP hD hK hS => ?_)
  have hK : va_K D vwCl [(K, .int)] s := hK
  have hP : va_P D vwCl [(mo, .inr (8, [.ref ms, .int sv, .ref mb, .int 0, .int th, .ref mk, .int ml, .ref mfd, .int mf, .int sp, .int on, .int tw])), (ms, .inl (K, 889, .inl sf))] H := hP
  have hD : va_D A [(mo, .inr (8, [.ref ms, .int sv, .ref mb, .int 0, .int th, .ref mk, .int ml, .ref mfd, .int mf, .int sp, .int on, .int tw])), (ms, .inl (K, 889, .inl sf))] := hD
  rcases hw_4 with ⟨hr9, c_5, c_6⟩ | ⟨hr9, c_7⟩
  · subst hr9
    have ct := k_cut_of (wc := [(mo, .inr (8, [.ref ms, .int sv, .ref mb, .int 0, .int th, .ref mk, .int ml, .ref mfd, .int mf, .int sp, .int on, .int tw]))]) (wr := [(ms, .inl (K, 889, .inl sf))]) (tc := []) hG hS hA hK hP hD [0] [1] [] rfl rfl (by decide) (by decide) (by decide) rfl
    refine k_endi (As := [.ref mo, .int 0, .int 1]) ct (k_runV (As := [.int 0, .int 1]) (rest := []) S0 Lv_X8_58 rfl (ci := 8) (q0 := 0) rfl rfl ct (c_M_goes0 l D mo ms sv mb th mk ml mfd mf sp on tw 1 H.size) hl.1 rfl (Nat.le_of_ble_eq_true rfl) rfl dX8_smudge_14 ⟨⟨Nat.le_of_ble_eq_true rfl, Nat.le_of_ble_eq_true rfl⟩, Nat.le_of_ble_eq_true rfl, Nat.le_of_ble_eq_true rfl⟩) rfl rfl (fun r_8 _ H locs hw_9 hP hD hK hS => ?_)
    have hK : va_K D vwCl [(K, .int)] s := hK
    have hP : va_P D vwCl [(ms, .inl (K, 889, .inl sf)), (mo, .inr (8, [.ref ms, .int sv, .ref mb, .int 0, .int 1, .ref mk, .int ml, .ref mfd, .int mf, .int sp, .int on, .int tw]))] H := hP
    have hD : va_D A [(ms, .inl (K, 889, .inl sf)), (mo, .inr (8, [.ref ms, .int sv, .ref mb, .int 0, .int 1, .ref mk, .int ml, .ref mfd, .int mf, .int sp, .int on, .int tw]))] := hD
    have hw_9 : r_8 = 0 := hw_9
    have hw_9 := hw_9.symm
    subst hw_9
    refine k_nrm (y := 0) rfl ?_
    refine lv_if_ne (tgt := 22) hx hb dX8_smudge_17 (by decide) (fun c9 => absurd (by decide) c9) (fun _ => ?_)
    refine lv_iconst (v := 0) hx hb dX8_smudge_20 (by decide) ?_
    have hP9 : va_P D vwCl [(mo, .inr (8, [.ref ms, .int sv, .ref mb, .int 0, .int 1, .ref mk, .int ml, .ref mfd, .int mf, .int sp, .int on, .int tw])), (ms, .inl (K, 889, .inl sf))] H := hP.sub [1, 0] rfl
    have hD9 : va_D A [(mo, .inr (8, [.ref ms, .int sv, .ref mb, .int 0, .int 1, .ref mk, .int ml, .ref mfd, .int mf, .int sp, .int on, .int tw])), (ms, .inl (K, 889, .inl sf))] := hD.sub [1, 0] (by decide) rfl
    have hK9 : va_K D vwCl [] s := hK.sub [] rfl
    exact W.iret (v := 0) hx hb hr (fun t ht9 hW9 => ⟨⟨0, (), rfl, by first | rfl | trivial | assumption, ⟨by rw [ht9]; exact hP9, va_K.moved hW9.alike hK9, hD9⟩⟩, hS.F ht9⟩) hS.2.2 dX8_smudge_21
  · subst hr9
    have ct := k_cut_of (wc := [(mo, .inr (8, [.ref ms, .int sv, .ref mb, .int 0, .int th, .ref mk, .int ml, .ref mfd, .int mf, .int sp, .int on, .int tw]))]) (wr := [(ms, .inl (K, 889, .inl sf))]) (tc := []) hG hS hA hK hP hD [0] [1] [] rfl rfl (by decide) (by decide) (by decide) rfl
    refine k_endi (As := [.ref mo, .int 0, .int 0]) ct (k_runV (As := [.int 0, .int 0]) (rest := []) S0 Lv_X8_58 rfl (ci := 8) (q0 := 0) rfl rfl ct (c_M_goes0 l D mo ms sv mb th mk ml mfd mf sp on tw 0 H.size) hl.1 rfl (Nat.le_of_ble_eq_true rfl) rfl dX8_smudge_14 ⟨⟨Nat.le_of_ble_eq_true rfl, Nat.le_of_ble_eq_true rfl⟩, Nat.le_of_ble_eq_true rfl, Nat.le_of_ble_eq_true rfl⟩) rfl rfl (fun r_10 _ H locs hw_11 hP hD hK hS => ?_)
    have hK : va_K D vwCl [(K, .int)] s := hK
    have hP : va_P D vwCl [(ms, .inl (K, 889, .inl sf)), (mo, .inr (8, [.ref ms, .int sv, .ref mb, .int 0, .int 1, .ref mk, .int ml, .ref mfd, .int mf, .int sp, .int on, .int tw]))] H := hP
    have hD : va_D A [(ms, .inl (K, 889, .inl sf)), (mo, .inr (8, [.ref ms, .int sv, .ref mb, .int 0, .int 1, .ref mk, .int ml, .ref mfd, .int mf, .int sp, .int on, .int tw]))] := hD
    have hw_11 : r_10 = 0 := hw_11
    have hw_11 := hw_11.symm
    subst hw_11
    refine k_nrm (y := 0) rfl ?_
    refine lv_if_ne (tgt := 22) hx hb dX8_smudge_17 (by decide) (fun c9 => absurd (by decide) c9) (fun _ => ?_)
    refine lv_iconst (v := 0) hx hb dX8_smudge_20 (by decide) ?_
    have hP9 : va_P D vwCl [(mo, .inr (8, [.ref ms, .int sv, .ref mb, .int 0, .int 1, .ref mk, .int ml, .ref mfd, .int mf, .int sp, .int on, .int tw])), (ms, .inl (K, 889, .inl sf))] H := hP.sub [1, 0] rfl
    have hD9 : va_D A [(mo, .inr (8, [.ref ms, .int sv, .ref mb, .int 0, .int 1, .ref mk, .int ml, .ref mfd, .int mf, .int sp, .int on, .int tw])), (ms, .inl (K, 889, .inl sf))] := hD.sub [1, 0] (by decide) rfl
    have hK9 : va_K D vwCl [] s := hK.sub [] rfl
    exact W.iret (v := 0) hx hb hr (fun t ht9 hW9 => ⟨⟨0, (), rfl, by first | rfl | trivial | assumption, ⟨by rw [ht9]; exact hP9, va_K.moved hW9.alike hK9, hD9⟩⟩, hS.F ht9⟩) hS.2.2 dX8_smudge_21
set_option maxHeartbeats 4000000 in
set_option maxRecDepth 100000 in
theorem c_M_command (l : Launch) (D : va_G) (mo : Nat) (ms : Nat) (sv : Int32) (mb : Nat) (th : Int32) (mk : Nat) (ml : Int32) (mfd : Nat) (mf : Int32) (on : Int32) (tw : Int32) (sz : Nat) : k_Mi (S := Unit) l D yX8_command cX8_command 2 (some .char) 0 0 0 0 [.ref mo] [(mo, .inr (8, [.ref ms, .int sv, .ref mb, .int 0, .int th, .ref mk, .int ml, .ref mfd, .int mf, .int 0, .int on, .int tw]))] [] (fun (r : Int32) (_ : Unit) => r = 32) (fun _ => [(mo, .inr (8, [.ref ms, .int sv, .ref mb, .int 0, .int th, .ref mk, .int ml, .ref mfd, .int mf, .int 0, .int on, .int tw]))]) (fun _ => []) sz := by
  refine Met.ofW (cc := cX8_command) (maxL := 2) (ret := (some .char)) (by decide) rfl ?_
  intro p e s m args below meth c s₁ B hml hv
  obtain ⟨rfl, hsz, hP, hK, hD0, hG⟩ := hv
  have hx := B.exec
  have hb := B.bytes
  have hr := B.returns
  have ht : ∀ v9 ∈ wsA, v9.before ([.ref mo] : List Value).toArray s = true := fun v9 h9 => atoms_spec (ws := k_ws yX8_command cX8_command 2 (some .char)) B.pre v9 (List.mem_cons_of_mem _ h9)
  have hown : s.vm.findClass RX8 = some m.cls := findClass_of_methodNamed B.named
  have S0 : k_C p s m ([.ref mo] : List Value).toArray c cX8_command 2 RX8 := ⟨hx, hb, hml, hown, ht⟩
  have hlocks := B.notSynchronized
  subst hsz
  have hD := hD0.self (sz := s.heap.size)
  generalize hAe : va_A [(mo, .inr (8, [.ref ms, .int sv, .ref mb, .int 0, .int th, .ref mk, .int ml, .ref mfd, .int mf, .int 0, .int on, .int tw]))] s.heap.size = A at hD hG ⊢
  have hA : ∀ q : Nat, s.heap.size ≤ q → A q := fun q h => by rw [← hAe]; exact Or.inr h
  have hS : va_S A s.heap s.heap [] := va_S.rf
  have hl := lv_entry ([.ref mo]) (n := 2) (Nat.le_of_ble_eq_true rfl)
  rw [lg_entry_eq]
  generalize (lg_sl ([.ref mo]) ++ List.replicate (2 - (lg_sl ([.ref mo])).length) Slot.unset).toArray = ls at hl ⊢
  have hl : lv_has ls 2 [(0, .ref mo)] := hl
  have hP : va_P D vwCl [(mo, .inr (8, [.ref ms, .int sv, .ref mb, .int 0, .int th, .ref mk, .int ml, .ref mfd, .int mf, .int 0, .int on, .int tw]))] s.heap := hP
  refine lv_aload_n hx hb dX8_command_0 rfl (lv_at hl 0 rfl) ?_
  refine va_get (D := D) (ci := 8) (v := .int 0) (C := RX8) (T := TX8) (N := 12) hx hb ht inA_X8 hown hK hP 0 rfl rfl 9 (by decide) (ht _ lf_X8_150) (fun _ h9 => h9) rfl dX8_command_1 ?_
  refine lv_aload_n hx hb dX8_command_4 rfl (lv_at hl 0 rfl) ?_
  refine va_get (D := D) (ci := 8) (v := .int 0) (C := RX8) (T := TX8) (N := 12) hx hb ht inA_X8 hown hK hP 0 rfl rfl 3 (by decide) (ht _ lf_X8_147) (fun _ h9 => h9) rfl dX8_command_5 ?_
  refine lv_icmp_ge (tgt := 23) hx hb dX8_command_8 (by decide) (fun _ => ?_) (fun c9 => absurd (by decide) c9)
  refine lv_bipush (v := 32) hx hb dX8_command_23 (by decide) ?_
  refine lv_istore_n (lv' := [(1, .int 32), (0, .ref mo)]) hx hb dX8_command_25 rfl hl (by decide) rfl (fun ls hl => ?_)
  refine lv_aload_n hx hb dX8_command_26 rfl (lv_at hl 1 rfl) ?_
  refine lv_dup hx hb dX8_command_27 rfl ?_
  refine va_get (D := D) (ci := 8) (v := .int 0) (C := RX8) (T := TX8) (N := 12) hx hb ht inA_X8 hown hK hP 0 rfl rfl 9 (by decide) (ht _ lf_X8_150) (fun _ h9 => h9) rfl dX8_command_28 ?_
  refine lv_iconst (v := 1) hx hb dX8_command_31 (by decide) ?_
  refine lv_iadd hx hb dX8_command_32 ?_
  refine k_nrm (y := 1) (by decide) ?_
  refine va_put (D := D) (ci := 8) (v := .int 1) (ty := .int) (C := RX8) (T := TX8) (N := 12) hx hb ht inA_X8 tyX8 tyX8_ok nmX8 hown hK hP hD hS 0 rfl rfl 9 (by decide) (ht _ lf_X8_150) (fun _ h9 => h9) rfl (tyX8_ok 9 (by decide)) rfl rfl (Nat.le_of_ble_eq_true rfl) dX8_command_33 (fun H locs hP hD hS => ?_)
  have hP : va_P D vwCl [(mo, .inr (8, [.ref ms, .int sv, .ref mb, .int 0, .int th, .ref mk, .int ml, .ref mfd, .int mf, .int 1, .int on, .int tw]))] H := hP
  have hD : va_D A [(mo, .inr (8, [.ref ms, .int sv, .ref mb, .int 0, .int th, .ref mk, .int ml, .ref mfd, .int mf, .int 1, .int on, .int tw]))] := hD
  refine lv_iload_n hx hb dX8_command_36 rfl (lv_at hl 0 rfl) ?_
  refine lv_lookup (x := 32) (off := 85) (tgt := 122) hx hb dX8_command_37 (by decide) (by decide) (by decide) ?_
  refine lv_aload_n hx hb dX8_command_122 rfl (lv_at hl 1 rfl) ?_
  refine lv_dup hx hb dX8_command_123 rfl ?_
  refine va_get (D := D) (ci := 8) (v := .int 1) (C := RX8) (T := TX8) (N := 12) hx hb ht inA_X8 hown hK hP 0 rfl rfl 9 (by decide) (ht _ lf_X8_150) (fun _ h9 => h9) rfl dX8_command_124 ?_
  refine lv_iconst (v := 1) hx hb dX8_command_127 (by decide) ?_
  refine lv_isub hx hb dX8_command_128 ?_
  refine k_nrm (y := 0) (by decide) ?_
  refine va_put (D := D) (ci := 8) (v := .int 0) (ty := .int) (C := RX8) (T := TX8) (N := 12) hx hb ht inA_X8 tyX8 tyX8_ok nmX8 hown hK hP hD hS 0 rfl rfl 9 (by decide) (ht _ lf_X8_150) (fun _ h9 => h9) rfl (tyX8_ok 9 (by decide)) rfl rfl (Nat.le_of_ble_eq_true rfl) dX8_command_129 (fun H locs hP hD hS => ?_)
  have hP : va_P D vwCl [(mo, .inr (8, [.ref ms, .int sv, .ref mb, .int 0, .int th, .ref mk, .int ml, .ref mfd, .int mf, .int 0, .int on, .int tw]))] H := hP
  have hD : va_D A [(mo, .inr (8, [.ref ms, .int sv, .ref mb, .int 0, .int th, .ref mk, .int ml, .ref mfd, .int mf, .int 0, .int on, .int tw]))] := hD
  refine lv_bipush (v := 32) hx hb dX8_command_132 (by decide) ?_
  have hP9 : va_P D vwCl [(mo, .inr (8, [.ref ms, .int sv, .ref mb, .int 0, .int th, .ref mk, .int ml, .ref mfd, .int mf, .int 0, .int on, .int tw]))] H := hP.sub [0] rfl
  have hD9 : va_D A [(mo, .inr (8, [.ref ms, .int sv, .ref mb, .int 0, .int th, .ref mk, .int ml, .ref mfd, .int mf, .int 0, .int on, .int tw]))] := hD.sub [0] (by decide) rfl
  have hK9 : va_K D vwCl [] s := hK.sub [] rfl
  exact W.zret (v := 32) hx hb hr (rfl) (fun t ht9 hW9 => ⟨⟨32, (), rfl, by first | rfl | trivial | assumption, ⟨by rw [ht9]; exact hP9, va_K.moved hW9.alike hK9, hD9⟩⟩, hS.F ht9⟩) hS.2.2 dX8_command_134
set_option maxHeartbeats 4000000 in
set_option maxRecDepth 100000 in
theorem c_M_error (l : Launch) (D : va_G) (mo : Nat) (ms : Nat) (sv : Int32) (mb : Nat) (th : Int32) (mk : Nat) (ml : Int32) (mfd : Nat) (mf : Int32) (sp : Int32) (on : Int32) (tw : Int32) (sz : Nat) : k_Mi (S := Unit) l D yX8_error cX8_error 1 (some .int) 1 0 0 21 [.ref mo] [(mo, .inr (8, [.ref ms, .int sv, .ref mb, .int 0, .int th, .ref mk, .int ml, .ref mfd, .int mf, .int sp, .int on, .int tw]))] [] (fun (r : Int32) (_ : Unit) => r = 0) (fun _ => [(mo, .inr (8, [.ref ms, .int sv, .ref mb, .int 0, .int th, .ref mk, .int ml, .ref mfd, .int mf, .int 0, .int on, .int tw]))]) (fun _ => []) sz := by
  refine Met.ofW (cc := cX8_error) (maxL := 1) (ret := (some .int)) (by decide) rfl ?_
  intro p e s m args below meth c s₁ B hml hv
  obtain ⟨rfl, hsz, hP, hK, hD0, hG⟩ := hv
  have hx := B.exec
  have hb := B.bytes
  have hr := B.returns
  have ht : ∀ v9 ∈ wsA, v9.before ([.ref mo] : List Value).toArray s = true := fun v9 h9 => atoms_spec (ws := k_ws yX8_error cX8_error 1 (some .int)) B.pre v9 (List.mem_cons_of_mem _ h9)
  have hown : s.vm.findClass RX8 = some m.cls := findClass_of_methodNamed B.named
  have S0 : k_C p s m ([.ref mo] : List Value).toArray c cX8_error 1 RX8 := ⟨hx, hb, hml, hown, ht⟩
  have hlocks := B.notSynchronized
  subst hsz
  have hD := hD0.self (sz := s.heap.size)
  generalize hAe : va_A [(mo, .inr (8, [.ref ms, .int sv, .ref mb, .int 0, .int th, .ref mk, .int ml, .ref mfd, .int mf, .int sp, .int on, .int tw]))] s.heap.size = A at hD hG ⊢
  have hA : ∀ q : Nat, s.heap.size ≤ q → A q := fun q h => by rw [← hAe]; exact Or.inr h
  have hS : va_S A s.heap s.heap [] := va_S.rf
  have hl := lv_entry ([.ref mo]) (n := 1) (Nat.le_of_ble_eq_true rfl)
  rw [lg_entry_eq]
  generalize (lg_sl ([.ref mo]) ++ List.replicate (1 - (lg_sl ([.ref mo])).length) Slot.unset).toArray = ls at hl ⊢
  have hl : lv_has ls 1 [(0, .ref mo)] := hl
  have hP : va_P D vwCl [(mo, .inr (8, [.ref ms, .int sv, .ref mb, .int 0, .int th, .ref mk, .int ml, .ref mfd, .int mf, .int sp, .int on, .int tw]))] s.heap := hP
  refine lv_aload_n hx hb dX8_error_0 rfl (lv_at hl 0 rfl) ?_
  refine lv_iconst (v := 0) hx hb dX8_error_1 (by decide) ?_
  refine va_put (D := D) (ci := 8) (v := .int 0) (ty := .int) (C := RX8) (T := TX8) (N := 12) hx hb ht inA_X8 tyX8 tyX8_ok nmX8 hown hK hP hD hS 0 rfl rfl 9 (by decide) (ht _ lf_X8_150) (fun _ h9 => h9) rfl (tyX8_ok 9 (by decide)) rfl rfl (Nat.le_of_ble_eq_true rfl) dX8_error_2 (fun H locs hP hD hS => ?_)
  have hP : va_P D vwCl [(mo, .inr (8, [.ref ms, .int sv, .ref mb, .int 0, .int th, .ref mk, .int ml, .ref mfd, .int mf, .int 0, .int on, .int tw]))] H := hP
  have hD : va_D A [(mo, .inr (8, [.ref ms, .int sv, .ref mb, .int 0, .int th, .ref mk, .int ml, .ref mfd, .int mf, .int 0, .int on, .int tw]))] := hD
  refine lv_aload_n hx hb dX8_error_5 rfl (lv_at hl 0 rfl) ?_
  have ct := k_cut_of (wc := [(mo, .inr (8, [.ref ms, .int sv, .ref mb, .int 0, .int th, .ref mk, .int ml, .ref mfd, .int mf, .int 0, .int on, .int tw]))]) (wr := []) (tc := []) hG hS hA hK hP hD [0] [] [] rfl rfl (by decide) (by decide) (by decide) rfl
  refine k_endi (As := [.ref mo]) ct (k_runV (As := []) (rest := []) S0 Lv_X8_179 rfl (ci := 8) (q0 := 0) rfl rfl ct (c_M_command l D mo ms sv mb th mk ml mfd mf on tw H.size) hl.1 rfl (Nat.le_of_ble_eq_true rfl) rfl dX8_error_6 ⟨⟨Nat.le_of_ble_eq_true rfl, Nat.le_of_ble_eq_true rfl⟩, Nat.le_of_ble_eq_true rfl, Nat.le_of_ble_eq_true rfl⟩) rfl rfl (fun r_1 _ H locs hw_2 hP hD hK hS => ?_)
  have hK : va_K D vwCl [] s := hK
  have hP : va_P D vwCl [(mo, .inr (8, [.ref ms, .int sv, .ref mb, .int 0, .int th, .ref mk, .int ml, .ref mfd, .int mf, .int 0, .int on, .int tw]))] H := hP
  have hD : va_D A [(mo, .inr (8, [.ref ms, .int sv, .ref mb, .int 0, .int th, .ref mk, .int ml, .ref mfd, .int mf, .int 0, .int on, .int tw]))] := hD
  have hw_2 : r_1 = 32 := hw_2
  have hw_2 := hw_2.symm
  subst hw_2
  refine k_nrm (y := 32) rfl ?_
  refine lv_bipush (v := 32) hx hb dX8_error_9 (by decide) ?_
  refine lv_icmp_eq (tgt := 41) hx hb dX8_error_11 (by decide) (fun _ => ?_) (fun c9 => absurd (by decide) c9)
  refine lv_aload_n hx hb dX8_error_41 rfl (lv_at hl 0 rfl) ?_
  refine va_get (D := D) (ci := 8) (v := .int 0) (C := RX8) (T := TX8) (N := 12) hx hb ht inA_X8 hown hK hP 0 rfl rfl 9 (by decide) (ht _ lf_X8_150) (fun _ h9 => h9) rfl dX8_error_42 ?_
  have hP9 : va_P D vwCl [(mo, .inr (8, [.ref ms, .int sv, .ref mb, .int 0, .int th, .ref mk, .int ml, .ref mfd, .int mf, .int 0, .int on, .int tw]))] H := hP.sub [0] rfl
  have hD9 : va_D A [(mo, .inr (8, [.ref ms, .int sv, .ref mb, .int 0, .int th, .ref mk, .int ml, .ref mfd, .int mf, .int 0, .int on, .int tw]))] := hD.sub [0] (by decide) rfl
  have hK9 : va_K D vwCl [] s := hK.sub [] rfl
  exact W.iret (v := 0) hx hb hr (fun t ht9 hW9 => ⟨⟨0, (), rfl, by first | rfl | trivial | assumption, ⟨by rw [ht9]; exact hP9, va_K.moved hW9.alike hK9, hD9⟩⟩, hS.F ht9⟩) hS.2.2 dX8_error_45
set_option maxHeartbeats 4000000 in
set_option maxRecDepth 100000 in
theorem c_M_firstError (l : Launch) (D : va_G) (mo : Nat) (ms : Nat) (sv : Int32) (mb : Nat) (th : Int32) (mk : Nat) (ml : Int32) (mfd : Nat) (mf : Int32) (sp : Int32) (on : Int32) (tw : Int32) (sz : Nat) : k_Mi (S := Unit) l D yX8_firstError cX8_firstError 2 (some .int) 2 0 0 41 [.ref mo] [(mo, .inr (8, [.ref ms, .int sv, .ref mb, .int 0, .int th, .ref mk, .int ml, .ref mfd, .int mf, .int sp, .int on, .int tw]))] [] (fun (r : Int32) (_ : Unit) => r = 0) (fun _ => [(mo, .inr (8, [.ref ms, .int sv, .ref mb, .int 0, .int 0, .ref mk, .int ml, .ref mfd, .int mf, .int 0, .int on, .int tw]))]) (fun _ => []) sz := by
  refine Met.ofW (cc := cX8_firstError) (maxL := 2) (ret := (some .int)) (by decide) rfl ?_
  intro p e s m args below meth c s₁ B hml hv
  obtain ⟨rfl, hsz, hP, hK, hD0, hG⟩ := hv
  have hx := B.exec
  have hb := B.bytes
  have hr := B.returns
  have ht : ∀ v9 ∈ wsA, v9.before ([.ref mo] : List Value).toArray s = true := fun v9 h9 => atoms_spec (ws := k_ws yX8_firstError cX8_firstError 2 (some .int)) B.pre v9 (List.mem_cons_of_mem _ h9)
  have hown : s.vm.findClass RX8 = some m.cls := findClass_of_methodNamed B.named
  have S0 : k_C p s m ([.ref mo] : List Value).toArray c cX8_firstError 2 RX8 := ⟨hx, hb, hml, hown, ht⟩
  have hlocks := B.notSynchronized
  subst hsz
  have hD := hD0.self (sz := s.heap.size)
  generalize hAe : va_A [(mo, .inr (8, [.ref ms, .int sv, .ref mb, .int 0, .int th, .ref mk, .int ml, .ref mfd, .int mf, .int sp, .int on, .int tw]))] s.heap.size = A at hD hG ⊢
  have hA : ∀ q : Nat, s.heap.size ≤ q → A q := fun q h => by rw [← hAe]; exact Or.inr h
  have hS : va_S A s.heap s.heap [] := va_S.rf
  have hl := lv_entry ([.ref mo]) (n := 2) (Nat.le_of_ble_eq_true rfl)
  rw [lg_entry_eq]
  generalize (lg_sl ([.ref mo]) ++ List.replicate (2 - (lg_sl ([.ref mo])).length) Slot.unset).toArray = ls at hl ⊢
  have hl : lv_has ls 2 [(0, .ref mo)] := hl
  have hP : va_P D vwCl [(mo, .inr (8, [.ref ms, .int sv, .ref mb, .int 0, .int th, .ref mk, .int ml, .ref mfd, .int mf, .int sp, .int on, .int tw]))] s.heap := hP
  refine lv_aload_n hx hb dX8_firstError_0 rfl (lv_at hl 0 rfl) ?_
  refine lv_iconst (v := 0) hx hb dX8_firstError_1 (by decide) ?_
  refine va_put (D := D) (ci := 8) (v := .int 0) (ty := .int) (C := RX8) (T := TX8) (N := 12) hx hb ht inA_X8 tyX8 tyX8_ok nmX8 hown hK hP hD hS 0 rfl rfl 4 (by decide) (ht _ lf_X8_23) (fun _ h9 => h9) rfl (tyX8_ok 4 (by decide)) rfl rfl (Nat.le_of_ble_eq_true rfl) dX8_firstError_2 (fun H locs hP hD hS => ?_)
  have hP : va_P D vwCl [(mo, .inr (8, [.ref ms, .int sv, .ref mb, .int 0, .int 0, .ref mk, .int ml, .ref mfd, .int mf, .int sp, .int on, .int tw]))] H := hP
  have hD : va_D A [(mo, .inr (8, [.ref ms, .int sv, .ref mb, .int 0, .int 0, .ref mk, .int ml, .ref mfd, .int mf, .int sp, .int on, .int tw]))] := hD
  refine lv_aload_n hx hb dX8_firstError_5 rfl (lv_at hl 0 rfl) ?_
  have ct := k_cut_of (wc := [(mo, .inr (8, [.ref ms, .int sv, .ref mb, .int 0, .int 0, .ref mk, .int ml, .ref mfd, .int mf, .int sp, .int on, .int tw]))]) (wr := []) (tc := []) hG hS hA hK hP hD [0] [] [] rfl rfl (by decide) (by decide) (by decide) rfl
  refine k_endi (As := [.ref mo]) ct (k_runV (As := []) (rest := []) S0 Lv_X8_183 rfl (ci := 8) (q0 := 0) rfl rfl ct (c_M_error l D mo ms sv mb 0 mk ml mfd mf sp on tw H.size) hl.1 rfl (Nat.le_of_ble_eq_true rfl) rfl dX8_firstError_6 ⟨⟨Nat.le_of_ble_eq_true rfl, Nat.le_of_ble_eq_true rfl⟩, Nat.le_of_ble_eq_true rfl, Nat.le_of_ble_eq_true rfl⟩) rfl rfl (fun r_1 _ H locs hw_2 hP hD hK hS => ?_)
  have hK : va_K D vwCl [] s := hK
  have hP : va_P D vwCl [(mo, .inr (8, [.ref ms, .int sv, .ref mb, .int 0, .int 0, .ref mk, .int ml, .ref mfd, .int mf, .int 0, .int on, .int tw]))] H := hP
  have hD : va_D A [(mo, .inr (8, [.ref ms, .int sv, .ref mb, .int 0, .int 0, .ref mk, .int ml, .ref mfd, .int mf, .int 0, .int on, .int tw]))] := hD
  have hw_2 : r_1 = 0 := hw_2
  have hw_2 := hw_2.symm
  subst hw_2
  refine k_nrm (y := 0) rfl ?_
  refine lv_istore_n (lv' := [(1, .int 0), (0, .ref mo)]) hx hb dX8_firstError_9 rfl hl (by decide) rfl (fun ls hl => ?_)
  refine lv_iload_n hx hb dX8_firstError_10 rfl (lv_at hl 0 rfl) ?_
  refine lv_iconst (v := (-1)) hx hb dX8_firstError_11 (by decide) ?_
  refine lv_icmp_ne (tgt := 22) hx hb dX8_firstError_12 (by decide) (fun _ => ?_) (fun c9 => absurd c9 (by decide))
  refine lv_iload_n hx hb dX8_firstError_22 rfl (lv_at hl 0 rfl) ?_
  have hP9 : va_P D vwCl [(mo, .inr (8, [.ref ms, .int sv, .ref mb, .int 0, .int 0, .ref mk, .int ml, .ref mfd, .int mf, .int 0, .int on, .int tw]))] H := hP.sub [0] rfl
  have hD9 : va_D A [(mo, .inr (8, [.ref ms, .int sv, .ref mb, .int 0, .int 0, .ref mk, .int ml, .ref mfd, .int mf, .int 0, .int on, .int tw]))] := hD.sub [0] (by decide) rfl
  have hK9 : va_K D vwCl [] s := hK.sub [] rfl
  exact W.iret (v := 0) hx hb hr (fun t ht9 hW9 => ⟨⟨0, (), rfl, by first | rfl | trivial | assumption, ⟨by rw [ht9]; exact hP9, va_K.moved hW9.alike hK9, hD9⟩⟩, hS.F ht9⟩) hS.2.2 dX8_firstError_23
set_option maxHeartbeats 4000000 in
set_option maxRecDepth 100000 in
theorem c_M_run (l : Launch) (D : va_G) (mo : Nat) (ms : Nat) (sv : Int32) (mb : Nat) (th : Int32) (mk : Nat) (ml : Int32) (mfd : Nat) (mf : Int32) (sp : Int32) (on : Int32) (tw : Int32) (sz : Nat) : k_Mi (S := Unit) l D yX8_run cX8_run 4 (some .int) 2 0 0 41 [.ref mo] [(mo, .inr (8, [.ref ms, .int sv, .ref mb, .int 0, .int th, .ref mk, .int ml, .ref mfd, .int mf, .int sp, .int on, .int tw]))] [] (fun (r : Int32) (_ : Unit) => True) (fun _ => [(mo, .inr (8, [.ref ms, .int sv, .ref mb, .int 0, .int 1, .ref mk, .int ml, .ref mfd, .int mf, .int 0, .int on, .int tw]))]) (fun _ => []) sz := by
  refine Met.ofW (cc := cX8_run) (maxL := 4) (ret := (some .int)) (by decide) rfl ?_
  intro p e s m args below meth c s₁ B hml hv
  obtain ⟨rfl, hsz, hP, hK, hD0, hG⟩ := hv
  have hx := B.exec
  have hb := B.bytes
  have hr := B.returns
  have ht : ∀ v9 ∈ wsA, v9.before ([.ref mo] : List Value).toArray s = true := fun v9 h9 => atoms_spec (ws := k_ws yX8_run cX8_run 4 (some .int)) B.pre v9 (List.mem_cons_of_mem _ h9)
  have hown : s.vm.findClass RX8 = some m.cls := findClass_of_methodNamed B.named
  have S0 : k_C p s m ([.ref mo] : List Value).toArray c cX8_run 4 RX8 := ⟨hx, hb, hml, hown, ht⟩
  have hlocks := B.notSynchronized
  subst hsz
  have hD := hD0.self (sz := s.heap.size)
  generalize hAe : va_A [(mo, .inr (8, [.ref ms, .int sv, .ref mb, .int 0, .int th, .ref mk, .int ml, .ref mfd, .int mf, .int sp, .int on, .int tw]))] s.heap.size = A at hD hG ⊢
  have hA : ∀ q : Nat, s.heap.size ≤ q → A q := fun q h => by rw [← hAe]; exact Or.inr h
  have hS : va_S A s.heap s.heap [] := va_S.rf
  have hl := lv_entry ([.ref mo]) (n := 4) (Nat.le_of_ble_eq_true rfl)
  rw [lg_entry_eq]
  generalize (lg_sl ([.ref mo]) ++ List.replicate (4 - (lg_sl ([.ref mo])).length) Slot.unset).toArray = ls at hl ⊢
  have hl : lv_has ls 4 [(0, .ref mo)] := hl
  have hP : va_P D vwCl [(mo, .inr (8, [.ref ms, .int sv, .ref mb, .int 0, .int th, .ref mk, .int ml, .ref mfd, .int mf, .int sp, .int on, .int tw]))] s.heap := hP
  refine lv_aload_n hx hb dX8_run_0 rfl (lv_at hl 0 rfl) ?_
  refine lv_aload_n hx hb dX8_run_1 rfl (lv_at hl 0 rfl) ?_
  have ct := k_cut_of (wc := [(mo, .inr (8, [.ref ms, .int sv, .ref mb, .int 0, .int th, .ref mk, .int ml, .ref mfd, .int mf, .int sp, .int on, .int tw]))]) (wr := []) (tc := []) hG hS hA hK hP hD [0] [] [] rfl rfl (by decide) (by decide) (by decide) rfl
  refine k_endi (As := [.ref mo]) ct (k_runV (As := []) (rest := [.ref mo]) S0 Lv_X8_183 rfl (ci := 8) (q0 := 0) rfl rfl ct (c_M_error l D mo ms sv mb th mk ml mfd mf sp on tw s.heap.size) hl.1 rfl (Nat.le_of_ble_eq_true rfl) rfl dX8_run_2 ⟨⟨Nat.le_of_ble_eq_true rfl, Nat.le_of_ble_eq_true rfl⟩, Nat.le_of_ble_eq_true rfl, Nat.le_of_ble_eq_true rfl⟩) rfl rfl (fun r_1 _ H locs hw_2 hP hD hK hS => ?_)
  have hK : va_K D vwCl [] s := hK
  have hP : va_P D vwCl [(mo, .inr (8, [.ref ms, .int sv, .ref mb, .int 0, .int th, .ref mk, .int ml, .ref mfd, .int mf, .int 0, .int on, .int tw]))] H := hP
  have hD : va_D A [(mo, .inr (8, [.ref ms, .int sv, .ref mb, .int 0, .int th, .ref mk, .int ml, .ref mfd, .int mf, .int 0, .int on, .int tw]))] := hD
  have hw_2 : r_1 = 0 := hw_2
  have hw_2 := hw_2.symm
  subst hw_2
  refine k_nrm (y := 0) rfl ?_
  refine lv_iconst (v := (-1)) hx hb dX8_run_5 (by decide) ?_
  refine lv_icmp_ne (tgt := 13) hx hb dX8_run_6 (by decide) (fun _ => ?_) (fun c9 => absurd c9 (by decide))
  refine lv_iconst (v := 0) hx hb dX8_run_13 (by decide) ?_
  refine lv_iconst (v := 1) hx hb dX8_run_14 (by decide) ?_
  have ct := k_cut_of (wc := [(mo, .inr (8, [.ref ms, .int sv, .ref mb, .int 0, .int th, .ref mk, .int ml, .ref mfd, .int mf, .int 0, .int on, .int tw]))]) (wr := []) (tc := []) hG hS hA hK hP hD [0] [] [] rfl rfl (by decide) (by decide) (by decide) rfl
  refine k_endi (As := [.ref mo, .int 0, .int 1]) ct (k_runV (As := [.int 0, .int 1]) (rest := []) S0 Lv_X8_58 rfl (ci := 8) (q0 := 0) rfl rfl ct (c_M_goes0 l D mo ms sv mb th mk ml mfd mf 0 on tw 1 H.size) hl.1 rfl (Nat.le_of_ble_eq_true rfl) rfl dX8_run_15 ⟨⟨Nat.le_of_ble_eq_true rfl, Nat.le_of_ble_eq_true rfl⟩, Nat.le_of_ble_eq_true rfl, Nat.le_of_ble_eq_true rfl⟩) rfl rfl (fun r_3 _ H locs hw_4 hP hD hK hS => ?_)
  have hK : va_K D vwCl [] s := hK
  have hP : va_P D vwCl [(mo, .inr (8, [.ref ms, .int sv, .ref mb, .int 0, .int 1, .ref mk, .int ml, .ref mfd, .int mf, .int 0, .int on, .int tw]))] H := hP
  have hD : va_D A [(mo, .inr (8, [.ref ms, .int sv, .ref mb, .int 0, .int 1, .ref mk, .int ml, .ref mfd, .int mf, .int 0, .int on, .int tw]))] := hD
  have hw_4 : r_3 = 0 := hw_4
  have hw_4 := hw_4.symm
  subst hw_4
  refine k_nrm (y := 0) rfl ?_
  refine lv_if_ne (tgt := 23) hx hb dX8_run_18 (by decide) (fun c9 => absurd (by decide) c9) (fun _ => ?_)
  refine lv_iconst (v := 0) hx hb dX8_run_21 (by decide) ?_
  have hP9 : va_P D vwCl [(mo, .inr (8, [.ref ms, .int sv, .ref mb, .int 0, .int 1, .ref mk, .int ml, .ref mfd, .int mf, .int 0, .int on, .int tw]))] H := hP.sub [0] rfl
  have hD9 : va_D A [(mo, .inr (8, [.ref ms, .int sv, .ref mb, .int 0, .int 1, .ref mk, .int ml, .ref mfd, .int mf, .int 0, .int on, .int tw]))] := hD.sub [0] (by decide) rfl
  have hK9 : va_K D vwCl [] s := hK.sub [] rfl
  exact W.iret (v := 0) hx hb hr (fun t ht9 hW9 => ⟨⟨0, (), rfl, by first | rfl | trivial | assumption, ⟨by rw [ht9]; exact hP9, va_K.moved hW9.alike hK9, hD9⟩⟩, hS.F ht9⟩) hS.2.2 dX8_run_22
