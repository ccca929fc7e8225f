set_option maxRecDepth 20000 in
theorem lk_X8_isElement : Cond.code yX8_isElement cX8_isElement 2 (some .boolean) ∈ wsA := mA 865 rfl rfl
theorem ly_X8_isElement : k_y yX8_isElement 1 := ⟨by decide +kernel, by decide +kernel, by decide +kernel⟩
set_option maxRecDepth 20000 in
theorem lm_X8_isElement : Cond.instanceMethod yX8_isElement ∈ wsA := mA 864 rfl rfl
theorem le_X8_isElement : Cond.selects (yX8_isElement).cls yX8_isElement yX8_isElement ∈ wsA := mS 25 rfl rfl
set_option maxRecDepth 20000 in
theorem Lv_X8_68 : k_LV RX8 68 yX8_isElement cX8_isElement 2 (some .boolean) 1 := ⟨mA 862 rfl rfl, lm_X8_isElement, le_X8_isElement, li_BarcodeWandModel, lk_X8_isElement, ly_X8_isElement⟩
set_option maxRecDepth 20000 in
theorem lk_X8_smudges : Cond.code yX8_smudges cX8_smudges 4 (some .int) ∈ wsA := mA 873 rfl rfl
theorem ly_X8_smudges : k_y yX8_smudges 2 := ⟨by decide +kernel, by decide +kernel, by decide +kernel⟩
set_option maxRecDepth 20000 in
theorem lm_X8_smudges : Cond.instanceMethod yX8_smudges ∈ wsA := mA 872 rfl rfl
theorem le_X8_smudges : Cond.selects (yX8_smudges).cls yX8_smudges yX8_smudges ∈ wsA := mS 27 rfl rfl
set_option maxRecDepth 20000 in
theorem Lv_X8_72 : k_LV RX8 72 yX8_smudges cX8_smudges 4 (some .int) 2 := ⟨mA 870 rfl rfl, lm_X8_smudges, le_X8_smudges, li_BarcodeWandModel, lk_X8_smudges, ly_X8_smudges⟩
set_option maxRecDepth 20000 in
theorem lk_X8_isCode : Cond.code yX8_isCode cX8_isCode 2 (some .boolean) ∈ wsA := mA 1017 rfl rfl
theorem ly_X8_isCode : k_y yX8_isCode 1 := ⟨by decide +kernel, by decide +kernel, by decide +kernel⟩
set_option maxRecDepth 20000 in
theorem lm_X8_isCode : Cond.instanceMethod yX8_isCode ∈ wsA := mA 1016 rfl rfl
theorem le_X8_isCode : Cond.selects (yX8_isCode).cls yX8_isCode yX8_isCode ∈ wsA := mS 44 rfl rfl
set_option maxRecDepth 20000 in
theorem Lv_X8_141 : k_LV RX8 141 yX8_isCode cX8_isCode 2 (some .boolean) 1 := ⟨mA 1014 rfl rfl, lm_X8_isCode, le_X8_isCode, li_BarcodeWandModel, lk_X8_isCode, ly_X8_isCode⟩
theorem dX8_smudges_0 : decode cX8_smudges 0 = .ok (.aload_n 0, 1) := by decide +kernel
theorem dX8_smudges_1 : decode cX8_smudges 1 = .ok (.getfield 7, 3) := by decide +kernel
theorem dX8_smudges_4 : decode cX8_smudges 4 = .ok (.bipush 10, 2) := by decide +kernel
theorem dX8_smudges_6 : decode cX8_smudges 6 = .ok (.iload_n 1, 1) := by decide +kernel
theorem dX8_smudges_7 : decode cX8_smudges 7 = .ok (.iadd, 1) := by decide +kernel
theorem dX8_smudges_8 : decode cX8_smudges 8 = .ok (.iaload, 1) := by decide +kernel
theorem dX8_smudges_9 : decode cX8_smudges 9 = .ok (.istore_n 3, 1) := by decide +kernel
theorem dX8_smudges_10 : decode cX8_smudges 10 = .ok (.aload_n 0, 1) := by decide +kernel
theorem dX8_smudges_11 : decode cX8_smudges 11 = .ok (.getfield 7, 3) := by decide +kernel
theorem dX8_smudges_14 : decode cX8_smudges 14 = .ok (.bipush 10, 2) := by decide +kernel
theorem dX8_smudges_16 : decode cX8_smudges 16 = .ok (.iload_n 1, 1) := by decide +kernel
theorem dX8_smudges_17 : decode cX8_smudges 17 = .ok (.iadd, 1) := by decide +kernel
theorem dX8_smudges_18 : decode cX8_smudges 18 = .ok (.iload_n 2, 1) := by decide +kernel
theorem dX8_smudges_19 : decode cX8_smudges 19 = .ok (.iastore, 1) := by decide +kernel
theorem dX8_smudges_20 : decode cX8_smudges 20 = .ok (.iload_n 3, 1) := by decide +kernel
theorem dX8_smudges_21 : decode cX8_smudges 21 = .ok (.ireturn, 1) := by decide +kernel
theorem dX8_smudge_0 : decode cX8_smudge 0 = .ok (.aload_n 0, 1) := by decide +kernel
theorem dX8_smudge_1 : decode cX8_smudge 1 = .ok (.aload_n 0, 1) := by decide +kernel
theorem dX8_smudge_2 : decode cX8_smudge 2 = .ok (.iload_n 1, 1) := by decide +kernel
theorem dX8_smudge_3 : decode cX8_smudge 3 = .ok (.invokevirtual 68, 3) := by decide +kernel
theorem dX8_smudge_6 : decode cX8_smudge 6 = .ok (.iload_n 2, 1) := by decide +kernel
theorem dX8_smudge_7 : decode cX8_smudge 7 = .ok (.bipush (-9), 2) := by decide +kernel
theorem dX8_smudge_9 : decode cX8_smudge 9 = .ok (.bipush 9, 2) := by decide +kernel
theorem dX8_smudge_11 : decode cX8_smudge 11 = .ok (.invokestatic 46, 3) := by decide +kernel
theorem dX8_smudge_14 : decode cX8_smudge 14 = .ok (.invokevirtual 58, 3) := by decide +kernel
theorem dX8_smudge_17 : decode cX8_smudge 17 = .ok (.ifCond .ne 5, 3) := by decide +kernel
theorem dX8_smudge_20 : decode cX8_smudge 20 = .ok (.iconst 0, 1) := by decide +kernel
theorem dX8_smudge_21 : decode cX8_smudge 21 = .ok (.ireturn, 1) := by decide +kernel
theorem dX8_smudge_22 : decode cX8_smudge 22 = .ok (.aload_n 0, 1) := by decide +kernel
theorem dX8_smudge_23 : decode cX8_smudge 23 = .ok (.invokevirtual 62, 3) := by decide +kernel
theorem dX8_smudge_26 : decode cX8_smudge 26 = .ok (.aload_n 0, 1) := by decide +kernel
theorem dX8_smudge_27 : decode cX8_smudge 27 = .ok (.iload_n 1, 1) := by decide +kernel
theorem dX8_smudge_28 : decode cX8_smudge 28 = .ok (.iload_n 2, 1) := by decide +kernel
theorem dX8_smudge_29 : decode cX8_smudge 29 = .ok (.invokevirtual 72, 3) := by decide +kernel
theorem dX8_smudge_32 : decode cX8_smudge 32 = .ok (.ireturn, 1) := by decide +kernel
theorem dX8_elements_0 : decode cX8_elements 0 = .ok (.aload_n 0, 1) := by decide +kernel
theorem dX8_elements_1 : decode cX8_elements 1 = .ok (.iconst 0, 1) := by decide +kernel
theorem dX8_elements_2 : decode cX8_elements 2 = .ok (.putfield 23, 3) := by decide +kernel
theorem dX8_elements_5 : decode cX8_elements 5 = .ok (.aload_n 0, 1) := by decide +kernel
theorem dX8_elements_6 : decode cX8_elements 6 = .ok (.invokevirtual 38, 3) := by decide +kernel
theorem dX8_elements_9 : decode cX8_elements 9 = .ok (.ireturn, 1) := by decide +kernel
theorem dX8_width_0 : decode cX8_width 0 = .ok (.aload_n 0, 1) := by decide +kernel
theorem dX8_width_1 : decode cX8_width 1 = .ok (.aload_n 0, 1) := by decide +kernel
theorem dX8_width_2 : decode cX8_width 2 = .ok (.iload_n 1, 1) := by decide +kernel
theorem dX8_width_3 : decode cX8_width 3 = .ok (.invokevirtual 68, 3) := by decide +kernel
theorem dX8_width_6 : decode cX8_width 6 = .ok (.iconst 1, 1) := by decide +kernel
theorem dX8_width_7 : decode cX8_width 7 = .ok (.invokevirtual 58, 3) := by decide +kernel
theorem dX8_width_10 : decode cX8_width 10 = .ok (.ifCond .eq 11, 3) := by decide +kernel
theorem dX8_width_13 : decode cX8_width 13 = .ok (.aload_n 0, 1) := by decide +kernel
theorem dX8_width_14 : decode cX8_width 14 = .ok (.iload_n 1, 1) := by decide +kernel
theorem dX8_width_15 : decode cX8_width 15 = .ok (.invokevirtual 75, 3) := by decide +kernel
theorem dX8_width_18 : decode cX8_width 18 = .ok (.goto 4, 3) := by decide +kernel
theorem dX8_width_21 : decode cX8_width 21 = .ok (.iconst 0, 1) := by decide +kernel
theorem dX8_width_22 : decode cX8_width 22 = .ok (.ireturn, 1) := by decide +kernel
theorem dX8_labelDigit_0 : decode cX8_labelDigit 0 = .ok (.aload_n 0, 1) := by decide +kernel
theorem dX8_labelDigit_1 : decode cX8_labelDigit 1 = .ok (.iload_n 1, 1) := by decide +kernel
theorem dX8_labelDigit_2 : decode cX8_labelDigit 2 = .ok (.iconst 0, 1) := by decide +kernel
theorem dX8_labelDigit_3 : decode cX8_labelDigit 3 = .ok (.aload_n 0, 1) := by decide +kernel
theorem dX8_labelDigit_4 : decode cX8_labelDigit 4 = .ok (.getfield 7, 3) := by decide +kernel
theorem dX8_labelDigit_7 : decode cX8_labelDigit 7 = .ok (.iconst 0, 1) := by decide +kernel
theorem dX8_labelDigit_8 : decode cX8_labelDigit 8 = .ok (.iaload, 1) := by decide +kernel
theorem dX8_labelDigit_9 : decode cX8_labelDigit 9 = .ok (.iconst 1, 1) := by decide +kernel
theorem dX8_labelDigit_10 : decode cX8_labelDigit 10 = .ok (.isub, 1) := by decide +kernel
theorem dX8_labelDigit_11 : decode cX8_labelDigit 11 = .ok (.invokestatic 46, 3) := by decide +kernel
theorem dX8_labelDigit_14 : decode cX8_labelDigit 14 = .ok (.iconst 1, 1) := by decide +kernel
theorem dX8_labelDigit_15 : decode cX8_labelDigit 15 = .ok (.invokevirtual 58, 3) := by decide +kernel
theorem dX8_labelDigit_18 : decode cX8_labelDigit 18 = .ok (.ifCond .eq 14, 3) := by decide +kernel
theorem dX8_labelDigit_21 : decode cX8_labelDigit 21 = .ok (.aload_n 0, 1) := by decide +kernel
theorem dX8_labelDigit_22 : decode cX8_labelDigit 22 = .ok (.getfield 7, 3) := by decide +kernel
theorem dX8_labelDigit_25 : decode cX8_labelDigit 25 = .ok (.iconst 1, 1) := by decide +kernel
theorem dX8_labelDigit_26 : decode cX8_labelDigit 26 = .ok (.iload_n 1, 1) := by decide +kernel
theorem dX8_labelDigit_27 : decode cX8_labelDigit 27 = .ok (.iadd, 1) := by decide +kernel
theorem dX8_labelDigit_28 : decode cX8_labelDigit 28 = .ok (.iaload, 1) := by decide +kernel
theorem dX8_labelDigit_29 : decode cX8_labelDigit 29 = .ok (.goto 4, 3) := by decide +kernel
theorem dX8_labelDigit_32 : decode cX8_labelDigit 32 = .ok (.iconst 0, 1) := by decide +kernel
theorem dX8_labelDigit_33 : decode cX8_labelDigit 33 = .ok (.ireturn, 1) := by decide +kernel
theorem dX8_time__0 : decode cX8_time_ 0 = .ok (.aload_n 0, 1) := by decide +kernel
theorem dX8_time__1 : decode cX8_time_ 1 = .ok (.iload_n 1, 1) := by decide +kernel
theorem dX8_time__2 : decode cX8_time_ 2 = .ok (.iconst 0, 1) := by decide +kernel
theorem dX8_time__3 : decode cX8_time_ 3 = .ok (.aload_n 0, 1) := by decide +kernel
theorem dX8_time__4 : decode cX8_time_ 4 = .ok (.getfield 7, 3) := by decide +kernel
theorem dX8_time__7 : decode cX8_time_ 7 = .ok (.bipush 51, 2) := by decide +kernel
theorem dX8_time__9 : decode cX8_time_ 9 = .ok (.iaload, 1) := by decide +kernel
theorem dX8_time__10 : decode cX8_time_ 10 = .ok (.iconst 1, 1) := by decide +kernel
theorem dX8_time__11 : decode cX8_time_ 11 = .ok (.isub, 1) := by decide +kernel
theorem dX8_time__12 : decode cX8_time_ 12 = .ok (.invokestatic 46, 3) := by decide +kernel
theorem dX8_time__15 : decode cX8_time_ 15 = .ok (.iconst 1, 1) := by decide +kernel
theorem dX8_time__16 : decode cX8_time_ 16 = .ok (.invokevirtual 58, 3) := by decide +kernel
theorem dX8_time__19 : decode cX8_time_ 19 = .ok (.ifCond .eq 15, 3) := by decide +kernel
theorem dX8_time__22 : decode cX8_time_ 22 = .ok (.aload_n 0, 1) := by decide +kernel
theorem dX8_time__23 : decode cX8_time_ 23 = .ok (.getfield 7, 3) := by decide +kernel
theorem dX8_time__26 : decode cX8_time_ 26 = .ok (.bipush 52, 2) := by decide +kernel
theorem dX8_time__28 : decode cX8_time_ 28 = .ok (.iload_n 1, 1) := by decide +kernel
theorem dX8_time__29 : decode cX8_time_ 29 = .ok (.iadd, 1) := by decide +kernel
theorem dX8_time__30 : decode cX8_time_ 30 = .ok (.iaload, 1) := by decide +kernel
theorem dX8_time__31 : decode cX8_time_ 31 = .ok (.goto 4, 3) := by decide +kernel
theorem dX8_time__34 : decode cX8_time_ 34 = .ok (.iconst 0, 1) := by decide +kernel
theorem dX8_time__35 : decode cX8_time_ 35 = .ok (.ireturn, 1) := by decide +kernel
theorem dX8_isCode_0 : decode cX8_isCode 0 = .ok (.iload_n 1, 1) := by decide +kernel
theorem dX8_isCode_1 : decode cX8_isCode 1 = .ok (.iconst 0, 1) := by decide +kernel
theorem dX8_isCode_2 : decode cX8_isCode 2 = .ok (.aload_n 0, 1) := by decide +kernel
theorem dX8_isCode_3 : decode cX8_isCode 3 = .ok (.getfield 7, 3) := by decide +kernel
theorem dX8_isCode_6 : decode cX8_isCode 6 = .ok (.bipush 94, 2) := by decide +kernel
theorem dX8_isCode_8 : decode cX8_isCode 8 = .ok (.iaload, 1) := by decide +kernel
theorem dX8_isCode_9 : decode cX8_isCode 9 = .ok (.iconst 1, 1) := by decide +kernel
theorem dX8_isCode_10 : decode cX8_isCode 10 = .ok (.isub, 1) := by decide +kernel
theorem dX8_isCode_11 : decode cX8_isCode 11 = .ok (.invokestatic 46, 3) := by decide +kernel
theorem dX8_isCode_14 : decode cX8_isCode 14 = .ok (.ireturn, 1) := by decide +kernel
theorem dX8_code_0 : decode cX8_code 0 = .ok (.aload_n 0, 1) := by decide +kernel
theorem dX8_code_1 : decode cX8_code 1 = .ok (.aload_n 0, 1) := by decide +kernel
theorem dX8_code_2 : decode cX8_code 2 = .ok (.iload_n 1, 1) := by decide +kernel
theorem dX8_code_3 : decode cX8_code 3 = .ok (.invokevirtual 141, 3) := by decide +kernel
theorem dX8_code_6 : decode cX8_code 6 = .ok (.iconst 1, 1) := by decide +kernel
theorem dX8_code_7 : decode cX8_code 7 = .ok (.invokevirtual 58, 3) := by decide +kernel
theorem dX8_code_10 : decode cX8_code 10 = .ok (.ifCond .eq 15, 3) := by decide +kernel
theorem dX8_code_13 : decode cX8_code 13 = .ok (.aload_n 0, 1) := by decide +kernel
theorem dX8_code_14 : decode cX8_code 14 = .ok (.getfield 7, 3) := by decide +kernel
theorem dX8_code_17 : decode cX8_code 17 = .ok (.bipush 95, 2) := by decide +kernel
theorem dX8_code_19 : decode cX8_code 19 = .ok (.iload_n 1, 1) := by decide +kernel
theorem dX8_code_20 : decode cX8_code 20 = .ok (.iadd, 1) := by decide +kernel
theorem dX8_code_21 : decode cX8_code 21 = .ok (.iaload, 1) := by decide +kernel
theorem dX8_code_22 : decode cX8_code 22 = .ok (.goto 4, 3) := by decide +kernel
theorem dX8_code_25 : decode cX8_code 25 = .ok (.iconst 0, 1) := by decide +kernel
theorem dX8_code_26 : decode cX8_code 26 = .ok (.ireturn, 1) := by decide +kernel
theorem dX8_codeLength_0 : decode cX8_codeLength 0 = .ok (.aload_n 0, 1) := by decide +kernel
theorem dX8_codeLength_1 : decode cX8_codeLength 1 = .ok (.aload_n 0, 1) := by decide +kernel
theorem dX8_codeLength_2 : decode cX8_codeLength 2 = .ok (.iload_n 1, 1) := by decide +kernel
theorem dX8_codeLength_3 : decode cX8_codeLength 3 = .ok (.invokevirtual 141, 3) := by decide +kernel
theorem dX8_codeLength_6 : decode cX8_codeLength 6 = .ok (.iconst 1, 1) := by decide +kernel
theorem dX8_codeLength_7 : decode cX8_codeLength 7 = .ok (.invokevirtual 58, 3) := by decide +kernel
theorem dX8_codeLength_10 : decode cX8_codeLength 10 = .ok (.ifCond .eq 15, 3) := by decide +kernel
theorem dX8_codeLength_13 : decode cX8_codeLength 13 = .ok (.aload_n 0, 1) := by decide +kernel
theorem dX8_codeLength_14 : decode cX8_codeLength 14 = .ok (.getfield 7, 3) := by decide +kernel
theorem dX8_codeLength_17 : decode cX8_codeLength 17 = .ok (.bipush 105, 2) := by decide +kernel
theorem dX8_codeLength_19 : decode cX8_codeLength 19 = .ok (.iload_n 1, 1) := by decide +kernel
theorem dX8_codeLength_20 : decode cX8_codeLength 20 = .ok (.iadd, 1) := by decide +kernel
theorem dX8_codeLength_21 : decode cX8_codeLength 21 = .ok (.iaload, 1) := by decide +kernel
theorem dX8_codeLength_22 : decode cX8_codeLength 22 = .ok (.goto 4, 3) := by decide +kernel
theorem dX8_codeLength_25 : decode cX8_codeLength 25 = .ok (.iconst 0, 1) := by decide +kernel
theorem dX8_codeLength_26 : decode cX8_codeLength 26 = .ok (.ireturn, 1) := by decide +kernel
theorem dX8_count_0 : decode cX8_count 0 = .ok (.aload_n 0, 1) := by decide +kernel
theorem dX8_count_1 : decode cX8_count 1 = .ok (.aload_n 0, 1) := by decide +kernel
theorem dX8_count_2 : decode cX8_count 2 = .ok (.iload_n 1, 1) := by decide +kernel
theorem dX8_count_3 : decode cX8_count 3 = .ok (.invokevirtual 141, 3) := by decide +kernel
theorem dX8_count_6 : decode cX8_count 6 = .ok (.iconst 1, 1) := by decide +kernel
theorem dX8_count_7 : decode cX8_count 7 = .ok (.invokevirtual 58, 3) := by decide +kernel
theorem dX8_count_10 : decode cX8_count 10 = .ok (.ifCond .eq 15, 3) := by decide +kernel
theorem dX8_count_13 : decode cX8_count 13 = .ok (.aload_n 0, 1) := by decide +kernel
theorem dX8_count_14 : decode cX8_count 14 = .ok (.getfield 7, 3) := by decide +kernel
theorem dX8_count_17 : decode cX8_count 17 = .ok (.bipush 115, 2) := by decide +kernel
theorem dX8_count_19 : decode cX8_count 19 = .ok (.iload_n 1, 1) := by decide +kernel
theorem dX8_count_20 : decode cX8_count 20 = .ok (.iadd, 1) := by decide +kernel
theorem dX8_count_21 : decode cX8_count 21 = .ok (.iaload, 1) := by decide +kernel
theorem dX8_count_22 : decode cX8_count 22 = .ok (.goto 4, 3) := by decide +kernel
theorem dX8_count_25 : decode cX8_count 25 = .ok (.iconst 0, 1) := by decide +kernel
theorem dX8_count_26 : decode cX8_count 26 = .ok (.ireturn, 1) := by decide +kernel
theorem dX8_times_0 : decode cX8_times 0 = .ok (.aload_n 0, 1) := by decide +kernel
theorem dX8_times_1 : decode cX8_times 1 = .ok (.iconst 0, 1) := by decide +kernel
theorem dX8_times_2 : decode cX8_times 2 = .ok (.putfield 23, 3) := by decide +kernel
theorem dX8_times_5 : decode cX8_times 5 = .ok (.aload_n 0, 1) := by decide +kernel
theorem dX8_times_6 : decode cX8_times 6 = .ok (.getfield 7, 3) := by decide +kernel
theorem dX8_times_9 : decode cX8_times 9 = .ok (.bipush 51, 2) := by decide +kernel
theorem dX8_times_11 : decode cX8_times 11 = .ok (.iaload, 1) := by decide +kernel
theorem dX8_times_12 : decode cX8_times 12 = .ok (.ireturn, 1) := by decide +kernel
theorem dX8_codes_0 : decode cX8_codes 0 = .ok (.aload_n 0, 1) := by decide +kernel
theorem dX8_codes_1 : decode cX8_codes 1 = .ok (.iconst 0, 1) := by decide +kernel
theorem dX8_codes_2 : decode cX8_codes 2 = .ok (.putfield 23, 3) := by decide +kernel
theorem dX8_codes_5 : decode cX8_codes 5 = .ok (.aload_n 0, 1) := by decide +kernel
theorem dX8_codes_6 : decode cX8_codes 6 = .ok (.getfield 7, 3) := by decide +kernel
theorem dX8_codes_9 : decode cX8_codes 9 = .ok (.bipush 94, 2) := by decide +kernel
theorem dX8_codes_11 : decode cX8_codes 11 = .ok (.iaload, 1) := by decide +kernel
theorem dX8_codes_12 : decode cX8_codes 12 = .ok (.ireturn, 1) := by decide +kernel
theorem dX8_successes_0 : decode cX8_successes 0 = .ok (.aload_n 0, 1) := by decide +kernel
theorem dX8_successes_1 : decode cX8_successes 1 = .ok (.iconst 0, 1) := by decide +kernel
theorem dX8_successes_2 : decode cX8_successes 2 = .ok (.putfield 23, 3) := by decide +kernel
theorem dX8_successes_5 : decode cX8_successes 5 = .ok (.aload_n 0, 1) := by decide +kernel
theorem dX8_successes_6 : decode cX8_successes 6 = .ok (.getfield 7, 3) := by decide +kernel
theorem dX8_successes_9 : decode cX8_successes 9 = .ok (.bipush 125, 2) := by decide +kernel
theorem dX8_successes_11 : decode cX8_successes 11 = .ok (.iaload, 1) := by decide +kernel
theorem dX8_successes_12 : decode cX8_successes 12 = .ok (.ireturn, 1) := by decide +kernel
theorem dX8_failures_0 : decode cX8_failures 0 = .ok (.aload_n 0, 1) := by decide +kernel
theorem dX8_failures_1 : decode cX8_failures 1 = .ok (.iconst 0, 1) := by decide +kernel
theorem dX8_failures_2 : decode cX8_failures 2 = .ok (.putfield 23, 3) := by decide +kernel
theorem dX8_failures_5 : decode cX8_failures 5 = .ok (.aload_n 0, 1) := by decide +kernel
theorem dX8_failures_6 : decode cX8_failures 6 = .ok (.getfield 7, 3) := by decide +kernel
theorem dX8_failures_9 : decode cX8_failures 9 = .ok (.bipush 126, 2) := by decide +kernel
theorem dX8_failures_11 : decode cX8_failures 11 = .ok (.iaload, 1) := by decide +kernel
theorem dX8_failures_12 : decode cX8_failures 12 = .ok (.ireturn, 1) := by decide +kernel
theorem dX8_savedStates_0 : decode cX8_savedStates 0 = .ok (.aload_n 0, 1) := by decide +kernel
theorem dX8_savedStates_1 : decode cX8_savedStates 1 = .ok (.iconst 0, 1) := by decide +kernel
theorem dX8_savedStates_2 : decode cX8_savedStates 2 = .ok (.putfield 23, 3) := by decide +kernel
theorem dX8_savedStates_5 : decode cX8_savedStates 5 = .ok (.aload_n 0, 1) := by decide +kernel
theorem dX8_savedStates_6 : decode cX8_savedStates 6 = .ok (.getfield 27, 3) := by decide +kernel
theorem dX8_savedStates_9 : decode cX8_savedStates 9 = .ok (.ireturn, 1) := by decide +kernel
set_option maxHeartbeats 4000000 in
set_option maxRecDepth 100000 in
theorem c_M_smudges (l : Launch) (D : va_G) (mo : Nat) (ms : Nat) (sv : Int32) (mb : Nat) (ty : Int32) (th : Int32) (mk : Nat) (ml : Int32) (mfd : Nat) (mf : Int32) (sp : Int32) (on : Int32) (tw : Int32) (K : ClassId) (sf : Nat → Int32) (en : Nat) (t9 : Int32) (zf : Nat → Int32) (hz40 : en ≤ 40) (hze : sf (10 + en) = zf en) (sz : Nat) : k_Mi (S := Unit) l D yX8_smudges cX8_smudges 4 (some .int) 0 0 0 0 [.ref mo, .int (nI en), .int t9] [(mo, .inr (8, [.ref ms, .int sv, .ref mb, .int ty, .int th, .ref mk, .int ml, .ref mfd, .int mf, .int sp, .int on, .int tw])), (ms, .inl (K, 889, .inl sf))] [(K, .int)] (fun (r : Int32) (_ : Unit) => r = (zf en)) (fun _ => [(mo, .inr (8, [.ref ms, .int sv, .ref mb, .int ty, .int th, .ref mk, .int ml, .ref mfd, .int mf, .int sp, .int on, .int tw])), (ms, .inl (K, 889, .inl (upd sf (10 + en) t9)))]) (fun _ => []) sz := by
  refine Met.ofW (cc := cX8_smudges) (maxL := 4) (ret := (some .int)) (by decide) rfl ?_
  intro p e s m args below meth c s₁ B hml hv
  obtain ⟨rfl, hsz, hP, hK, hD0, hG⟩ := hv
  have hx := B.exec
  have hb := B.bytes
  have hr := B.returns
  have ht : ∀ v9 ∈ wsA, v9.before ([.ref mo, .int (nI en), .int t9] : List Value).toArray s = true := fun v9 h9 => atoms_spec (ws := k_ws yX8_smudges cX8_smudges 4 (some .int)) B.pre v9 (List.mem_cons_of_mem _ h9)
  have hown : s.vm.findClass RX8 = some m.cls := findClass_of_methodNamed B.named
  have S0 : k_C p s m ([.ref mo, .int (nI en), .int t9] : List Value).toArray c cX8_smudges 4 RX8 := ⟨hx, hb, hml, hown, ht⟩
  have hlocks := B.notSynchronized
  subst hsz
  have hD := hD0.self (sz := s.heap.size)
  generalize hAe : va_A [(mo, .inr (8, [.ref ms, .int sv, .ref mb, .int ty, .int th, .ref mk, .int ml, .ref mfd, .int mf, .int sp, .int on, .int tw])), (ms, .inl (K, 889, .inl sf))] s.heap.size = A at hD hG ⊢
  have hA : ∀ q : Nat, s.heap.size ≤ q → A q := fun q h => by rw [← hAe]; exact Or.inr h
  have hS : va_S A s.heap s.heap [] := va_S.rf
  have hl := lv_entry ([.ref mo, .int (nI en), .int t9]) (n := 4) (Nat.le_of_ble_eq_true rfl)
  rw [lg_entry_eq]
  generalize (lg_sl ([.ref mo, .int (nI en), .int t9]) ++ List.replicate (4 - (lg_sl ([.ref mo, .int (nI en), .int t9])).length) Slot.unset).toArray = ls at hl ⊢
  have hl : lv_has ls 4 [(0, .ref mo), (1, .int (nI en)), (2, .int t9)] := hl
  have hP : va_P D vwCl [(mo, .inr (8, [.ref ms, .int sv, .ref mb, .int ty, .int th, .ref mk, .int ml, .ref mfd, .int mf, .int sp, .int on, .int tw])), (ms, .inl (K, 889, .inl sf))] s.heap := hP
  refine lv_aload_n hx hb dX8_smudges_0 rfl (lv_at hl 0 rfl) ?_
  refine va_get (D := D) (ci := 8) (v := .ref ms) (C := RX8) (T := TX8) (N := 12) hx hb ht inA_X8 hown hK hP 0 rfl rfl 0 (by decide) (ht _ lf_X8_7) (fun _ h9 => h9) rfl dX8_smudges_1 ?_
  refine lv_bipush (v := 10) hx hb dX8_smudges_4 (by decide) ?_
  refine lv_iload_n hx hb dX8_smudges_6 rfl (lv_at hl 1 rfl) ?_
  refine lv_iadd hx hb dX8_smudges_7 ?_
  refine k_nrm (y := (nI (10 + en))) (nI_add 10 en) ?_
  refine va_iald hx hb hK hP 1 0 rfl rfl (vp_in_nI (by omega) (by decide)) dX8_smudges_8 ?_
  refine k_nrm (y := (zf en)) (by rw [nI_clamp (by omega)]; exact hze) ?_
  refine lv_istore_n (lv' := [(3, .int (zf en)), (0, .ref mo), (1, .int (nI en)), (2, .int t9)]) hx hb dX8_smudges_9 rfl hl (by decide) rfl (fun ls hl => ?_)
  refine lv_aload_n hx hb dX8_smudges_10 rfl (lv_at hl 1 rfl) ?_
  refine va_get (D := D) (ci := 8) (v := .ref ms) (C := RX8) (T := TX8) (N := 12) hx hb ht inA_X8 hown hK hP 0 rfl rfl 0 (by decide) (ht _ lf_X8_7) (fun _ h9 => h9) rfl dX8_smudges_11 ?_
  refine lv_bipush (v := 10) hx hb dX8_smudges_14 (by decide) ?_
  refine lv_iload_n hx hb dX8_smudges_16 rfl (lv_at hl 2 rfl) ?_
  refine lv_iadd hx hb dX8_smudges_17 ?_
  refine k_nrm (y := (nI (10 + en))) (nI_add 10 en) ?_
  refine lv_iload_n hx hb dX8_smudges_18 rfl (lv_at hl 3 rfl) ?_
  refine va_iast hx hb hK hP hD hS 1 0 rfl rfl (vp_in_nI (by omega) (by decide)) dX8_smudges_19 (fun H locs hP hD hS => ?_)
  have hP : va_P D vwCl [(mo, .inr (8, [.ref ms, .int sv, .ref mb, .int ty, .int th, .ref mk, .int ml, .ref mfd, .int mf, .int sp, .int on, .int tw])), (ms, .inl (K, 889, .inl (upd sf ((nI (10 + en)).toNatClampNeg) t9)))] H := hP
  have hD : va_D A [(mo, .inr (8, [.ref ms, .int sv, .ref mb, .int ty, .int th, .ref mk, .int ml, .ref mfd, .int mf, .int sp, .int on, .int tw])), (ms, .inl (K, 889, .inl (upd sf ((nI (10 + en)).toNatClampNeg) t9)))] := hD
  have hf9 : upd sf ((nI (10 + en)).toNatClampNeg) t9 = (upd sf (10 + en) t9) := by rw [nI_clamp (by omega)]
  rw [hf9] at hP hD
  have hP : va_P D vwCl [(mo, .inr (8, [.ref ms, .int sv, .ref mb, .int ty, .int th, .ref mk, .int ml, .ref mfd, .int mf, .int sp, .int on, .int tw])), (ms, .inl (K, 889, .inl (upd sf (10 + en) t9)))] H := hP
  have hD : va_D A [(mo, .inr (8, [.ref ms, .int sv, .ref mb, .int ty, .int th, .ref mk, .int ml, .ref mfd, .int mf, .int sp, .int on, .int tw])), (ms, .inl (K, 889, .inl (upd sf (10 + en) t9)))] := hD
  refine lv_iload_n hx hb dX8_smudges_20 rfl (lv_at hl 0 rfl) ?_
  have hP9 : va_P D vwCl [(mo, .inr (8, [.ref ms, .int sv, .ref mb, .int ty, .int th, .ref mk, .int ml, .ref mfd, .int mf, .int sp, .int on, .int tw])), (ms, .inl (K, 889, .inl (upd sf (10 + en) t9)))] H := hP.sub [0, 1] rfl
  have hD9 : va_D A [(mo, .inr (8, [.ref ms, .int sv, .ref mb, .int ty, .int th, .ref mk, .int ml, .ref mfd, .int mf, .int sp, .int on, .int tw])), (ms, .inl (K, 889, .inl (upd sf (10 + en) t9)))] := hD.sub [0, 1] (by decide) rfl
  have hK9 : va_K D vwCl [] s := hK.sub [] rfl
  exact W.iret (v := (zf en)) hx hb hr (fun t ht9 hW9 => ⟨⟨(zf en), (), rfl, by first | rfl | trivial | (simp only [if_true, if_false, reduceIte, and_self]; done) | simp_all, ⟨by rw [ht9]; exact hP9, va_K.moved hW9.alike hK9, hD9⟩⟩, hS.F ht9⟩) hS.2.2 dX8_smudges_21
set_option maxHeartbeats 4000000 in
set_option maxRecDepth 100000 in
theorem c_M_smudge (l : Launch) (D : va_G) (mo : Nat) (ms : Nat) (kp : Nat) (mb : Nat) (ty : Int32) (th : Int32) (mk : Nat) (ml : Int32) (mfd : Nat) (mf : Int32) (sp : Int32) (on : Int32) (tw : Int32) (K : ClassId) (sf : Nat → Int32) (x : ST) (en : Nat) (t9 : Int32) (hR : RS x sf) (hbx : bST x) (hlx : labW x) (hkp : kp ≤ 6) (hen : en < s_ns x) (hx1 : ¬ t9 < (-9)) (hx2 : t9 ≤ 9) (sz : Nat) : k_Mi (S := Nat → Int32) l D yX8_smudge cX8_smudge 3 (some .int) 2 0 0 44 [.ref mo, .int (nI en), .int t9] [(mo, .inr (8, [.ref ms, .int (nI kp), .ref mb, .int ty, .int th, .ref mk, .int ml, .ref mfd, .int mf, .int sp, .int on, .int tw])), (ms, .inl (K, 889, .inl sf))] [(K, .int)] (fun (r : Int32) (sg : Nat → Int32) => r = (s_zf x en) ∧ RS (setZ en t9 x) sg ∧ hiEq sg (svM kp sf)) (fun sg => [(mo, .inr (8, [.ref ms, .int (nI (min (kp + 1) 6)), .ref mb, .int ty, .int 0, .ref mk, .int ml, .ref mfd, .int mf, .int sp, .int on, .int tw])), (ms, .inl (K, 889, .inl sg))]) (fun sg => []) sz := by
  refine Met.ofW (cc := cX8_smudge) (maxL := 3) (ret := (some .int)) (by decide) rfl ?_
  intro p e s m args below meth c s₁ B hml hv
  obtain ⟨rfl, hsz, hP, hK, hD0, hG⟩ := hv
  have hx := B.exec
  have hb := B.bytes
  have hr := B.returns
  have ht : ∀ v9 ∈ wsA, v9.before ([.ref mo, .int (nI en), .int t9] : List Value).toArray s = true := fun v9 h9 => atoms_spec (ws := k_ws yX8_smudge cX8_smudge 3 (some .int)) B.pre v9 (List.mem_cons_of_mem _ h9)
  have hown : s.vm.findClass RX8 = some m.cls := findClass_of_methodNamed B.named
  have S0 : k_C p s m ([.ref mo, .int (nI en), .int t9] : List Value).toArray c cX8_smudge 3 RX8 := ⟨hx, hb, hml, hown, ht⟩
  have hlocks := B.notSynchronized
  subst hsz
  have hD := hD0.self (sz := s.heap.size)
  generalize hAe : va_A [(mo, .inr (8, [.ref ms, .int (nI kp), .ref mb, .int ty, .int th, .ref mk, .int ml, .ref mfd, .int mf, .int sp, .int on, .int tw])), (ms, .inl (K, 889, .inl sf))] s.heap.size = A at hD hG ⊢
  have hA : ∀ q : Nat, s.heap.size ≤ q → A q := fun q h => by rw [← hAe]; exact Or.inr h
  have hS : va_S A s.heap s.heap [] := va_S.rf
  have hl := lv_entry ([.ref mo, .int (nI en), .int t9]) (n := 3) (Nat.le_of_ble_eq_true rfl)
  rw [lg_entry_eq]
  generalize (lg_sl ([.ref mo, .int (nI en), .int t9]) ++ List.replicate (3 - (lg_sl ([.ref mo, .int (nI en), .int t9])).length) Slot.unset).toArray = ls at hl ⊢
  have hl : lv_has ls 3 [(0, .ref mo), (1, .int (nI en)), (2, .int t9)] := hl
  have hP : va_P D vwCl [(mo, .inr (8, [.ref ms, .int (nI kp), .ref mb, .int ty, .int th, .ref mk, .int ml, .ref mfd, .int mf, .int sp, .int on, .int tw])), (ms, .inl (K, 889, .inl sf))] s.heap := hP
  have hR9 := hR
  have hlx9 : labW x := hlx
  obtain ⟨q0, q1, q2, h51, q4, h93, ⟨h94, q7⟩, h125, h126⟩ := hR
  obtain ⟨b1, b2, b3, b4⟩ := bST_le hbx
  obtain ⟨hl1, hl2⟩ := hlx
  refine lv_aload_n hx hb dX8_smudge_0 rfl (lv_at hl 0 rfl) ?_
  refine lv_aload_n hx hb dX8_smudge_1 rfl (lv_at hl 0 rfl) ?_
  refine lv_iload_n hx hb dX8_smudge_2 rfl (lv_at hl 1 rfl) ?_
  have ct := k_cut_of (wc := [(mo, .inr (8, [.ref ms, .int (nI kp), .ref mb, .int ty, .int th, .ref mk, .int ml, .ref mfd, .int mf, .int sp, .int on, .int tw])), (ms, .inl (K, 889, .inl sf))]) (wr := []) (tc := [(K, .int)]) hG hS hA hK hP hD [0, 1] [] [0] rfl rfl (by decide) (by decide) (by decide) rfl
  refine k_endi (As := [.ref mo, .int (nI en)]) ct (k_runV (As := [.int (nI en)]) (rest := [.ref mo]) S0 Lv_X8_68 rfl (ci := 8) (q0 := 0) rfl rfl ct (c_M_isEl1 l D mo ms (nI kp) mb ty th mk ml mfd mf sp on tw K sf (nI en) (s_nd x) (by rw [← hl1]; exact inR_in hen (by omega)) (by assumption) (by first | assumption | omega) s.heap.size) hl.1 rfl (Nat.le_of_ble_eq_true rfl) rfl dX8_smudge_3 ⟨⟨Nat.le_of_ble_eq_true rfl, Nat.le_of_ble_eq_true rfl⟩, Nat.le_of_ble_eq_true rfl, Nat.le_of_ble_eq_true rfl⟩) rfl rfl (fun r_1 _ H locs hw_2 hP hD hK hS => ?_)
  have hK : va_K D vwCl [(K, .int)] s := hK
  have hP : va_P D vwCl [(mo, .inr (8, [.ref ms, .int (nI kp), .ref mb, .int ty, .int th, .ref mk, .int ml, .ref mfd, .int mf, .int sp, .int on, .int tw])), (ms, .inl (K, 889, .inl sf))] H := hP
  have hD : va_D A [(mo, .inr (8, [.ref ms, .int (nI kp), .ref mb, .int ty, .int th, .ref mk, .int ml, .ref mfd, .int mf, .int sp, .int on, .int tw])), (ms, .inl (K, 889, .inl sf))] := hD
  have hw_2 : r_1 = (1) := hw_2
  have hw_2 := hw_2.symm
  subst hw_2
  refine k_nrm (y := 1) rfl ?_
  refine lv_iload_n hx hb dX8_smudge_6 rfl (lv_at hl 2 rfl) ?_
  refine lv_bipush (v := (-9)) hx hb dX8_smudge_7 (by decide) ?_
  refine lv_bipush (v := 9) hx hb dX8_smudge_9 (by decide) ?_
  have ct := k_cut_of (wc := []) (wr := [(mo, .inr (8, [.ref ms, .int (nI kp), .ref mb, .int ty, .int th, .ref mk, .int ml, .ref mfd, .int mf, .int sp, .int on, .int tw])), (ms, .inl (K, 889, .inl sf))]) (tc := []) hG hS hA hK hP hD [] [0, 1] [] rfl rfl (by decide) (by decide) (by decide) rfl
  refine k_endi (As := [.int t9, .int (-9), .int 9]) ct (k_runS (As := [.int t9, .int (-9), .int 9]) (rest := [.int 1, .ref mo]) S0 Ls_X8_46 ct (c_M_in1 l D t9 (-9) 9 hx1 (Int32.not_lt.mpr hx2) H.size) hl.1 rfl (Nat.le_of_ble_eq_true rfl) rfl dX8_smudge_11 ⟨⟨Nat.le_of_ble_eq_true rfl, Nat.le_of_ble_eq_true rfl⟩, Nat.le_of_ble_eq_true rfl, Nat.le_of_ble_eq_true rfl⟩) rfl rfl (fun r_3 _ H locs hw_4 hP hD hK hS => ?_)
  have hK : va_K D vwCl [(K, .int)] s := hK
  have hP : va_P D vwCl [(mo, .inr (8, [.ref ms, .int (nI kp), .ref mb, .int ty, .int th, .ref mk, .int ml, .ref mfd, .int mf, .int sp, .int on, .int tw])), (ms, .inl (K, 889, .inl sf))] H := hP
  have hD : va_D A [(mo, .inr (8, [.ref ms, .int (nI kp), .ref mb, .int ty, .int th, .ref mk, .int ml, .ref mfd, .int mf, .int sp, .int on, .int tw])), (ms, .inl (K, 889, .inl sf))] := hD
  have hw_4 : r_3 = (1) := hw_4
  have hw_4 := hw_4.symm
  subst hw_4
  refine k_nrm (y := 1) rfl ?_
  have ct := k_cut_of (wc := [(mo, .inr (8, [.ref ms, .int (nI kp), .ref mb, .int ty, .int th, .ref mk, .int ml, .ref mfd, .int mf, .int sp, .int on, .int tw]))]) (wr := [(ms, .inl (K, 889, .inl sf))]) (tc := []) hG hS hA hK hP hD [0] [1] [] rfl rfl (by decide) (by decide) (by decide) rfl
  refine k_endi (As := [.ref mo, .int 1, .int 1]) ct (k_runV (As := [.int 1, .int 1]) (rest := []) S0 Lv_X8_58 rfl (ci := 8) (q0 := 0) rfl rfl ct (c_M_goes11 l D mo ms (nI kp) mb ty th mk ml mfd mf sp on tw H.size) hl.1 rfl (Nat.le_of_ble_eq_true rfl) rfl dX8_smudge_14 ⟨⟨Nat.le_of_ble_eq_true rfl, Nat.le_of_ble_eq_true rfl⟩, Nat.le_of_ble_eq_true rfl, Nat.le_of_ble_eq_true rfl⟩) rfl rfl (fun r_5 _ H locs hw_6 hP hD hK hS => ?_)
  have hK : va_K D vwCl [(K, .int)] s := hK
  have hP : va_P D vwCl [(ms, .inl (K, 889, .inl sf)), (mo, .inr (8, [.ref ms, .int (nI kp), .ref mb, .int ty, .int 0, .ref mk, .int ml, .ref mfd, .int mf, .int sp, .int on, .int tw]))] H := hP
  have hD : va_D A [(ms, .inl (K, 889, .inl sf)), (mo, .inr (8, [.ref ms, .int (nI kp), .ref mb, .int ty, .int 0, .ref mk, .int ml, .ref mfd, .int mf, .int sp, .int on, .int tw]))] := hD
  have hw_6 : r_5 = (1) := hw_6
  have hw_6 := hw_6.symm
  subst hw_6
  refine k_nrm (y := 1) rfl ?_
  refine lv_if_ne (tgt := 22) hx hb dX8_smudge_17 (by decide) (fun _ => ?_) (fun c9 => absurd c9 (by decide))
  refine lv_aload_n hx hb dX8_smudge_22 rfl (lv_at hl 0 rfl) ?_
  have ct := k_cut_of (wc := [(mo, .inr (8, [.ref ms, .int (nI kp), .ref mb, .int ty, .int 0, .ref mk, .int ml, .ref mfd, .int mf, .int sp, .int on, .int tw])), (ms, .inl (K, 889, .inl sf))]) (wr := []) (tc := [(K, .int)]) hG hS hA hK hP hD [1, 0] [] [0] rfl rfl (by decide) (by decide) (by decide) rfl
  refine k_endv (As := [.ref mo]) ct (k_runV (As := []) (rest := []) S0 Lv_X8_62 rfl (ci := 8) (q0 := 0) rfl rfl ct (c_M_saves l D mo ms kp mb ty 0 mk ml mfd mf sp on tw K sf (by first | assumption | omega) H.size) hl.1 rfl (Nat.le_of_ble_eq_true rfl) rfl dX8_smudge_23 ⟨⟨Nat.le_of_ble_eq_true rfl, Nat.le_of_ble_eq_true rfl⟩, Nat.le_of_ble_eq_true rfl, Nat.le_of_ble_eq_true rfl⟩) rfl rfl (fun _ _ H locs hw_8 hP hD hK hS => ?_)
  have hK : va_K D vwCl [(K, .int)] s := hK
  have hP : va_P D vwCl [(mo, .inr (8, [.ref ms, .int (nI (min (kp + 1) 6)), .ref mb, .int ty, .int 0, .ref mk, .int ml, .ref mfd, .int mf, .int sp, .int on, .int tw])), (ms, .inl (K, 889, .inl (svM kp sf)))] H := hP
  have hD : va_D A [(mo, .inr (8, [.ref ms, .int (nI (min (kp + 1) 6)), .ref mb, .int ty, .int 0, .ref mk, .int ml, .ref mfd, .int mf, .int sp, .int on, .int tw])), (ms, .inl (K, 889, .inl (svM kp sf)))] := hD
  have hRs : RS x (svM kp sf) := RS_sv hbx hR9
  have hRs9 := hRs
  obtain ⟨k0, k1, k2, h51s, k4, h93s, ⟨h94s, k7⟩, h125s, h126s⟩ := hRs
  refine lv_aload_n hx hb dX8_smudge_26 rfl (lv_at hl 0 rfl) ?_
  refine lv_iload_n hx hb dX8_smudge_27 rfl (lv_at hl 1 rfl) ?_
  refine lv_iload_n hx hb dX8_smudge_28 rfl (lv_at hl 2 rfl) ?_
  have ct := k_cut_of (wc := [(mo, .inr (8, [.ref ms, .int (nI (min (kp + 1) 6)), .ref mb, .int ty, .int 0, .ref mk, .int ml, .ref mfd, .int mf, .int sp, .int on, .int tw])), (ms, .inl (K, 889, .inl (svM kp sf)))]) (wr := []) (tc := [(K, .int)]) hG hS hA hK hP hD [0, 1] [] [0] rfl rfl (by decide) (by decide) (by decide) rfl
  refine k_endi (As := [.ref mo, .int (nI en), .int t9]) ct (k_runV (As := [.int (nI en), .int t9]) (rest := []) S0 Lv_X8_72 rfl (ci := 8) (q0 := 0) rfl rfl ct (c_M_smudges l D mo ms (nI (min (kp + 1) 6)) mb ty 0 mk ml mfd mf sp on tw K (svM kp sf) en t9 (s_zf x) (by omega) (k2 en hen) H.size) hl.1 rfl (Nat.le_of_ble_eq_true rfl) rfl dX8_smudge_29 ⟨⟨Nat.le_of_ble_eq_true rfl, Nat.le_of_ble_eq_true rfl⟩, Nat.le_of_ble_eq_true rfl, Nat.le_of_ble_eq_true rfl⟩) rfl rfl (fun r_9 _ H locs hw_10 hP hD hK hS => ?_)
  have hK : va_K D vwCl [(K, .int)] s := hK
  have hP : va_P D vwCl [(mo, .inr (8, [.ref ms, .int (nI (min (kp + 1) 6)), .ref mb, .int ty, .int 0, .ref mk, .int ml, .ref mfd, .int mf, .int sp, .int on, .int tw])), (ms, .inl (K, 889, .inl (upd (svM kp sf) (10 + en) t9)))] H := hP
  have hD : va_D A [(mo, .inr (8, [.ref ms, .int (nI (min (kp + 1) 6)), .ref mb, .int ty, .int 0, .ref mk, .int ml, .ref mfd, .int mf, .int sp, .int on, .int tw])), (ms, .inl (K, 889, .inl (upd (svM kp sf) (10 + en) t9)))] := hD
  have hw_10 : r_9 = ((s_zf x) en) := hw_10
  have hw_10 := hw_10.symm
  subst hw_10
  refine k_nrm (y := ((s_zf x) en)) rfl ?_
  have hP9 : va_P D vwCl [(mo, .inr (8, [.ref ms, .int (nI (min (kp + 1) 6)), .ref mb, .int ty, .int 0, .ref mk, .int ml, .ref mfd, .int mf, .int sp, .int on, .int tw])), (ms, .inl (K, 889, .inl (upd (svM kp sf) (10 + en) t9)))] H := hP.sub [0, 1] rfl
  have hD9 : va_D A [(mo, .inr (8, [.ref ms, .int (nI (min (kp + 1) 6)), .ref mb, .int ty, .int 0, .ref mk, .int ml, .ref mfd, .int mf, .int sp, .int on, .int tw])), (ms, .inl (K, 889, .inl (upd (svM kp sf) (10 + en) t9)))] := hD.sub [0, 1] (by decide) rfl
  have hK9 : va_K D vwCl [] s := hK.sub [] rfl
  exact W.iret (v := ((s_zf x) en)) hx hb hr (fun t ht9 hW9 => ⟨⟨((s_zf x) en), (upd (svM kp sf) (10 + en) t9), rfl, by exact ⟨rfl, RS_smudge hbx hRs9 hen⟩, ⟨by rw [ht9]; exact hP9, va_K.moved hW9.alike hK9, hD9⟩⟩, hS.F ht9⟩) hS.2.2 dX8_smudge_32
set_option maxHeartbeats 4000000 in
set_option maxRecDepth 100000 in
theorem c_M_smudgeX1 (l : Launch) (D : va_G) (mo : Nat) (ms : Nat) (sv : Int32) (mb : Nat) (ty : Int32) (th : Int32) (mk : Nat) (ml : Int32) (mfd : Nat) (mf : Int32) (sp : Int32) (on : Int32) (tw : Int32) (K : ClassId) (sf : Nat → Int32) (x : ST) (v : Int32) (t9 : Int32) (hR : RS x sf) (hbx : bST x) (hlx : labW x) (hxi : inR v (nI (s_ns x)) = 0) (sz : Nat) : k_Mi (S := Unit) l D yX8_smudge cX8_smudge 3 (some .int) 2 0 0 43 [.ref mo, .int v, .int t9] [(mo, .inr (8, [.ref ms, .int sv, .ref mb, .int ty, .int th, .ref mk, .int ml, .ref mfd, .int mf, .int sp, .int on, .int tw])), (ms, .inl (K, 889, .inl sf))] [(K, .int)] (fun (r : Int32) (_ : Unit) => r = (0)) (fun _ => [(mo, .inr (8, [.ref ms, .int sv, .ref mb, .int ty, .int 1, .ref mk, .int ml, .ref mfd, .int mf, .int sp, .int on, .int tw])), (ms, .inl (K, 889, .inl sf))]) (fun _ => []) sz := by
  refine Met.ofW (cc := cX8_smudge) (maxL := 3) (ret := (some .int)) (by decide) rfl ?_
  intro p e s m args below meth c s₁ B hml hv
  obtain ⟨rfl, hsz, hP, hK, hD0, hG⟩ := hv
  have hx := B.exec
  have hb := B.bytes
  have hr := B.returns
  have ht : ∀ v9 ∈ wsA, v9.before ([.ref mo, .int v, .int t9] : List Value).toArray s = true := fun v9 h9 => atoms_spec (ws := k_ws yX8_smudge cX8_smudge 3 (some .int)) B.pre v9 (List.mem_cons_of_mem _ h9)
  have hown : s.vm.findClass RX8 = some m.cls := findClass_of_methodNamed B.named
  have S0 : k_C p s m ([.ref mo, .int v, .int t9] : List Value).toArray c cX8_smudge 3 RX8 := ⟨hx, hb, hml, hown, ht⟩
  have hlocks := B.notSynchronized
  subst hsz
  have hD := hD0.self (sz := s.heap.size)
  generalize hAe : va_A [(mo, .inr (8, [.ref ms, .int sv, .ref mb, .int ty, .int th, .ref mk, .int ml, .ref mfd, .int mf, .int sp, .int on, .int tw])), (ms, .inl (K, 889, .inl sf))] s.heap.size = A at hD hG ⊢
  have hA : ∀ q : Nat, s.heap.size ≤ q → A q := fun q h => by rw [← hAe]; exact Or.inr h
  have hS : va_S A s.heap s.heap [] := va_S.rf
  have hl := lv_entry ([.ref mo, .int v, .int t9]) (n := 3) (Nat.le_of_ble_eq_true rfl)
  rw [lg_entry_eq]
  generalize (lg_sl ([.ref mo, .int v, .int t9]) ++ List.replicate (3 - (lg_sl ([.ref mo, .int v, .int t9])).length) Slot.unset).toArray = ls at hl ⊢
  have hl : lv_has ls 3 [(0, .ref mo), (1, .int v), (2, .int t9)] := hl
  have hP : va_P D vwCl [(mo, .inr (8, [.ref ms, .int sv, .ref mb, .int ty, .int th, .ref mk, .int ml, .ref mfd, .int mf, .int sp, .int on, .int tw])), (ms, .inl (K, 889, .inl sf))] s.heap := hP
  have hR9 := hR
  have hlx9 : labW x := hlx
  obtain ⟨q0, q1, q2, h51, q4, h93, ⟨h94, q7⟩, h125, h126⟩ := hR
  obtain ⟨b1, b2, b3, b4⟩ := bST_le hbx
  obtain ⟨hl1, hl2⟩ := hlx
  refine lv_aload_n hx hb dX8_smudge_0 rfl (lv_at hl 0 rfl) ?_
  refine lv_aload_n hx hb dX8_smudge_1 rfl (lv_at hl 0 rfl) ?_
  refine lv_iload_n hx hb dX8_smudge_2 rfl (lv_at hl 1 rfl) ?_
  have ct := k_cut_of (wc := [(mo, .inr (8, [.ref ms, .int sv, .ref mb, .int ty, .int th, .ref mk, .int ml, .ref mfd, .int mf, .int sp, .int on, .int tw])), (ms, .inl (K, 889, .inl sf))]) (wr := []) (tc := [(K, .int)]) hG hS hA hK hP hD [0, 1] [] [0] rfl rfl (by decide) (by decide) (by decide) rfl
  refine k_endi (As := [.ref mo, .int v]) ct (k_runV (As := [.int v]) (rest := [.ref mo]) S0 Lv_X8_68 rfl (ci := 8) (q0 := 0) rfl rfl ct (c_M_isEl0 l D mo ms sv mb ty th mk ml mfd mf sp on tw K sf v (s_nd x) (by rw [← hl1]; exact hxi) (by assumption) (by first | assumption | omega) s.heap.size) hl.1 rfl (Nat.le_of_ble_eq_true rfl) rfl dX8_smudge_3 ⟨⟨Nat.le_of_ble_eq_true rfl, Nat.le_of_ble_eq_true rfl⟩, Nat.le_of_ble_eq_true rfl, Nat.le_of_ble_eq_true rfl⟩) rfl rfl (fun r_1 _ H locs hw_2 hP hD hK hS => ?_)
  have hK : va_K D vwCl [(K, .int)] s := hK
  have hP : va_P D vwCl [(mo, .inr (8, [.ref ms, .int sv, .ref mb, .int ty, .int th, .ref mk, .int ml, .ref mfd, .int mf, .int sp, .int on, .int tw])), (ms, .inl (K, 889, .inl sf))] H := hP
  have hD : va_D A [(mo, .inr (8, [.ref ms, .int sv, .ref mb, .int ty, .int th, .ref mk, .int ml, .ref mfd, .int mf, .int sp, .int on, .int tw])), (ms, .inl (K, 889, .inl sf))] := hD
  have hw_2 : r_1 = (0) := hw_2
  have hw_2 := hw_2.symm
  subst hw_2
  refine k_nrm (y := 0) rfl ?_
  refine lv_iload_n hx hb dX8_smudge_6 rfl (lv_at hl 2 rfl) ?_
  refine lv_bipush (v := (-9)) hx hb dX8_smudge_7 (by decide) ?_
  refine lv_bipush (v := 9) hx hb dX8_smudge_9 (by decide) ?_
  have ct := k_cut_of (wc := []) (wr := [(mo, .inr (8, [.ref ms, .int sv, .ref mb, .int ty, .int th, .ref mk, .int ml, .ref mfd, .int mf, .int sp, .int on, .int tw])), (ms, .inl (K, 889, .inl sf))]) (tc := []) hG hS hA hK hP hD [] [0, 1] [] rfl rfl (by decide) (by decide) (by decide) rfl
  refine k_endi (As := [.int t9, .int (-9), .int 9]) ct (k_runS (As := [.int t9, .int (-9), .int 9]) (rest := [.int 0, .ref mo]) S0 Ls_X8_46 ct (c_M_in l D t9 (-9) 9 H.size) hl.1 rfl (Nat.le_of_ble_eq_true rfl) rfl dX8_smudge_11 ⟨⟨Nat.le_of_ble_eq_true rfl, Nat.le_of_ble_eq_true rfl⟩, Nat.le_of_ble_eq_true rfl, Nat.le_of_ble_eq_true rfl⟩) rfl rfl (fun r_3 _ H locs hw_4 hP hD hK hS => ?_)
  have hK : va_K D vwCl [(K, .int)] s := hK
  have hP : va_P D vwCl [(mo, .inr (8, [.ref ms, .int sv, .ref mb, .int ty, .int th, .ref mk, .int ml, .ref mfd, .int mf, .int sp, .int on, .int tw])), (ms, .inl (K, 889, .inl sf))] H := hP
  have hD : va_D A [(mo, .inr (8, [.ref ms, .int sv, .ref mb, .int ty, .int th, .ref mk, .int ml, .ref mfd, .int mf, .int sp, .int on, .int tw])), (ms, .inl (K, 889, .inl sf))] := hD
  rcases hw_4 with ⟨hr9, c_5, c_6⟩ | ⟨hr9, c_7⟩
  · subst hr9
    have ct := k_cut_of (wc := [(mo, .inr (8, [.ref ms, .int sv, .ref mb, .int ty, .int th, .ref mk, .int ml, .ref mfd, .int mf, .int sp, .int on, .int tw]))]) (wr := [(ms, .inl (K, 889, .inl sf))]) (tc := []) hG hS hA hK hP hD [0] [1] [] rfl rfl (by decide) (by decide) (by decide) rfl
    refine k_endi (As := [.ref mo, .int 0, .int 1]) ct (k_runV (As := [.int 0, .int 1]) (rest := []) S0 Lv_X8_58 rfl (ci := 8) (q0 := 0) rfl rfl ct (c_M_goes0 l D mo ms sv mb ty th mk ml mfd mf sp on tw 1 H.size) hl.1 rfl (Nat.le_of_ble_eq_true rfl) rfl dX8_smudge_14 ⟨⟨Nat.le_of_ble_eq_true rfl, Nat.le_of_ble_eq_true rfl⟩, Nat.le_of_ble_eq_true rfl, Nat.le_of_ble_eq_true rfl⟩) rfl rfl (fun r_8 _ H locs hw_9 hP hD hK hS => ?_)
    have hK : va_K D vwCl [(K, .int)] s := hK
    have hP : va_P D vwCl [(ms, .inl (K, 889, .inl sf)), (mo, .inr (8, [.ref ms, .int sv, .ref mb, .int ty, .int 1, .ref mk, .int ml, .ref mfd, .int mf, .int sp, .int on, .int tw]))] H := hP
    have hD : va_D A [(ms, .inl (K, 889, .inl sf)), (mo, .inr (8, [.ref ms, .int sv, .ref mb, .int ty, .int 1, .ref mk, .int ml, .ref mfd, .int mf, .int sp, .int on, .int tw]))] := hD
    have hw_9 : r_8 = (0) := hw_9
    have hw_9 := hw_9.symm
    subst hw_9
    refine k_nrm (y := 0) rfl ?_
    refine lv_if_ne (tgt := 22) hx hb dX8_smudge_17 (by decide) (fun c9 => absurd (by decide) c9) (fun _ => ?_)
    refine lv_iconst (v := 0) hx hb dX8_smudge_20 (by decide) ?_
    have hP9 : va_P D vwCl [(mo, .inr (8, [.ref ms, .int sv, .ref mb, .int ty, .int 1, .ref mk, .int ml, .ref mfd, .int mf, .int sp, .int on, .int tw])), (ms, .inl (K, 889, .inl sf))] H := hP.sub [1, 0] rfl
    have hD9 : va_D A [(mo, .inr (8, [.ref ms, .int sv, .ref mb, .int ty, .int 1, .ref mk, .int ml, .ref mfd, .int mf, .int sp, .int on, .int tw])), (ms, .inl (K, 889, .inl sf))] := hD.sub [1, 0] (by decide) rfl
    have hK9 : va_K D vwCl [] s := hK.sub [] rfl
    exact W.iret (v := 0) hx hb hr (fun t ht9 hW9 => ⟨⟨0, (), rfl, by first | rfl | trivial | (simp only [c_5, c_6, if_true, if_false, reduceIte, and_self]; done) | simp_all, ⟨by rw [ht9]; exact hP9, va_K.moved hW9.alike hK9, hD9⟩⟩, hS.F ht9⟩) hS.2.2 dX8_smudge_21
  · subst hr9
    have ct := k_cut_of (wc := [(mo, .inr (8, [.ref ms, .int sv, .ref mb, .int ty, .int th, .ref mk, .int ml, .ref mfd, .int mf, .int sp, .int on, .int tw]))]) (wr := [(ms, .inl (K, 889, .inl sf))]) (tc := []) hG hS hA hK hP hD [0] [1] [] rfl rfl (by decide) (by decide) (by decide) rfl
    refine k_endi (As := [.ref mo, .int 0, .int 0]) ct (k_runV (As := [.int 0, .int 0]) (rest := []) S0 Lv_X8_58 rfl (ci := 8) (q0 := 0) rfl rfl ct (c_M_goes0 l D mo ms sv mb ty th mk ml mfd mf sp on tw 0 H.size) hl.1 rfl (Nat.le_of_ble_eq_true rfl) rfl dX8_smudge_14 ⟨⟨Nat.le_of_ble_eq_true rfl, Nat.le_of_ble_eq_true rfl⟩, Nat.le_of_ble_eq_true rfl, Nat.le_of_ble_eq_true rfl⟩) rfl rfl (fun r_10 _ H locs hw_11 hP hD hK hS => ?_)
    have hK : va_K D vwCl [(K, .int)] s := hK
    have hP : va_P D vwCl [(ms, .inl (K, 889, .inl sf)), (mo, .inr (8, [.ref ms, .int sv, .ref mb, .int ty, .int 1, .ref mk, .int ml, .ref mfd, .int mf, .int sp, .int on, .int tw]))] H := hP
    have hD : va_D A [(ms, .inl (K, 889, .inl sf)), (mo, .inr (8, [.ref ms, .int sv, .ref mb, .int ty, .int 1, .ref mk, .int ml, .ref mfd, .int mf, .int sp, .int on, .int tw]))] := hD
    have hw_11 : r_10 = (0) := hw_11
    have hw_11 := hw_11.symm
    subst hw_11
    refine k_nrm (y := 0) rfl ?_
    refine lv_if_ne (tgt := 22) hx hb dX8_smudge_17 (by decide) (fun c9 => absurd (by decide) c9) (fun _ => ?_)
    refine lv_iconst (v := 0) hx hb dX8_smudge_20 (by decide) ?_
    have hP9 : va_P D vwCl [(mo, .inr (8, [.ref ms, .int sv, .ref mb, .int ty, .int 1, .ref mk, .int ml, .ref mfd, .int mf, .int sp, .int on, .int tw])), (ms, .inl (K, 889, .inl sf))] H := hP.sub [1, 0] rfl
    have hD9 : va_D A [(mo, .inr (8, [.ref ms, .int sv, .ref mb, .int ty, .int 1, .ref mk, .int ml, .ref mfd, .int mf, .int sp, .int on, .int tw])), (ms, .inl (K, 889, .inl sf))] := hD.sub [1, 0] (by decide) rfl
    have hK9 : va_K D vwCl [] s := hK.sub [] rfl
    exact W.iret (v := 0) hx hb hr (fun t ht9 hW9 => ⟨⟨0, (), rfl, by first | rfl | trivial | (simp only [c_7, if_true, if_false, reduceIte, and_self]; done) | simp_all, ⟨by rw [ht9]; exact hP9, va_K.moved hW9.alike hK9, hD9⟩⟩, hS.F ht9⟩) hS.2.2 dX8_smudge_21
set_option maxHeartbeats 4000000 in
set_option maxRecDepth 100000 in
theorem c_M_smudgeX2 (l : Launch) (D : va_G) (mo : Nat) (ms : Nat) (sv : Int32) (mb : Nat) (ty : Int32) (th : Int32) (mk : Nat) (ml : Int32) (mfd : Nat) (mf : Int32) (sp : Int32) (on : Int32) (tw : Int32) (K : ClassId) (sf : Nat → Int32) (x : ST) (en : Nat) (t9 : Int32) (hR : RS x sf) (hbx : bST x) (hlx : labW x) (hen : en < s_ns x) (hx9 : ¬ (¬ t9 < (-9) ∧ t9 ≤ 9)) (sz : Nat) : k_Mi (S := Unit) l D yX8_smudge cX8_smudge 3 (some .int) 2 0 0 43 [.ref mo, .int (nI en), .int t9] [(mo, .inr (8, [.ref ms, .int sv, .ref mb, .int ty, .int th, .ref mk, .int ml, .ref mfd, .int mf, .int sp, .int on, .int tw])), (ms, .inl (K, 889, .inl sf))] [(K, .int)] (fun (r : Int32) (_ : Unit) => r = (0)) (fun _ => [(mo, .inr (8, [.ref ms, .int sv, .ref mb, .int ty, .int 2, .ref mk, .int ml, .ref mfd, .int mf, .int sp, .int on, .int tw])), (ms, .inl (K, 889, .inl sf))]) (fun _ => []) sz := by
  refine Met.ofW (cc := cX8_smudge) (maxL := 3) (ret := (some .int)) (by decide) rfl ?_
  intro p e s m args below meth c s₁ B hml hv
  obtain ⟨rfl, hsz, hP, hK, hD0, hG⟩ := hv
  have hx := B.exec
  have hb := B.bytes
  have hr := B.returns
  have ht : ∀ v9 ∈ wsA, v9.before ([.ref mo, .int (nI en), .int t9] : List Value).toArray s = true := fun v9 h9 => atoms_spec (ws := k_ws yX8_smudge cX8_smudge 3 (some .int)) B.pre v9 (List.mem_cons_of_mem _ h9)
  have hown : s.vm.findClass RX8 = some m.cls := findClass_of_methodNamed B.named
  have S0 : k_C p s m ([.ref mo, .int (nI en), .int t9] : List Value).toArray c cX8_smudge 3 RX8 := ⟨hx, hb, hml, hown, ht⟩
  have hlocks := B.notSynchronized
  subst hsz
  have hD := hD0.self (sz := s.heap.size)
  generalize hAe : va_A [(mo, .inr (8, [.ref ms, .int sv, .ref mb, .int ty, .int th, .ref mk, .int ml, .ref mfd, .int mf, .int sp, .int on, .int tw])), (ms, .inl (K, 889, .inl sf))] s.heap.size = A at hD hG ⊢
  have hA : ∀ q : Nat, s.heap.size ≤ q → A q := fun q h => by rw [← hAe]; exact Or.inr h
  have hS : va_S A s.heap s.heap [] := va_S.rf
  have hl := lv_entry ([.ref mo, .int (nI en), .int t9]) (n := 3) (Nat.le_of_ble_eq_true rfl)
  rw [lg_entry_eq]
  generalize (lg_sl ([.ref mo, .int (nI en), .int t9]) ++ List.replicate (3 - (lg_sl ([.ref mo, .int (nI en), .int t9])).length) Slot.unset).toArray = ls at hl ⊢
  have hl : lv_has ls 3 [(0, .ref mo), (1, .int (nI en)), (2, .int t9)] := hl
  have hP : va_P D vwCl [(mo, .inr (8, [.ref ms, .int sv, .ref mb, .int ty, .int th, .ref mk, .int ml, .ref mfd, .int mf, .int sp, .int on, .int tw])), (ms, .inl (K, 889, .inl sf))] s.heap := hP
  have hR9 := hR
  have hlx9 : labW x := hlx
  obtain ⟨q0, q1, q2, h51, q4, h93, ⟨h94, q7⟩, h125, h126⟩ := hR
  obtain ⟨b1, b2, b3, b4⟩ := bST_le hbx
  obtain ⟨hl1, hl2⟩ := hlx
  refine lv_aload_n hx hb dX8_smudge_0 rfl (lv_at hl 0 rfl) ?_
  refine lv_aload_n hx hb dX8_smudge_1 rfl (lv_at hl 0 rfl) ?_
  refine lv_iload_n hx hb dX8_smudge_2 rfl (lv_at hl 1 rfl) ?_
  have ct := k_cut_of (wc := [(mo, .inr (8, [.ref ms, .int sv, .ref mb, .int ty, .int th, .ref mk, .int ml, .ref mfd, .int mf, .int sp, .int on, .int tw])), (ms, .inl (K, 889, .inl sf))]) (wr := []) (tc := [(K, .int)]) hG hS hA hK hP hD [0, 1] [] [0] rfl rfl (by decide) (by decide) (by decide) rfl
  refine k_endi (As := [.ref mo, .int (nI en)]) ct (k_runV (As := [.int (nI en)]) (rest := [.ref mo]) S0 Lv_X8_68 rfl (ci := 8) (q0 := 0) rfl rfl ct (c_M_isEl1 l D mo ms sv mb ty th mk ml mfd mf sp on tw K sf (nI en) (s_nd x) (by rw [← hl1]; exact inR_in hen (by omega)) (by assumption) (by first | assumption | omega) s.heap.size) hl.1 rfl (Nat.le_of_ble_eq_true rfl) rfl dX8_smudge_3 ⟨⟨Nat.le_of_ble_eq_true rfl, Nat.le_of_ble_eq_true rfl⟩, Nat.le_of_ble_eq_true rfl, Nat.le_of_ble_eq_true rfl⟩) rfl rfl (fun r_1 _ H locs hw_2 hP hD hK hS => ?_)
  have hK : va_K D vwCl [(K, .int)] s := hK
  have hP : va_P D vwCl [(mo, .inr (8, [.ref ms, .int sv, .ref mb, .int ty, .int th, .ref mk, .int ml, .ref mfd, .int mf, .int sp, .int on, .int tw])), (ms, .inl (K, 889, .inl sf))] H := hP
  have hD : va_D A [(mo, .inr (8, [.ref ms, .int sv, .ref mb, .int ty, .int th, .ref mk, .int ml, .ref mfd, .int mf, .int sp, .int on, .int tw])), (ms, .inl (K, 889, .inl sf))] := hD
  have hw_2 : r_1 = (1) := hw_2
  have hw_2 := hw_2.symm
  subst hw_2
  refine k_nrm (y := 1) rfl ?_
  refine lv_iload_n hx hb dX8_smudge_6 rfl (lv_at hl 2 rfl) ?_
  refine lv_bipush (v := (-9)) hx hb dX8_smudge_7 (by decide) ?_
  refine lv_bipush (v := 9) hx hb dX8_smudge_9 (by decide) ?_
  have ct := k_cut_of (wc := []) (wr := [(mo, .inr (8, [.ref ms, .int sv, .ref mb, .int ty, .int th, .ref mk, .int ml, .ref mfd, .int mf, .int sp, .int on, .int tw])), (ms, .inl (K, 889, .inl sf))]) (tc := []) hG hS hA hK hP hD [] [0, 1] [] rfl rfl (by decide) (by decide) (by decide) rfl
  refine k_endi (As := [.int t9, .int (-9), .int 9]) ct (k_runS (As := [.int t9, .int (-9), .int 9]) (rest := [.int 1, .ref mo]) S0 Ls_X8_46 ct (c_M_in0 l D t9 (-9) 9 (rg_0 hx9) H.size) hl.1 rfl (Nat.le_of_ble_eq_true rfl) rfl dX8_smudge_11 ⟨⟨Nat.le_of_ble_eq_true rfl, Nat.le_of_ble_eq_true rfl⟩, Nat.le_of_ble_eq_true rfl, Nat.le_of_ble_eq_true rfl⟩) rfl rfl (fun r_3 _ H locs hw_4 hP hD hK hS => ?_)
  have hK : va_K D vwCl [(K, .int)] s := hK
  have hP : va_P D vwCl [(mo, .inr (8, [.ref ms, .int sv, .ref mb, .int ty, .int th, .ref mk, .int ml, .ref mfd, .int mf, .int sp, .int on, .int tw])), (ms, .inl (K, 889, .inl sf))] H := hP
  have hD : va_D A [(mo, .inr (8, [.ref ms, .int sv, .ref mb, .int ty, .int th, .ref mk, .int ml, .ref mfd, .int mf, .int sp, .int on, .int tw])), (ms, .inl (K, 889, .inl sf))] := hD
  have hw_4 : r_3 = (0) := hw_4
  have hw_4 := hw_4.symm
  subst hw_4
  refine k_nrm (y := 0) rfl ?_
  have ct := k_cut_of (wc := [(mo, .inr (8, [.ref ms, .int sv, .ref mb, .int ty, .int th, .ref mk, .int ml, .ref mfd, .int mf, .int sp, .int on, .int tw]))]) (wr := [(ms, .inl (K, 889, .inl sf))]) (tc := []) hG hS hA hK hP hD [0] [1] [] rfl rfl (by decide) (by decide) (by decide) rfl
  refine k_endi (As := [.ref mo, .int 1, .int 0]) ct (k_runV (As := [.int 1, .int 0]) (rest := []) S0 Lv_X8_58 rfl (ci := 8) (q0 := 0) rfl rfl ct (c_M_goes10 l D mo ms sv mb ty th mk ml mfd mf sp on tw H.size) hl.1 rfl (Nat.le_of_ble_eq_true rfl) rfl dX8_smudge_14 ⟨⟨Nat.le_of_ble_eq_true rfl, Nat.le_of_ble_eq_true rfl⟩, Nat.le_of_ble_eq_true rfl, Nat.le_of_ble_eq_true rfl⟩) rfl rfl (fun r_5 _ H locs hw_6 hP hD hK hS => ?_)
  have hK : va_K D vwCl [(K, .int)] s := hK
  have hP : va_P D vwCl [(ms, .inl (K, 889, .inl sf)), (mo, .inr (8, [.ref ms, .int sv, .ref mb, .int ty, .int 2, .ref mk, .int ml, .ref mfd, .int mf, .int sp, .int on, .int tw]))] H := hP
  have hD : va_D A [(ms, .inl (K, 889, .inl sf)), (mo, .inr (8, [.ref ms, .int sv, .ref mb, .int ty, .int 2, .ref mk, .int ml, .ref mfd, .int mf, .int sp, .int on, .int tw]))] := hD
  have hw_6 : r_5 = (0) := hw_6
  have hw_6 := hw_6.symm
  subst hw_6
  refine k_nrm (y := 0) rfl ?_
  refine lv_if_ne (tgt := 22) hx hb dX8_smudge_17 (by decide) (fun c9 => absurd (by decide) c9) (fun _ => ?_)
  refine lv_iconst (v := 0) hx hb dX8_smudge_20 (by decide) ?_
  have hP9 : va_P D vwCl [(mo, .inr (8, [.ref ms, .int sv, .ref mb, .int ty, .int 2, .ref mk, .int ml, .ref mfd, .int mf, .int sp, .int on, .int tw])), (ms, .inl (K, 889, .inl sf))] H := hP.sub [1, 0] rfl
  have hD9 : va_D A [(mo, .inr (8, [.ref ms, .int sv, .ref mb, .int ty, .int 2, .ref mk, .int ml, .ref mfd, .int mf, .int sp, .int on, .int tw])), (ms, .inl (K, 889, .inl sf))] := hD.sub [1, 0] (by decide) rfl
  have hK9 : va_K D vwCl [] s := hK.sub [] rfl
  exact W.iret (v := 0) hx hb hr (fun t ht9 hW9 => ⟨⟨0, (), rfl, by first | rfl | trivial | (simp only [if_true, if_false, reduceIte, and_self]; done) | simp_all, ⟨by rw [ht9]; exact hP9, va_K.moved hW9.alike hK9, hD9⟩⟩, hS.F ht9⟩) hS.2.2 dX8_smudge_21
set_option maxHeartbeats 4000000 in
set_option maxRecDepth 100000 in
theorem c_M_elements (l : Launch) (D : va_G) (mo : Nat) (ms : Nat) (sv : Int32) (mb : Nat) (ty : Int32) (th : Int32) (mk : Nat) (ml : Int32) (mfd : Nat) (mf : Int32) (sp : Int32) (on : Int32) (tw : Int32) (K : ClassId) (sf : Nat → Int32) (x : ST) (hR : RS x sf) (hbx : bST x) (hlx : labW x) (sz : Nat) : k_Mi (S := Unit) l D yX8_elements cX8_elements 1 (some .int) 1 0 0 20 [.ref mo] [(mo, .inr (8, [.ref ms, .int sv, .ref mb, .int ty, .int th, .ref mk, .int ml, .ref mfd, .int mf, .int sp, .int on, .int tw])), (ms, .inl (K, 889, .inl sf))] [(K, .int)] (fun (r : Int32) (_ : Unit) => r = (nI (s_ns x))) (fun _ => [(mo, .inr (8, [.ref ms, .int sv, .ref mb, .int ty, .int 0, .ref mk, .int ml, .ref mfd, .int mf, .int sp, .int on, .int tw])), (ms, .inl (K, 889, .inl sf))]) (fun _ => []) sz := by
  refine Met.ofW (cc := cX8_elements) (maxL := 1) (ret := (some .int)) (by decide) rfl ?_
  intro p e s m args below meth c s₁ B hml hv
  obtain ⟨rfl, hsz, hP, hK, hD0, hG⟩ := hv
  have hx := B.exec
  have hb := B.bytes
  have hr := B.returns
  have ht : ∀ v9 ∈ wsA, v9.before ([.ref mo] : List Value).toArray s = true := fun v9 h9 => atoms_spec (ws := k_ws yX8_elements cX8_elements 1 (some .int)) B.pre v9 (List.mem_cons_of_mem _ h9)
  have hown : s.vm.findClass RX8 = some m.cls := findClass_of_methodNamed B.named
  have S0 : k_C p s m ([.ref mo] : List Value).toArray c cX8_elements 1 RX8 := ⟨hx, hb, hml, hown, ht⟩
  have hlocks := B.notSynchronized
  subst hsz
  have hD := hD0.self (sz := s.heap.size)
  generalize hAe : va_A [(mo, .inr (8, [.ref ms, .int sv, .ref mb, .int ty, .int th, .ref mk, .int ml, .ref mfd, .int mf, .int sp, .int on, .int tw])), (ms, .inl (K, 889, .inl sf))] s.heap.size = A at hD hG ⊢
  have hA : ∀ q : Nat, s.heap.size ≤ q → A q := fun q h => by rw [← hAe]; exact Or.inr h
  have hS : va_S A s.heap s.heap [] := va_S.rf
  have hl := lv_entry ([.ref mo]) (n := 1) (Nat.le_of_ble_eq_true rfl)
  rw [lg_entry_eq]
  generalize (lg_sl ([.ref mo]) ++ List.replicate (1 - (lg_sl ([.ref mo])).length) Slot.unset).toArray = ls at hl ⊢
  have hl : lv_has ls 1 [(0, .ref mo)] := hl
  have hP : va_P D vwCl [(mo, .inr (8, [.ref ms, .int sv, .ref mb, .int ty, .int th, .ref mk, .int ml, .ref mfd, .int mf, .int sp, .int on, .int tw])), (ms, .inl (K, 889, .inl sf))] s.heap := hP
  have hR9 := hR
  have hlx9 : labW x := hlx
  obtain ⟨q0, q1, q2, h51, q4, h93, ⟨h94, q7⟩, h125, h126⟩ := hR
  obtain ⟨b1, b2, b3, b4⟩ := bST_le hbx
  obtain ⟨hl1, hl2⟩ := hlx
  refine lv_aload_n hx hb dX8_elements_0 rfl (lv_at hl 0 rfl) ?_
  refine lv_iconst (v := 0) hx hb dX8_elements_1 (by decide) ?_
  refine va_put (D := D) (ci := 8) (v := .int 0) (ty := .int) (C := RX8) (T := TX8) (N := 12) hx hb ht inA_X8 tyX8 tyX8_ok nmX8 hown hK hP hD hS 0 rfl rfl 4 (by decide) (ht _ lf_X8_23) (fun _ h9 => h9) rfl (tyX8_ok 4 (by decide)) rfl rfl (Nat.le_of_ble_eq_true rfl) dX8_elements_2 (fun H locs hP hD hS => ?_)
  have hP : va_P D vwCl [(mo, .inr (8, [.ref ms, .int sv, .ref mb, .int ty, .int 0, .ref mk, .int ml, .ref mfd, .int mf, .int sp, .int on, .int tw])), (ms, .inl (K, 889, .inl sf))] H := hP
  have hD : va_D A [(mo, .inr (8, [.ref ms, .int sv, .ref mb, .int ty, .int 0, .ref mk, .int ml, .ref mfd, .int mf, .int sp, .int on, .int tw])), (ms, .inl (K, 889, .inl sf))] := hD
  refine lv_aload_n hx hb dX8_elements_5 rfl (lv_at hl 0 rfl) ?_
  have ct := k_cut_of (wc := [(mo, .inr (8, [.ref ms, .int sv, .ref mb, .int ty, .int 0, .ref mk, .int ml, .ref mfd, .int mf, .int sp, .int on, .int tw])), (ms, .inl (K, 889, .inl sf))]) (wr := []) (tc := [(K, .int)]) hG hS hA hK hP hD [0, 1] [] [0] rfl rfl (by decide) (by decide) (by decide) rfl
  refine k_endi (As := [.ref mo]) ct (k_runV (As := []) (rest := []) S0 Lv_X8_38 rfl (ci := 8) (q0 := 0) rfl rfl ct (c_M_many l D mo ms sv mb ty 0 mk ml mfd mf sp on tw K sf (s_nd x) (by assumption) (by first | assumption | omega) H.size) hl.1 rfl (Nat.le_of_ble_eq_true rfl) rfl dX8_elements_6 ⟨⟨Nat.le_of_ble_eq_true rfl, Nat.le_of_ble_eq_true rfl⟩, Nat.le_of_ble_eq_true rfl, Nat.le_of_ble_eq_true rfl⟩) rfl rfl (fun r_1 _ H locs hw_2 hP hD hK hS => ?_)
  have hK : va_K D vwCl [(K, .int)] s := hK
  have hP : va_P D vwCl [(mo, .inr (8, [.ref ms, .int sv, .ref mb, .int ty, .int 0, .ref mk, .int ml, .ref mfd, .int mf, .int sp, .int on, .int tw])), (ms, .inl (K, 889, .inl sf))] H := hP
  have hD : va_D A [(mo, .inr (8, [.ref ms, .int sv, .ref mb, .int ty, .int 0, .ref mk, .int ml, .ref mfd, .int mf, .int sp, .int on, .int tw])), (ms, .inl (K, 889, .inl sf))] := hD
  have hw_2 : r_1 = (nI (lnN (s_nd x))) := hw_2
  have hw_2 := hw_2.symm
  subst hw_2
  refine k_nrm (y := (nI (lnN (s_nd x)))) rfl ?_
  have hP9 : va_P D vwCl [(mo, .inr (8, [.ref ms, .int sv, .ref mb, .int ty, .int 0, .ref mk, .int ml, .ref mfd, .int mf, .int sp, .int on, .int tw])), (ms, .inl (K, 889, .inl sf))] H := hP.sub [0, 1] rfl
  have hD9 : va_D A [(mo, .inr (8, [.ref ms, .int sv, .ref mb, .int ty, .int 0, .ref mk, .int ml, .ref mfd, .int mf, .int sp, .int on, .int tw])), (ms, .inl (K, 889, .inl sf))] := hD.sub [0, 1] (by decide) rfl
  have hK9 : va_K D vwCl [] s := hK.sub [] rfl
  exact W.iret (v := (nI (lnN (s_nd x)))) hx hb hr (fun t ht9 hW9 => ⟨⟨(nI (lnN (s_nd x))), (), rfl, by rw [hl1], ⟨by rw [ht9]; exact hP9, va_K.moved hW9.alike hK9, hD9⟩⟩, hS.F ht9⟩) hS.2.2 dX8_elements_9
set_option maxHeartbeats 4000000 in
set_option maxRecDepth 100000 in
theorem c_M_width (l : Launch) (D : va_G) (mo : Nat) (ms : Nat) (sv : Int32) (mb : Nat) (ty : Int32) (th : Int32) (mk : Nat) (ml : Int32) (mfd : Nat) (mf : Int32) (sp : Int32) (on : Int32) (tw : Int32) (K : ClassId) (sf : Nat → Int32) (x : ST) (en : Nat) (hR : RS x sf) (hbx : bST x) (hlx : labW x) (hen : en < s_ns x) (sz : Nat) : k_Mi (S := Unit) l D yX8_width cX8_width 2 (some .int) 3 0 0 64 [.ref mo, .int (nI en)] [(mo, .inr (8, [.ref ms, .int sv, .ref mb, .int ty, .int th, .ref mk, .int ml, .ref mfd, .int mf, .int sp, .int on, .int tw])), (ms, .inl (K, 889, .inl sf))] [(K, .int)] (fun (r : Int32) (_ : Unit) => r = (widF (s_nd x) (s_df x) (nI (s_ns x)) (nI en))) (fun _ => [(mo, .inr (8, [.ref ms, .int sv, .ref mb, .int ty, .int 0, .ref mk, .int ml, .ref mfd, .int mf, .int sp, .int on, .int tw])), (ms, .inl (K, 889, .inl sf))]) (fun _ => []) sz := by
  refine Met.ofW (cc := cX8_width) (maxL := 2) (ret := (some .int)) (by decide) rfl ?_
  intro p e s m args below meth c s₁ B hml hv
  obtain ⟨rfl, hsz, hP, hK, hD0, hG⟩ := hv
  have hx := B.exec
  have hb := B.bytes
  have hr := B.returns
  have ht : ∀ v9 ∈ wsA, v9.before ([.ref mo, .int (nI en)] : List Value).toArray s = true := fun v9 h9 => atoms_spec (ws := k_ws yX8_width cX8_width 2 (some .int)) B.pre v9 (List.mem_cons_of_mem _ h9)
  have hown : s.vm.findClass RX8 = some m.cls := findClass_of_methodNamed B.named
  have S0 : k_C p s m ([.ref mo, .int (nI en)] : List Value).toArray c cX8_width 2 RX8 := ⟨hx, hb, hml, hown, ht⟩
  have hlocks := B.notSynchronized
  subst hsz
  have hD := hD0.self (sz := s.heap.size)
  generalize hAe : va_A [(mo, .inr (8, [.ref ms, .int sv, .ref mb, .int ty, .int th, .ref mk, .int ml, .ref mfd, .int mf, .int sp, .int on, .int tw])), (ms, .inl (K, 889, .inl sf))] s.heap.size = A at hD hG ⊢
  have hA : ∀ q : Nat, s.heap.size ≤ q → A q := fun q h => by rw [← hAe]; exact Or.inr h
  have hS : va_S A s.heap s.heap [] := va_S.rf
  have hl := lv_entry ([.ref mo, .int (nI en)]) (n := 2) (Nat.le_of_ble_eq_true rfl)
  rw [lg_entry_eq]
  generalize (lg_sl ([.ref mo, .int (nI en)]) ++ List.replicate (2 - (lg_sl ([.ref mo, .int (nI en)])).length) Slot.unset).toArray = ls at hl ⊢
  have hl : lv_has ls 2 [(0, .ref mo), (1, .int (nI en))] := hl
  have hP : va_P D vwCl [(mo, .inr (8, [.ref ms, .int sv, .ref mb, .int ty, .int th, .ref mk, .int ml, .ref mfd, .int mf, .int sp, .int on, .int tw])), (ms, .inl (K, 889, .inl sf))] s.heap := hP
  have hR9 := hR
  have hlx9 : labW x := hlx
  obtain ⟨q0, q1, q2, h51, q4, h93, ⟨h94, q7⟩, h125, h126⟩ := hR
  obtain ⟨b1, b2, b3, b4⟩ := bST_le hbx
  obtain ⟨hl1, hl2⟩ := hlx
  refine lv_aload_n hx hb dX8_width_0 rfl (lv_at hl 0 rfl) ?_
  refine lv_aload_n hx hb dX8_width_1 rfl (lv_at hl 0 rfl) ?_
  refine lv_iload_n hx hb dX8_width_2 rfl (lv_at hl 1 rfl) ?_
  have ct := k_cut_of (wc := [(mo, .inr (8, [.ref ms, .int sv, .ref mb, .int ty, .int th, .ref mk, .int ml, .ref mfd, .int mf, .int sp, .int on, .int tw])), (ms, .inl (K, 889, .inl sf))]) (wr := []) (tc := [(K, .int)]) hG hS hA hK hP hD [0, 1] [] [0] rfl rfl (by decide) (by decide) (by decide) rfl
  refine k_endi (As := [.ref mo, .int (nI en)]) ct (k_runV (As := [.int (nI en)]) (rest := [.ref mo]) S0 Lv_X8_68 rfl (ci := 8) (q0 := 0) rfl rfl ct (c_M_isEl1 l D mo ms sv mb ty th mk ml mfd mf sp on tw K sf (nI en) (s_nd x) (by rw [← hl1]; exact inR_in hen (by omega)) (by assumption) (by first | assumption | omega) s.heap.size) hl.1 rfl (Nat.le_of_ble_eq_true rfl) rfl dX8_width_3 ⟨⟨Nat.le_of_ble_eq_true rfl, Nat.le_of_ble_eq_true rfl⟩, Nat.le_of_ble_eq_true rfl, Nat.le_of_ble_eq_true rfl⟩) rfl rfl (fun r_1 _ H locs hw_2 hP hD hK hS => ?_)
  have hK : va_K D vwCl [(K, .int)] s := hK
  have hP : va_P D vwCl [(mo, .inr (8, [.ref ms, .int sv, .ref mb, .int ty, .int th, .ref mk, .int ml, .ref mfd, .int mf, .int sp, .int on, .int tw])), (ms, .inl (K, 889, .inl sf))] H := hP
  have hD : va_D A [(mo, .inr (8, [.ref ms, .int sv, .ref mb, .int ty, .int th, .ref mk, .int ml, .ref mfd, .int mf, .int sp, .int on, .int tw])), (ms, .inl (K, 889, .inl sf))] := hD
  have hw_2 : r_1 = (1) := hw_2
  have hw_2 := hw_2.symm
  subst hw_2
  refine k_nrm (y := 1) rfl ?_
  refine lv_iconst (v := 1) hx hb dX8_width_6 (by decide) ?_
  have ct := k_cut_of (wc := [(mo, .inr (8, [.ref ms, .int sv, .ref mb, .int ty, .int th, .ref mk, .int ml, .ref mfd, .int mf, .int sp, .int on, .int tw]))]) (wr := [(ms, .inl (K, 889, .inl sf))]) (tc := []) hG hS hA hK hP hD [0] [1] [] rfl rfl (by decide) (by decide) (by decide) rfl
  refine k_endi (As := [.ref mo, .int 1, .int 1]) ct (k_runV (As := [.int 1, .int 1]) (rest := []) S0 Lv_X8_58 rfl (ci := 8) (q0 := 0) rfl rfl ct (c_M_goes11 l D mo ms sv mb ty th mk ml mfd mf sp on tw H.size) hl.1 rfl (Nat.le_of_ble_eq_true rfl) rfl dX8_width_7 ⟨⟨Nat.le_of_ble_eq_true rfl, Nat.le_of_ble_eq_true rfl⟩, Nat.le_of_ble_eq_true rfl, Nat.le_of_ble_eq_true rfl⟩) rfl rfl (fun r_3 _ H locs hw_4 hP hD hK hS => ?_)
  have hK : va_K D vwCl [(K, .int)] s := hK
  have hP : va_P D vwCl [(ms, .inl (K, 889, .inl sf)), (mo, .inr (8, [.ref ms, .int sv, .ref mb, .int ty, .int 0, .ref mk, .int ml, .ref mfd, .int mf, .int sp, .int on, .int tw]))] H := hP
  have hD : va_D A [(ms, .inl (K, 889, .inl sf)), (mo, .inr (8, [.ref ms, .int sv, .ref mb, .int ty, .int 0, .ref mk, .int ml, .ref mfd, .int mf, .int sp, .int on, .int tw]))] := hD
  have hw_4 : r_3 = (1) := hw_4
  have hw_4 := hw_4.symm
  subst hw_4
  refine k_nrm (y := 1) rfl ?_
  refine lv_if_eq (tgt := 21) hx hb dX8_width_10 (by decide) (fun c9 => absurd c9 (by decide)) (fun _ => ?_)
  refine lv_aload_n hx hb dX8_width_13 rfl (lv_at hl 0 rfl) ?_
  refine lv_iload_n hx hb dX8_width_14 rfl (lv_at hl 1 rfl) ?_
  have ct := k_cut_of (wc := [(mo, .inr (8, [.ref ms, .int sv, .ref mb, .int ty, .int 0, .ref mk, .int ml, .ref mfd, .int mf, .int sp, .int on, .int tw])), (ms, .inl (K, 889, .inl sf))]) (wr := []) (tc := [(K, .int)]) hG hS hA hK hP hD [1, 0] [] [0] rfl rfl (by decide) (by decide) (by decide) rfl
  refine k_endi (As := [.ref mo, .int (nI en)]) ct (k_runV (As := [.int (nI en)]) (rest := []) S0 Lv_X8_75 rfl (ci := 8) (q0 := 0) rfl rfl ct (c_M_width_ l D mo ms sv mb ty 0 mk ml mfd mf sp on tw K sf (s_nd x) (s_df x) (s_ns x) en (by first | assumption | rfl) (by first | assumption | omega) (by assumption) (by first | assumption | omega) (by assumption) (by assumption) H.size) hl.1 rfl (Nat.le_of_ble_eq_true rfl) rfl dX8_width_15 ⟨⟨Nat.le_of_ble_eq_true rfl, Nat.le_of_ble_eq_true rfl⟩, Nat.le_of_ble_eq_true rfl, Nat.le_of_ble_eq_true rfl⟩) rfl rfl (fun r_5 _ H locs hw_6 hP hD hK hS => ?_)
  have hK : va_K D vwCl [(K, .int)] s := hK
  have hP : va_P D vwCl [(mo, .inr (8, [.ref ms, .int sv, .ref mb, .int ty, .int 0, .ref mk, .int ml, .ref mfd, .int mf, .int sp, .int on, .int tw])), (ms, .inl (K, 889, .inl sf))] H := hP
  have hD : va_D A [(mo, .inr (8, [.ref ms, .int sv, .ref mb, .int ty, .int 0, .ref mk, .int ml, .ref mfd, .int mf, .int sp, .int on, .int tw])), (ms, .inl (K, 889, .inl sf))] := hD
  have hw_6 : r_5 = (widF (s_nd x) (s_df x) (nI (s_ns x)) (nI en)) := hw_6
  have hw_6 := hw_6.symm
  subst hw_6
  refine k_nrm (y := (widF (s_nd x) (s_df x) (nI (s_ns x)) (nI en))) rfl ?_
  refine lv_goto (tgt := 22) hx hb dX8_width_18 (by decide) ?_
  have hP9 : va_P D vwCl [(mo, .inr (8, [.ref ms, .int sv, .ref mb, .int ty, .int 0, .ref mk, .int ml, .ref mfd, .int mf, .int sp, .int on, .int tw])), (ms, .inl (K, 889, .inl sf))] H := hP.sub [0, 1] rfl
  have hD9 : va_D A [(mo, .inr (8, [.ref ms, .int sv, .ref mb, .int ty, .int 0, .ref mk, .int ml, .ref mfd, .int mf, .int sp, .int on, .int tw])), (ms, .inl (K, 889, .inl sf))] := hD.sub [0, 1] (by decide) rfl
  have hK9 : va_K D vwCl [] s := hK.sub [] rfl
  exact W.iret (v := (widF (s_nd x) (s_df x) (nI (s_ns x)) (nI en))) hx hb hr (fun t ht9 hW9 => ⟨⟨(widF (s_nd x) (s_df x) (nI (s_ns x)) (nI en)), (), rfl, by first | rfl | trivial | (simp only [if_true, if_false, reduceIte, and_self]; done) | simp_all, ⟨by rw [ht9]; exact hP9, va_K.moved hW9.alike hK9, hD9⟩⟩, hS.F ht9⟩) hS.2.2 dX8_width_22
set_option maxHeartbeats 4000000 in
set_option maxRecDepth 100000 in
theorem c_M_widthX (l : Launch) (D : va_G) (mo : Nat) (ms : Nat) (sv : Int32) (mb : Nat) (ty : Int32) (th : Int32) (mk : Nat) (ml : Int32) (mfd : Nat) (mf : Int32) (sp : Int32) (on : Int32) (tw : Int32) (K : ClassId) (sf : Nat → Int32) (x : ST) (v : Int32) (hR : RS x sf) (hbx : bST x) (hlx : labW x) (hxi : inR v (nI (s_ns x)) = 0) (sz : Nat) : k_Mi (S := Unit) l D yX8_width cX8_width 2 (some .int) 2 0 0 43 [.ref mo, .int v] [(mo, .inr (8, [.ref ms, .int sv, .ref mb, .int ty, .int th, .ref mk, .int ml, .ref mfd, .int mf, .int sp, .int on, .int tw])), (ms, .inl (K, 889, .inl sf))] [(K, .int)] (fun (r : Int32) (_ : Unit) => r = (0)) (fun _ => [(mo, .inr (8, [.ref ms, .int sv, .ref mb, .int ty, .int 1, .ref mk, .int ml, .ref mfd, .int mf, .int sp, .int on, .int tw])), (ms, .inl (K, 889, .inl sf))]) (fun _ => []) sz := by
  refine Met.ofW (cc := cX8_width) (maxL := 2) (ret := (some .int)) (by decide) rfl ?_
  intro p e s m args below meth c s₁ B hml hv
  obtain ⟨rfl, hsz, hP, hK, hD0, hG⟩ := hv
  have hx := B.exec
  have hb := B.bytes
  have hr := B.returns
  have ht : ∀ v9 ∈ wsA, v9.before ([.ref mo, .int v] : List Value).toArray s = true := fun v9 h9 => atoms_spec (ws := k_ws yX8_width cX8_width 2 (some .int)) B.pre v9 (List.mem_cons_of_mem _ h9)
  have hown : s.vm.findClass RX8 = some m.cls := findClass_of_methodNamed B.named
  have S0 : k_C p s m ([.ref mo, .int v] : List Value).toArray c cX8_width 2 RX8 := ⟨hx, hb, hml, hown, ht⟩
  have hlocks := B.notSynchronized
  subst hsz
  have hD := hD0.self (sz := s.heap.size)
  generalize hAe : va_A [(mo, .inr (8, [.ref ms, .int sv, .ref mb, .int ty, .int th, .ref mk, .int ml, .ref mfd, .int mf, .int sp, .int on, .int tw])), (ms, .inl (K, 889, .inl sf))] s.heap.size = A at hD hG ⊢
  have hA : ∀ q : Nat, s.heap.size ≤ q → A q := fun q h => by rw [← hAe]; exact Or.inr h
  have hS : va_S A s.heap s.heap [] := va_S.rf
  have hl := lv_entry ([.ref mo, .int v]) (n := 2) (Nat.le_of_ble_eq_true rfl)
  rw [lg_entry_eq]
  generalize (lg_sl ([.ref mo, .int v]) ++ List.replicate (2 - (lg_sl ([.ref mo, .int v])).length) Slot.unset).toArray = ls at hl ⊢
  have hl : lv_has ls 2 [(0, .ref mo), (1, .int v)] := hl
  have hP : va_P D vwCl [(mo, .inr (8, [.ref ms, .int sv, .ref mb, .int ty, .int th, .ref mk, .int ml, .ref mfd, .int mf, .int sp, .int on, .int tw])), (ms, .inl (K, 889, .inl sf))] s.heap := hP
  have hR9 := hR
  have hlx9 : labW x := hlx
  obtain ⟨q0, q1, q2, h51, q4, h93, ⟨h94, q7⟩, h125, h126⟩ := hR
  obtain ⟨b1, b2, b3, b4⟩ := bST_le hbx
  obtain ⟨hl1, hl2⟩ := hlx
  refine lv_aload_n hx hb dX8_width_0 rfl (lv_at hl 0 rfl) ?_
  refine lv_aload_n hx hb dX8_width_1 rfl (lv_at hl 0 rfl) ?_
  refine lv_iload_n hx hb dX8_width_2 rfl (lv_at hl 1 rfl) ?_
  have ct := k_cut_of (wc := [(mo, .inr (8, [.ref ms, .int sv, .ref mb, .int ty, .int th, .ref mk, .int ml, .ref mfd, .int mf, .int sp, .int on, .int tw])), (ms, .inl (K, 889, .inl sf))]) (wr := []) (tc := [(K, .int)]) hG hS hA hK hP hD [0, 1] [] [0] rfl rfl (by decide) (by decide) (by decide) rfl
  refine k_endi (As := [.ref mo, .int v]) ct (k_runV (As := [.int v]) (rest := [.ref mo]) S0 Lv_X8_68 rfl (ci := 8) (q0 := 0) rfl rfl ct (c_M_isEl0 l D mo ms sv mb ty th mk ml mfd mf sp on tw K sf v (s_nd x) (by rw [← hl1]; exact hxi) (by assumption) (by first | assumption | omega) s.heap.size) hl.1 rfl (Nat.le_of_ble_eq_true rfl) rfl dX8_width_3 ⟨⟨Nat.le_of_ble_eq_true rfl, Nat.le_of_ble_eq_true rfl⟩, Nat.le_of_ble_eq_true rfl, Nat.le_of_ble_eq_true rfl⟩) rfl rfl (fun r_1 _ H locs hw_2 hP hD hK hS => ?_)
  have hK : va_K D vwCl [(K, .int)] s := hK
  have hP : va_P D vwCl [(mo, .inr (8, [.ref ms, .int sv, .ref mb, .int ty, .int th, .ref mk, .int ml, .ref mfd, .int mf, .int sp, .int on, .int tw])), (ms, .inl (K, 889, .inl sf))] H := hP
  have hD : va_D A [(mo, .inr (8, [.ref ms, .int sv, .ref mb, .int ty, .int th, .ref mk, .int ml, .ref mfd, .int mf, .int sp, .int on, .int tw])), (ms, .inl (K, 889, .inl sf))] := hD
  have hw_2 : r_1 = (0) := hw_2
  have hw_2 := hw_2.symm
  subst hw_2
  refine k_nrm (y := 0) rfl ?_
  refine lv_iconst (v := 1) hx hb dX8_width_6 (by decide) ?_
  have ct := k_cut_of (wc := [(mo, .inr (8, [.ref ms, .int sv, .ref mb, .int ty, .int th, .ref mk, .int ml, .ref mfd, .int mf, .int sp, .int on, .int tw]))]) (wr := [(ms, .inl (K, 889, .inl sf))]) (tc := []) hG hS hA hK hP hD [0] [1] [] rfl rfl (by decide) (by decide) (by decide) rfl
  refine k_endi (As := [.ref mo, .int 0, .int 1]) ct (k_runV (As := [.int 0, .int 1]) (rest := []) S0 Lv_X8_58 rfl (ci := 8) (q0 := 0) rfl rfl ct (c_M_goes0 l D mo ms sv mb ty th mk ml mfd mf sp on tw 1 H.size) hl.1 rfl (Nat.le_of_ble_eq_true rfl) rfl dX8_width_7 ⟨⟨Nat.le_of_ble_eq_true rfl, Nat.le_of_ble_eq_true rfl⟩, Nat.le_of_ble_eq_true rfl, Nat.le_of_ble_eq_true rfl⟩) rfl rfl (fun r_3 _ H locs hw_4 hP hD hK hS => ?_)
  have hK : va_K D vwCl [(K, .int)] s := hK
  have hP : va_P D vwCl [(ms, .inl (K, 889, .inl sf)), (mo, .inr (8, [.ref ms, .int sv, .ref mb, .int ty, .int 1, .ref mk, .int ml, .ref mfd, .int mf, .int sp, .int on, .int tw]))] H := hP
  have hD : va_D A [(ms, .inl (K, 889, .inl sf)), (mo, .inr (8, [.ref ms, .int sv, .ref mb, .int ty, .int 1, .ref mk, .int ml, .ref mfd, .int mf, .int sp, .int on, .int tw]))] := hD
  have hw_4 : r_3 = (0) := hw_4
  have hw_4 := hw_4.symm
  subst hw_4
  refine k_nrm (y := 0) rfl ?_
  refine lv_if_eq (tgt := 21) hx hb dX8_width_10 (by decide) (fun _ => ?_) (fun c9 => absurd (by decide) c9)
  refine lv_iconst (v := 0) hx hb dX8_width_21 (by decide) ?_
  have hP9 : va_P D vwCl [(mo, .inr (8, [.ref ms, .int sv, .ref mb, .int ty, .int 1, .ref mk, .int ml, .ref mfd, .int mf, .int sp, .int on, .int tw])), (ms, .inl (K, 889, .inl sf))] H := hP.sub [1, 0] rfl
  have hD9 : va_D A [(mo, .inr (8, [.ref ms, .int sv, .ref mb, .int ty, .int 1, .ref mk, .int ml, .ref mfd, .int mf, .int sp, .int on, .int tw])), (ms, .inl (K, 889, .inl sf))] := hD.sub [1, 0] (by decide) rfl
  have hK9 : va_K D vwCl [] s := hK.sub [] rfl
  exact W.iret (v := 0) hx hb hr (fun t ht9 hW9 => ⟨⟨0, (), rfl, by first | rfl | trivial | (simp only [if_true, if_false, reduceIte, and_self]; done) | simp_all, ⟨by rw [ht9]; exact hP9, va_K.moved hW9.alike hK9, hD9⟩⟩, hS.F ht9⟩) hS.2.2 dX8_width_22
set_option maxHeartbeats 4000000 in
set_option maxRecDepth 100000 in
theorem c_M_labelDigit (l : Launch) (D : va_G) (mo : Nat) (ms : Nat) (sv : Int32) (mb : Nat) (ty : Int32) (th : Int32) (mk : Nat) (ml : Int32) (mfd : Nat) (mf : Int32) (sp : Int32) (on : Int32) (tw : Int32) (K : ClassId) (sf : Nat → Int32) (x : ST) (en : Nat) (hR : RS x sf) (hbx : bST x) (hen9 : en < s_nd x) (sz : Nat) : k_Mi (S := Unit) l D yX8_labelDigit cX8_labelDigit 2 (some .int) 1 0 0 22 [.ref mo, .int (nI en)] [(mo, .inr (8, [.ref ms, .int sv, .ref mb, .int ty, .int th, .ref mk, .int ml, .ref mfd, .int mf, .int sp, .int on, .int tw])), (ms, .inl (K, 889, .inl sf))] [(K, .int)] (fun (r : Int32) (_ : Unit) => r = (s_df x en)) (fun _ => [(mo, .inr (8, [.ref ms, .int sv, .ref mb, .int ty, .int 0, .ref mk, .int ml, .ref mfd, .int mf, .int sp, .int on, .int tw])), (ms, .inl (K, 889, .inl sf))]) (fun _ => []) sz := by
  refine Met.ofW (cc := cX8_labelDigit) (maxL := 2) (ret := (some .int)) (by decide) rfl ?_
  intro p e s m args below meth c s₁ B hml hv
  obtain ⟨rfl, hsz, hP, hK, hD0, hG⟩ := hv
  have hx := B.exec
  have hb := B.bytes
  have hr := B.returns
  have ht : ∀ v9 ∈ wsA, v9.before ([.ref mo, .int (nI en)] : List Value).toArray s = true := fun v9 h9 => atoms_spec (ws := k_ws yX8_labelDigit cX8_labelDigit 2 (some .int)) B.pre v9 (List.mem_cons_of_mem _ h9)
  have hown : s.vm.findClass RX8 = some m.cls := findClass_of_methodNamed B.named
  have S0 : k_C p s m ([.ref mo, .int (nI en)] : List Value).toArray c cX8_labelDigit 2 RX8 := ⟨hx, hb, hml, hown, ht⟩
  have hlocks := B.notSynchronized
  subst hsz
  have hD := hD0.self (sz := s.heap.size)
  generalize hAe : va_A [(mo, .inr (8, [.ref ms, .int sv, .ref mb, .int ty, .int th, .ref mk, .int ml, .ref mfd, .int mf, .int sp, .int on, .int tw])), (ms, .inl (K, 889, .inl sf))] s.heap.size = A at hD hG ⊢
  have hA : ∀ q : Nat, s.heap.size ≤ q → A q := fun q h => by rw [← hAe]; exact Or.inr h
  have hS : va_S A s.heap s.heap [] := va_S.rf
  have hl := lv_entry ([.ref mo, .int (nI en)]) (n := 2) (Nat.le_of_ble_eq_true rfl)
  rw [lg_entry_eq]
  generalize (lg_sl ([.ref mo, .int (nI en)]) ++ List.replicate (2 - (lg_sl ([.ref mo, .int (nI en)])).length) Slot.unset).toArray = ls at hl ⊢
  have hl : lv_has ls 2 [(0, .ref mo), (1, .int (nI en))] := hl
  have hP : va_P D vwCl [(mo, .inr (8, [.ref ms, .int sv, .ref mb, .int ty, .int th, .ref mk, .int ml, .ref mfd, .int mf, .int sp, .int on, .int tw])), (ms, .inl (K, 889, .inl sf))] s.heap := hP
  have hR9 := hR
  have hlx9 : True := trivial
  obtain ⟨q0, q1, q2, h51, q4, h93, ⟨h94, q7⟩, h125, h126⟩ := hR
  obtain ⟨b1, b2, b3, b4⟩ := bST_le hbx
  refine lv_aload_n hx hb dX8_labelDigit_0 rfl (lv_at hl 0 rfl) ?_
  refine lv_iload_n hx hb dX8_labelDigit_1 rfl (lv_at hl 1 rfl) ?_
  refine lv_iconst (v := 0) hx hb dX8_labelDigit_2 (by decide) ?_
  refine lv_aload_n hx hb dX8_labelDigit_3 rfl (lv_at hl 0 rfl) ?_
  refine va_get (D := D) (ci := 8) (v := .ref ms) (C := RX8) (T := TX8) (N := 12) hx hb ht inA_X8 hown hK hP 0 rfl rfl 0 (by decide) (ht _ lf_X8_7) (fun _ h9 => h9) rfl dX8_labelDigit_4 ?_
  refine lv_iconst (v := 0) hx hb dX8_labelDigit_7 (by decide) ?_
  refine va_iald hx hb hK hP 1 0 rfl rfl (by unfold vp_in; decide) dX8_labelDigit_8 ?_
  refine k_nrm (y := (nI (s_nd x))) (show sf (0 : Int32).toNatClampNeg = (nI (s_nd x)) from q0) ?_
  refine lv_iconst (v := 1) hx hb dX8_labelDigit_9 (by decide) ?_
  refine lv_isub hx hb dX8_labelDigit_10 ?_
  refine k_nrm (y := (nI (s_nd x) - 1)) (rfl) ?_
  have ct := k_cut_of (wc := []) (wr := [(mo, .inr (8, [.ref ms, .int sv, .ref mb, .int ty, .int th, .ref mk, .int ml, .ref mfd, .int mf, .int sp, .int on, .int tw])), (ms, .inl (K, 889, .inl sf))]) (tc := []) hG hS hA hK hP hD [] [0, 1] [] rfl rfl (by decide) (by decide) (by decide) rfl
  refine k_endi (As := [.int (nI en), .int 0, .int (nI (s_nd x) - 1)]) ct (k_runS (As := [.int (nI en), .int 0, .int (nI (s_nd x) - 1)]) (rest := [.ref mo]) S0 Ls_X8_46 ct (c_M_in1 l D (nI en) 0 (nI (s_nd x) - 1) ((in_1 (by omega) (inR_in hen9 (by omega))).1) ((in_1 (by omega) (inR_in hen9 (by omega))).2) s.heap.size) hl.1 rfl (Nat.le_of_ble_eq_true rfl) rfl dX8_labelDigit_11 ⟨⟨Nat.le_of_ble_eq_true rfl, Nat.le_of_ble_eq_true rfl⟩, Nat.le_of_ble_eq_true rfl, Nat.le_of_ble_eq_true rfl⟩) rfl rfl (fun r_1 _ H locs hw_2 hP hD hK hS => ?_)
  have hK : va_K D vwCl [(K, .int)] s := hK
  have hP : va_P D vwCl [(mo, .inr (8, [.ref ms, .int sv, .ref mb, .int ty, .int th, .ref mk, .int ml, .ref mfd, .int mf, .int sp, .int on, .int tw])), (ms, .inl (K, 889, .inl sf))] H := hP
  have hD : va_D A [(mo, .inr (8, [.ref ms, .int sv, .ref mb, .int ty, .int th, .ref mk, .int ml, .ref mfd, .int mf, .int sp, .int on, .int tw])), (ms, .inl (K, 889, .inl sf))] := hD
  have hw_2 : r_1 = (1) := hw_2
  have hw_2 := hw_2.symm
  subst hw_2
  refine k_nrm (y := 1) rfl ?_
  refine lv_iconst (v := 1) hx hb dX8_labelDigit_14 (by decide) ?_
  have ct := k_cut_of (wc := [(mo, .inr (8, [.ref ms, .int sv, .ref mb, .int ty, .int th, .ref mk, .int ml, .ref mfd, .int mf, .int sp, .int on, .int tw]))]) (wr := [(ms, .inl (K, 889, .inl sf))]) (tc := []) hG hS hA hK hP hD [0] [1] [] rfl rfl (by decide) (by decide) (by decide) rfl
  refine k_endi (As := [.ref mo, .int 1, .int 1]) ct (k_runV (As := [.int 1, .int 1]) (rest := []) S0 Lv_X8_58 rfl (ci := 8) (q0 := 0) rfl rfl ct (c_M_goes11 l D mo ms sv mb ty th mk ml mfd mf sp on tw H.size) hl.1 rfl (Nat.le_of_ble_eq_true rfl) rfl dX8_labelDigit_15 ⟨⟨Nat.le_of_ble_eq_true rfl, Nat.le_of_ble_eq_true rfl⟩, Nat.le_of_ble_eq_true rfl, Nat.le_of_ble_eq_true rfl⟩) rfl rfl (fun r_3 _ H locs hw_4 hP hD hK hS => ?_)
  have hK : va_K D vwCl [(K, .int)] s := hK
  have hP : va_P D vwCl [(ms, .inl (K, 889, .inl sf)), (mo, .inr (8, [.ref ms, .int sv, .ref mb, .int ty, .int 0, .ref mk, .int ml, .ref mfd, .int mf, .int sp, .int on, .int tw]))] H := hP
  have hD : va_D A [(ms, .inl (K, 889, .inl sf)), (mo, .inr (8, [.ref ms, .int sv, .ref mb, .int ty, .int 0, .ref mk, .int ml, .ref mfd, .int mf, .int sp, .int on, .int tw]))] := hD
  have hw_4 : r_3 = (1) := hw_4
  have hw_4 := hw_4.symm
  subst hw_4
  refine k_nrm (y := 1) rfl ?_
  refine lv_if_eq (tgt := 32) hx hb dX8_labelDigit_18 (by decide) (fun c9 => absurd c9 (by decide)) (fun _ => ?_)
  refine lv_aload_n hx hb dX8_labelDigit_21 rfl (lv_at hl 0 rfl) ?_
  refine va_get (D := D) (ci := 8) (v := .ref ms) (C := RX8) (T := TX8) (N := 12) hx hb ht inA_X8 hown hK hP 1 rfl rfl 0 (by decide) (ht _ lf_X8_7) (fun _ h9 => h9) rfl dX8_labelDigit_22 ?_
  refine lv_iconst (v := 1) hx hb dX8_labelDigit_25 (by decide) ?_
  refine lv_iload_n hx hb dX8_labelDigit_26 rfl (lv_at hl 1 rfl) ?_
  refine lv_iadd hx hb dX8_labelDigit_27 ?_
  refine k_nrm (y := (nI (1 + en))) (nI_add 1 en) ?_
  refine va_iald hx hb hK hP 0 0 rfl rfl (vp_in_nI (by omega) (by decide)) dX8_labelDigit_28 ?_
  refine k_nrm (y := (s_df x en)) (by rw [nI_clamp (by omega)]; exact q1 en hen9) ?_
  refine lv_goto (tgt := 33) hx hb dX8_labelDigit_29 (by decide) ?_
  have hP9 : va_P D vwCl [(mo, .inr (8, [.ref ms, .int sv, .ref mb, .int ty, .int 0, .ref mk, .int ml, .ref mfd, .int mf, .int sp, .int on, .int tw])), (ms, .inl (K, 889, .inl sf))] H := hP.sub [1, 0] rfl
  have hD9 : va_D A [(mo, .inr (8, [.ref ms, .int sv, .ref mb, .int ty, .int 0, .ref mk, .int ml, .ref mfd, .int mf, .int sp, .int on, .int tw])), (ms, .inl (K, 889, .inl sf))] := hD.sub [1, 0] (by decide) rfl
  have hK9 : va_K D vwCl [] s := hK.sub [] rfl
  exact W.iret (v := (s_df x en)) hx hb hr (fun t ht9 hW9 => ⟨⟨(s_df x en), (), rfl, by first | rfl | trivial | (simp only [if_true, if_false, reduceIte, and_self]; done) | simp_all, ⟨by rw [ht9]; exact hP9, va_K.moved hW9.alike hK9, hD9⟩⟩, hS.F ht9⟩) hS.2.2 dX8_labelDigit_33
set_option maxHeartbeats 4000000 in
set_option maxRecDepth 100000 in
theorem c_M_labelDigitX (l : Launch) (D : va_G) (mo : Nat) (ms : Nat) (sv : Int32) (mb : Nat) (ty : Int32) (th : Int32) (mk : Nat) (ml : Int32) (mfd : Nat) (mf : Int32) (sp : Int32) (on : Int32) (tw : Int32) (K : ClassId) (sf : Nat → Int32) (x : ST) (v : Int32) (hR : RS x sf) (hbx : bST x) (hxi : inR v (nI (s_nd x)) = 0) (sz : Nat) : k_Mi (S := Unit) l D yX8_labelDigit cX8_labelDigit 2 (some .int) 1 0 0 22 [.ref mo, .int v] [(mo, .inr (8, [.ref ms, .int sv, .ref mb, .int ty, .int th, .ref mk, .int ml, .ref mfd, .int mf, .int sp, .int on, .int tw])), (ms, .inl (K, 889, .inl sf))] [(K, .int)] (fun (r : Int32) (_ : Unit) => r = (0)) (fun _ => [(mo, .inr (8, [.ref ms, .int sv, .ref mb, .int ty, .int 1, .ref mk, .int ml, .ref mfd, .int mf, .int sp, .int on, .int tw])), (ms, .inl (K, 889, .inl sf))]) (fun _ => []) sz := by
  refine Met.ofW (cc := cX8_labelDigit) (maxL := 2) (ret := (some .int)) (by decide) rfl ?_
  intro p e s m args below meth c s₁ B hml hv
  obtain ⟨rfl, hsz, hP, hK, hD0, hG⟩ := hv
  have hx := B.exec
  have hb := B.bytes
  have hr := B.returns
  have ht : ∀ v9 ∈ wsA, v9.before ([.ref mo, .int v] : List Value).toArray s = true := fun v9 h9 => atoms_spec (ws := k_ws yX8_labelDigit cX8_labelDigit 2 (some .int)) B.pre v9 (List.mem_cons_of_mem _ h9)
  have hown : s.vm.findClass RX8 = some m.cls := findClass_of_methodNamed B.named
  have S0 : k_C p s m ([.ref mo, .int v] : List Value).toArray c cX8_labelDigit 2 RX8 := ⟨hx, hb, hml, hown, ht⟩
  have hlocks := B.notSynchronized
  subst hsz
  have hD := hD0.self (sz := s.heap.size)
  generalize hAe : va_A [(mo, .inr (8, [.ref ms, .int sv, .ref mb, .int ty, .int th, .ref mk, .int ml, .ref mfd, .int mf, .int sp, .int on, .int tw])), (ms, .inl (K, 889, .inl sf))] s.heap.size = A at hD hG ⊢
  have hA : ∀ q : Nat, s.heap.size ≤ q → A q := fun q h => by rw [← hAe]; exact Or.inr h
  have hS : va_S A s.heap s.heap [] := va_S.rf
  have hl := lv_entry ([.ref mo, .int v]) (n := 2) (Nat.le_of_ble_eq_true rfl)
  rw [lg_entry_eq]
  generalize (lg_sl ([.ref mo, .int v]) ++ List.replicate (2 - (lg_sl ([.ref mo, .int v])).length) Slot.unset).toArray = ls at hl ⊢
  have hl : lv_has ls 2 [(0, .ref mo), (1, .int v)] := hl
  have hP : va_P D vwCl [(mo, .inr (8, [.ref ms, .int sv, .ref mb, .int ty, .int th, .ref mk, .int ml, .ref mfd, .int mf, .int sp, .int on, .int tw])), (ms, .inl (K, 889, .inl sf))] s.heap := hP
  have hR9 := hR
  have hlx9 : True := trivial
  obtain ⟨q0, q1, q2, h51, q4, h93, ⟨h94, q7⟩, h125, h126⟩ := hR
  obtain ⟨b1, b2, b3, b4⟩ := bST_le hbx
  refine lv_aload_n hx hb dX8_labelDigit_0 rfl (lv_at hl 0 rfl) ?_
  refine lv_iload_n hx hb dX8_labelDigit_1 rfl (lv_at hl 1 rfl) ?_
  refine lv_iconst (v := 0) hx hb dX8_labelDigit_2 (by decide) ?_
  refine lv_aload_n hx hb dX8_labelDigit_3 rfl (lv_at hl 0 rfl) ?_
  refine va_get (D := D) (ci := 8) (v := .ref ms) (C := RX8) (T := TX8) (N := 12) hx hb ht inA_X8 hown hK hP 0 rfl rfl 0 (by decide) (ht _ lf_X8_7) (fun _ h9 => h9) rfl dX8_labelDigit_4 ?_
  refine lv_iconst (v := 0) hx hb dX8_labelDigit_7 (by decide) ?_
  refine va_iald hx hb hK hP 1 0 rfl rfl (by unfold vp_in; decide) dX8_labelDigit_8 ?_
  refine k_nrm (y := (nI (s_nd x))) (show sf (0 : Int32).toNatClampNeg = (nI (s_nd x)) from q0) ?_
  refine lv_iconst (v := 1) hx hb dX8_labelDigit_9 (by decide) ?_
  refine lv_isub hx hb dX8_labelDigit_10 ?_
  refine k_nrm (y := (nI (s_nd x) - 1)) (rfl) ?_
  have ct := k_cut_of (wc := []) (wr := [(mo, .inr (8, [.ref ms, .int sv, .ref mb, .int ty, .int th, .ref mk, .int ml, .ref mfd, .int mf, .int sp, .int on, .int tw])), (ms, .inl (K, 889, .inl sf))]) (tc := []) hG hS hA hK hP hD [] [0, 1] [] rfl rfl (by decide) (by decide) (by decide) rfl
  refine k_endi (As := [.int v, .int 0, .int (nI (s_nd x) - 1)]) ct (k_runS (As := [.int v, .int 0, .int (nI (s_nd x) - 1)]) (rest := [.ref mo]) S0 Ls_X8_46 ct (c_M_in0 l D v 0 (nI (s_nd x) - 1) (in_0 (by omega) hxi) s.heap.size) hl.1 rfl (Nat.le_of_ble_eq_true rfl) rfl dX8_labelDigit_11 ⟨⟨Nat.le_of_ble_eq_true rfl, Nat.le_of_ble_eq_true rfl⟩, Nat.le_of_ble_eq_true rfl, Nat.le_of_ble_eq_true rfl⟩) rfl rfl (fun r_1 _ H locs hw_2 hP hD hK hS => ?_)
  have hK : va_K D vwCl [(K, .int)] s := hK
  have hP : va_P D vwCl [(mo, .inr (8, [.ref ms, .int sv, .ref mb, .int ty, .int th, .ref mk, .int ml, .ref mfd, .int mf, .int sp, .int on, .int tw])), (ms, .inl (K, 889, .inl sf))] H := hP
  have hD : va_D A [(mo, .inr (8, [.ref ms, .int sv, .ref mb, .int ty, .int th, .ref mk, .int ml, .ref mfd, .int mf, .int sp, .int on, .int tw])), (ms, .inl (K, 889, .inl sf))] := hD
  have hw_2 : r_1 = (0) := hw_2
  have hw_2 := hw_2.symm
  subst hw_2
  refine k_nrm (y := 0) rfl ?_
  refine lv_iconst (v := 1) hx hb dX8_labelDigit_14 (by decide) ?_
  have ct := k_cut_of (wc := [(mo, .inr (8, [.ref ms, .int sv, .ref mb, .int ty, .int th, .ref mk, .int ml, .ref mfd, .int mf, .int sp, .int on, .int tw]))]) (wr := [(ms, .inl (K, 889, .inl sf))]) (tc := []) hG hS hA hK hP hD [0] [1] [] rfl rfl (by decide) (by decide) (by decide) rfl
  refine k_endi (As := [.ref mo, .int 0, .int 1]) ct (k_runV (As := [.int 0, .int 1]) (rest := []) S0 Lv_X8_58 rfl (ci := 8) (q0 := 0) rfl rfl ct (c_M_goes0 l D mo ms sv mb ty th mk ml mfd mf sp on tw 1 H.size) hl.1 rfl (Nat.le_of_ble_eq_true rfl) rfl dX8_labelDigit_15 ⟨⟨Nat.le_of_ble_eq_true rfl, Nat.le_of_ble_eq_true rfl⟩, Nat.le_of_ble_eq_true rfl, Nat.le_of_ble_eq_true rfl⟩) rfl rfl (fun r_3 _ H locs hw_4 hP hD hK hS => ?_)
  have hK : va_K D vwCl [(K, .int)] s := hK
  have hP : va_P D vwCl [(ms, .inl (K, 889, .inl sf)), (mo, .inr (8, [.ref ms, .int sv, .ref mb, .int ty, .int 1, .ref mk, .int ml, .ref mfd, .int mf, .int sp, .int on, .int tw]))] H := hP
  have hD : va_D A [(ms, .inl (K, 889, .inl sf)), (mo, .inr (8, [.ref ms, .int sv, .ref mb, .int ty, .int 1, .ref mk, .int ml, .ref mfd, .int mf, .int sp, .int on, .int tw]))] := hD
  have hw_4 : r_3 = (0) := hw_4
  have hw_4 := hw_4.symm
  subst hw_4
  refine k_nrm (y := 0) rfl ?_
  refine lv_if_eq (tgt := 32) hx hb dX8_labelDigit_18 (by decide) (fun _ => ?_) (fun c9 => absurd (by decide) c9)
  refine lv_iconst (v := 0) hx hb dX8_labelDigit_32 (by decide) ?_
  have hP9 : va_P D vwCl [(mo, .inr (8, [.ref ms, .int sv, .ref mb, .int ty, .int 1, .ref mk, .int ml, .ref mfd, .int mf, .int sp, .int on, .int tw])), (ms, .inl (K, 889, .inl sf))] H := hP.sub [1, 0] rfl
  have hD9 : va_D A [(mo, .inr (8, [.ref ms, .int sv, .ref mb, .int ty, .int 1, .ref mk, .int ml, .ref mfd, .int mf, .int sp, .int on, .int tw])), (ms, .inl (K, 889, .inl sf))] := hD.sub [1, 0] (by decide) rfl
  have hK9 : va_K D vwCl [] s := hK.sub [] rfl
  exact W.iret (v := 0) hx hb hr (fun t ht9 hW9 => ⟨⟨0, (), rfl, by first | rfl | trivial | (simp only [if_true, if_false, reduceIte, and_self]; done) | simp_all, ⟨by rw [ht9]; exact hP9, va_K.moved hW9.alike hK9, hD9⟩⟩, hS.F ht9⟩) hS.2.2 dX8_labelDigit_33
set_option maxHeartbeats 4000000 in
set_option maxRecDepth 100000 in
theorem c_M_timeP (l : Launch) (D : va_G) (mo : Nat) (ms : Nat) (sv : Int32) (mb : Nat) (ty : Int32) (th : Int32) (mk : Nat) (ml : Int32) (mfd : Nat) (mf : Int32) (sp : Int32) (on : Int32) (tw : Int32) (K : ClassId) (sf : Nat → Int32) (x : ST) (en : Nat) (hR : RS x sf) (hbx : bST x) (hen9 : en < s_tn x) (sz : Nat) : k_Mi (S := Unit) l D yX8_time_ cX8_time_ 2 (some .int) 1 0 0 22 [.ref mo, .int (nI en)] [(mo, .inr (8, [.ref ms, .int sv, .ref mb, .int ty, .int th, .ref mk, .int ml, .ref mfd, .int mf, .int sp, .int on, .int tw])), (ms, .inl (K, 889, .inl sf))] [(K, .int)] (fun (r : Int32) (_ : Unit) => r = (s_tf x en)) (fun _ => [(mo, .inr (8, [.ref ms, .int sv, .ref mb, .int ty, .int 0, .ref mk, .int ml, .ref mfd, .int mf, .int sp, .int on, .int tw])), (ms, .inl (K, 889, .inl sf))]) (fun _ => []) sz := by
  refine Met.ofW (cc := cX8_time_) (maxL := 2) (ret := (some .int)) (by decide) rfl ?_
  intro p e s m args below meth c s₁ B hml hv
  obtain ⟨rfl, hsz, hP, hK, hD0, hG⟩ := hv
  have hx := B.exec
  have hb := B.bytes
  have hr := B.returns
  have ht : ∀ v9 ∈ wsA, v9.before ([.ref mo, .int (nI en)] : List Value).toArray s = true := fun v9 h9 => atoms_spec (ws := k_ws yX8_time_ cX8_time_ 2 (some .int)) B.pre v9 (List.mem_cons_of_mem _ h9)
  have hown : s.vm.findClass RX8 = some m.cls := findClass_of_methodNamed B.named
  have S0 : k_C p s m ([.ref mo, .int (nI en)] : List Value).toArray c cX8_time_ 2 RX8 := ⟨hx, hb, hml, hown, ht⟩
  have hlocks := B.notSynchronized
  subst hsz
  have hD := hD0.self (sz := s.heap.size)
  generalize hAe : va_A [(mo, .inr (8, [.ref ms, .int sv, .ref mb, .int ty, .int th, .ref mk, .int ml, .ref mfd, .int mf, .int sp, .int on, .int tw])), (ms, .inl (K, 889, .inl sf))] s.heap.size = A at hD hG ⊢
  have hA : ∀ q : Nat, s.heap.size ≤ q → A q := fun q h => by rw [← hAe]; exact Or.inr h
  have hS : va_S A s.heap s.heap [] := va_S.rf
  have hl := lv_entry ([.ref mo, .int (nI en)]) (n := 2) (Nat.le_of_ble_eq_true rfl)
  rw [lg_entry_eq]
  generalize (lg_sl ([.ref mo, .int (nI en)]) ++ List.replicate (2 - (lg_sl ([.ref mo, .int (nI en)])).length) Slot.unset).toArray = ls at hl ⊢
  have hl : lv_has ls 2 [(0, .ref mo), (1, .int (nI en))] := hl
  have hP : va_P D vwCl [(mo, .inr (8, [.ref ms, .int sv, .ref mb, .int ty, .int th, .ref mk, .int ml, .ref mfd, .int mf, .int sp, .int on, .int tw])), (ms, .inl (K, 889, .inl sf))] s.heap := hP
  have hR9 := hR
  have hlx9 : True := trivial
  obtain ⟨q0, q1, q2, h51, q4, h93, ⟨h94, q7⟩, h125, h126⟩ := hR
  obtain ⟨b1, b2, b3, b4⟩ := bST_le hbx
  refine lv_aload_n hx hb dX8_time__0 rfl (lv_at hl 0 rfl) ?_
  refine lv_iload_n hx hb dX8_time__1 rfl (lv_at hl 1 rfl) ?_
  refine lv_iconst (v := 0) hx hb dX8_time__2 (by decide) ?_
  refine lv_aload_n hx hb dX8_time__3 rfl (lv_at hl 0 rfl) ?_
  refine va_get (D := D) (ci := 8) (v := .ref ms) (C := RX8) (T := TX8) (N := 12) hx hb ht inA_X8 hown hK hP 0 rfl rfl 0 (by decide) (ht _ lf_X8_7) (fun _ h9 => h9) rfl dX8_time__4 ?_
  refine lv_bipush (v := 51) hx hb dX8_time__7 (by decide) ?_
  refine va_iald hx hb hK hP 1 0 rfl rfl (by unfold vp_in; decide) dX8_time__9 ?_
  refine k_nrm (y := (nI (s_tn x))) (show sf (51 : Int32).toNatClampNeg = (nI (s_tn x)) from h51) ?_
  refine lv_iconst (v := 1) hx hb dX8_time__10 (by decide) ?_
  refine lv_isub hx hb dX8_time__11 ?_
  refine k_nrm (y := (nI (s_tn x) - 1)) (rfl) ?_
  have ct := k_cut_of (wc := []) (wr := [(mo, .inr (8, [.ref ms, .int sv, .ref mb, .int ty, .int th, .ref mk, .int ml, .ref mfd, .int mf, .int sp, .int on, .int tw])), (ms, .inl (K, 889, .inl sf))]) (tc := []) hG hS hA hK hP hD [] [0, 1] [] rfl rfl (by decide) (by decide) (by decide) rfl
  refine k_endi (As := [.int (nI en), .int 0, .int (nI (s_tn x) - 1)]) ct (k_runS (As := [.int (nI en), .int 0, .int (nI (s_tn x) - 1)]) (rest := [.ref mo]) S0 Ls_X8_46 ct (c_M_in1 l D (nI en) 0 (nI (s_tn x) - 1) ((in_1 (by omega) (inR_in hen9 (by omega))).1) ((in_1 (by omega) (inR_in hen9 (by omega))).2) s.heap.size) hl.1 rfl (Nat.le_of_ble_eq_true rfl) rfl dX8_time__12 ⟨⟨Nat.le_of_ble_eq_true rfl, Nat.le_of_ble_eq_true rfl⟩, Nat.le_of_ble_eq_true rfl, Nat.le_of_ble_eq_true rfl⟩) rfl rfl (fun r_1 _ H locs hw_2 hP hD hK hS => ?_)
  have hK : va_K D vwCl [(K, .int)] s := hK
  have hP : va_P D vwCl [(mo, .inr (8, [.ref ms, .int sv, .ref mb, .int ty, .int th, .ref mk, .int ml, .ref mfd, .int mf, .int sp, .int on, .int tw])), (ms, .inl (K, 889, .inl sf))] H := hP
  have hD : va_D A [(mo, .inr (8, [.ref ms, .int sv, .ref mb, .int ty, .int th, .ref mk, .int ml, .ref mfd, .int mf, .int sp, .int on, .int tw])), (ms, .inl (K, 889, .inl sf))] := hD
  have hw_2 : r_1 = (1) := hw_2
  have hw_2 := hw_2.symm
  subst hw_2
  refine k_nrm (y := 1) rfl ?_
  refine lv_iconst (v := 1) hx hb dX8_time__15 (by decide) ?_
  have ct := k_cut_of (wc := [(mo, .inr (8, [.ref ms, .int sv, .ref mb, .int ty, .int th, .ref mk, .int ml, .ref mfd, .int mf, .int sp, .int on, .int tw]))]) (wr := [(ms, .inl (K, 889, .inl sf))]) (tc := []) hG hS hA hK hP hD [0] [1] [] rfl rfl (by decide) (by decide) (by decide) rfl
  refine k_endi (As := [.ref mo, .int 1, .int 1]) ct (k_runV (As := [.int 1, .int 1]) (rest := []) S0 Lv_X8_58 rfl (ci := 8) (q0 := 0) rfl rfl ct (c_M_goes11 l D mo ms sv mb ty th mk ml mfd mf sp on tw H.size) hl.1 rfl (Nat.le_of_ble_eq_true rfl) rfl dX8_time__16 ⟨⟨Nat.le_of_ble_eq_true rfl, Nat.le_of_ble_eq_true rfl⟩, Nat.le_of_ble_eq_true rfl, Nat.le_of_ble_eq_true rfl⟩) rfl rfl (fun r_3 _ H locs hw_4 hP hD hK hS => ?_)
  have hK : va_K D vwCl [(K, .int)] s := hK
  have hP : va_P D vwCl [(ms, .inl (K, 889, .inl sf)), (mo, .inr (8, [.ref ms, .int sv, .ref mb, .int ty, .int 0, .ref mk, .int ml, .ref mfd, .int mf, .int sp, .int on, .int tw]))] H := hP
  have hD : va_D A [(ms, .inl (K, 889, .inl sf)), (mo, .inr (8, [.ref ms, .int sv, .ref mb, .int ty, .int 0, .ref mk, .int ml, .ref mfd, .int mf, .int sp, .int on, .int tw]))] := hD
  have hw_4 : r_3 = (1) := hw_4
  have hw_4 := hw_4.symm
  subst hw_4
  refine k_nrm (y := 1) rfl ?_
  refine lv_if_eq (tgt := 34) hx hb dX8_time__19 (by decide) (fun c9 => absurd c9 (by decide)) (fun _ => ?_)
  refine lv_aload_n hx hb dX8_time__22 rfl (lv_at hl 0 rfl) ?_
  refine va_get (D := D) (ci := 8) (v := .ref ms) (C := RX8) (T := TX8) (N := 12) hx hb ht inA_X8 hown hK hP 1 rfl rfl 0 (by decide) (ht _ lf_X8_7) (fun _ h9 => h9) rfl dX8_time__23 ?_
  refine lv_bipush (v := 52) hx hb dX8_time__26 (by decide) ?_
  refine lv_iload_n hx hb dX8_time__28 rfl (lv_at hl 1 rfl) ?_
  refine lv_iadd hx hb dX8_time__29 ?_
  refine k_nrm (y := (nI (52 + en))) (nI_add 52 en) ?_
  refine va_iald hx hb hK hP 0 0 rfl rfl (vp_in_nI (by omega) (by decide)) dX8_time__30 ?_
  refine k_nrm (y := (s_tf x en)) (by rw [nI_clamp (by omega)]; exact q4 en hen9) ?_
  refine lv_goto (tgt := 35) hx hb dX8_time__31 (by decide) ?_
  have hP9 : va_P D vwCl [(mo, .inr (8, [.ref ms, .int sv, .ref mb, .int ty, .int 0, .ref mk, .int ml, .ref mfd, .int mf, .int sp, .int on, .int tw])), (ms, .inl (K, 889, .inl sf))] H := hP.sub [1, 0] rfl
  have hD9 : va_D A [(mo, .inr (8, [.ref ms, .int sv, .ref mb, .int ty, .int 0, .ref mk, .int ml, .ref mfd, .int mf, .int sp, .int on, .int tw])), (ms, .inl (K, 889, .inl sf))] := hD.sub [1, 0] (by decide) rfl
  have hK9 : va_K D vwCl [] s := hK.sub [] rfl
  exact W.iret (v := (s_tf x en)) hx hb hr (fun t ht9 hW9 => ⟨⟨(s_tf x en), (), rfl, by first | rfl | trivial | (simp only [if_true, if_false, reduceIte, and_self]; done) | simp_all, ⟨by rw [ht9]; exact hP9, va_K.moved hW9.alike hK9, hD9⟩⟩, hS.F ht9⟩) hS.2.2 dX8_time__35
set_option maxHeartbeats 4000000 in
set_option maxRecDepth 100000 in
theorem c_M_timePX (l : Launch) (D : va_G) (mo : Nat) (ms : Nat) (sv : Int32) (mb : Nat) (ty : Int32) (th : Int32) (mk : Nat) (ml : Int32) (mfd : Nat) (mf : Int32) (sp : Int32) (on : Int32) (tw : Int32) (K : ClassId) (sf : Nat → Int32) (x : ST) (v : Int32) (hR : RS x sf) (hbx : bST x) (hxi : inR v (nI (s_tn x)) = 0) (sz : Nat) : k_Mi (S := Unit) l D yX8_time_ cX8_time_ 2 (some .int) 1 0 0 22 [.ref mo, .int v] [(mo, .inr (8, [.ref ms, .int sv, .ref mb, .int ty, .int th, .ref mk, .int ml, .ref mfd, .int mf, .int sp, .int on, .int tw])), (ms, .inl (K, 889, .inl sf))] [(K, .int)] (fun (r : Int32) (_ : Unit) => r = (0)) (fun _ => [(mo, .inr (8, [.ref ms, .int sv, .ref mb, .int ty, .int 1, .ref mk, .int ml, .ref mfd, .int mf, .int sp, .int on, .int tw])), (ms, .inl (K, 889, .inl sf))]) (fun _ => []) sz := by
  refine Met.ofW (cc := cX8_time_) (maxL := 2) (ret := (some .int)) (by decide) rfl ?_
  intro p e s m args below meth c s₁ B hml hv
  obtain ⟨rfl, hsz, hP, hK, hD0, hG⟩ := hv
  have hx := B.exec
  have hb := B.bytes
  have hr := B.returns
  have ht : ∀ v9 ∈ wsA, v9.before ([.ref mo, .int v] : List Value).toArray s = true := fun v9 h9 => atoms_spec (ws := k_ws yX8_time_ cX8_time_ 2 (some .int)) B.pre v9 (List.mem_cons_of_mem _ h9)
  have hown : s.vm.findClass RX8 = some m.cls := findClass_of_methodNamed B.named
  have S0 : k_C p s m ([.ref mo, .int v] : List Value).toArray c cX8_time_ 2 RX8 := ⟨hx, hb, hml, hown, ht⟩
  have hlocks := B.notSynchronized
  subst hsz
  have hD := hD0.self (sz := s.heap.size)
  generalize hAe : va_A [(mo, .inr (8, [.ref ms, .int sv, .ref mb, .int ty, .int th, .ref mk, .int ml, .ref mfd, .int mf, .int sp, .int on, .int tw])), (ms, .inl (K, 889, .inl sf))] s.heap.size = A at hD hG ⊢
  have hA : ∀ q : Nat, s.heap.size ≤ q → A q := fun q h => by rw [← hAe]; exact Or.inr h
  have hS : va_S A s.heap s.heap [] := va_S.rf
  have hl := lv_entry ([.ref mo, .int v]) (n := 2) (Nat.le_of_ble_eq_true rfl)
  rw [lg_entry_eq]
  generalize (lg_sl ([.ref mo, .int v]) ++ List.replicate (2 - (lg_sl ([.ref mo, .int v])).length) Slot.unset).toArray = ls at hl ⊢
  have hl : lv_has ls 2 [(0, .ref mo), (1, .int v)] := hl
  have hP : va_P D vwCl [(mo, .inr (8, [.ref ms, .int sv, .ref mb, .int ty, .int th, .ref mk, .int ml, .ref mfd, .int mf, .int sp, .int on, .int tw])), (ms, .inl (K, 889, .inl sf))] s.heap := hP
  have hR9 := hR
  have hlx9 : True := trivial
  obtain ⟨q0, q1, q2, h51, q4, h93, ⟨h94, q7⟩, h125, h126⟩ := hR
  obtain ⟨b1, b2, b3, b4⟩ := bST_le hbx
  refine lv_aload_n hx hb dX8_time__0 rfl (lv_at hl 0 rfl) ?_
  refine lv_iload_n hx hb dX8_time__1 rfl (lv_at hl 1 rfl) ?_
  refine lv_iconst (v := 0) hx hb dX8_time__2 (by decide) ?_
  refine lv_aload_n hx hb dX8_time__3 rfl (lv_at hl 0 rfl) ?_
  refine va_get (D := D) (ci := 8) (v := .ref ms) (C := RX8) (T := TX8) (N := 12) hx hb ht inA_X8 hown hK hP 0 rfl rfl 0 (by decide) (ht _ lf_X8_7) (fun _ h9 => h9) rfl dX8_time__4 ?_
  refine lv_bipush (v := 51) hx hb dX8_time__7 (by decide) ?_
  refine va_iald hx hb hK hP 1 0 rfl rfl (by unfold vp_in; decide) dX8_time__9 ?_
  refine k_nrm (y := (nI (s_tn x))) (show sf (51 : Int32).toNatClampNeg = (nI (s_tn x)) from h51) ?_
  refine lv_iconst (v := 1) hx hb dX8_time__10 (by decide) ?_
  refine lv_isub hx hb dX8_time__11 ?_
  refine k_nrm (y := (nI (s_tn x) - 1)) (rfl) ?_
  have ct := k_cut_of (wc := []) (wr := [(mo, .inr (8, [.ref ms, .int sv, .ref mb, .int ty, .int th, .ref mk, .int ml, .ref mfd, .int mf, .int sp, .int on, .int tw])), (ms, .inl (K, 889, .inl sf))]) (tc := []) hG hS hA hK hP hD [] [0, 1] [] rfl rfl (by decide) (by decide) (by decide) rfl
  refine k_endi (As := [.int v, .int 0, .int (nI (s_tn x) - 1)]) ct (k_runS (As := [.int v, .int 0, .int (nI (s_tn x) - 1)]) (rest := [.ref mo]) S0 Ls_X8_46 ct (c_M_in0 l D v 0 (nI (s_tn x) - 1) (in_0 (by omega) hxi) s.heap.size) hl.1 rfl (Nat.le_of_ble_eq_true rfl) rfl dX8_time__12 ⟨⟨Nat.le_of_ble_eq_true rfl, Nat.le_of_ble_eq_true rfl⟩, Nat.le_of_ble_eq_true rfl, Nat.le_of_ble_eq_true rfl⟩) rfl rfl (fun r_1 _ H locs hw_2 hP hD hK hS => ?_)
  have hK : va_K D vwCl [(K, .int)] s := hK
  have hP : va_P D vwCl [(mo, .inr (8, [.ref ms, .int sv, .ref mb, .int ty, .int th, .ref mk, .int ml, .ref mfd, .int mf, .int sp, .int on, .int tw])), (ms, .inl (K, 889, .inl sf))] H := hP
  have hD : va_D A [(mo, .inr (8, [.ref ms, .int sv, .ref mb, .int ty, .int th, .ref mk, .int ml, .ref mfd, .int mf, .int sp, .int on, .int tw])), (ms, .inl (K, 889, .inl sf))] := hD
  have hw_2 : r_1 = (0) := hw_2
  have hw_2 := hw_2.symm
  subst hw_2
  refine k_nrm (y := 0) rfl ?_
  refine lv_iconst (v := 1) hx hb dX8_time__15 (by decide) ?_
  have ct := k_cut_of (wc := [(mo, .inr (8, [.ref ms, .int sv, .ref mb, .int ty, .int th, .ref mk, .int ml, .ref mfd, .int mf, .int sp, .int on, .int tw]))]) (wr := [(ms, .inl (K, 889, .inl sf))]) (tc := []) hG hS hA hK hP hD [0] [1] [] rfl rfl (by decide) (by decide) (by decide) rfl
  refine k_endi (As := [.ref mo, .int 0, .int 1]) ct (k_runV (As := [.int 0, .int 1]) (rest := []) S0 Lv_X8_58 rfl (ci := 8) (q0 := 0) rfl rfl ct (c_M_goes0 l D mo ms sv mb ty th mk ml mfd mf sp on tw 1 H.size) hl.1 rfl (Nat.le_of_ble_eq_true rfl) rfl dX8_time__16 ⟨⟨Nat.le_of_ble_eq_true rfl, Nat.le_of_ble_eq_true rfl⟩, Nat.le_of_ble_eq_true rfl, Nat.le_of_ble_eq_true rfl⟩) rfl rfl (fun r_3 _ H locs hw_4 hP hD hK hS => ?_)
  have hK : va_K D vwCl [(K, .int)] s := hK
  have hP : va_P D vwCl [(ms, .inl (K, 889, .inl sf)), (mo, .inr (8, [.ref ms, .int sv, .ref mb, .int ty, .int 1, .ref mk, .int ml, .ref mfd, .int mf, .int sp, .int on, .int tw]))] H := hP
  have hD : va_D A [(ms, .inl (K, 889, .inl sf)), (mo, .inr (8, [.ref ms, .int sv, .ref mb, .int ty, .int 1, .ref mk, .int ml, .ref mfd, .int mf, .int sp, .int on, .int tw]))] := hD
  have hw_4 : r_3 = (0) := hw_4
  have hw_4 := hw_4.symm
  subst hw_4
  refine k_nrm (y := 0) rfl ?_
  refine lv_if_eq (tgt := 34) hx hb dX8_time__19 (by decide) (fun _ => ?_) (fun c9 => absurd (by decide) c9)
  refine lv_iconst (v := 0) hx hb dX8_time__34 (by decide) ?_
  have hP9 : va_P D vwCl [(mo, .inr (8, [.ref ms, .int sv, .ref mb, .int ty, .int 1, .ref mk, .int ml, .ref mfd, .int mf, .int sp, .int on, .int tw])), (ms, .inl (K, 889, .inl sf))] H := hP.sub [1, 0] rfl
  have hD9 : va_D A [(mo, .inr (8, [.ref ms, .int sv, .ref mb, .int ty, .int 1, .ref mk, .int ml, .ref mfd, .int mf, .int sp, .int on, .int tw])), (ms, .inl (K, 889, .inl sf))] := hD.sub [1, 0] (by decide) rfl
  have hK9 : va_K D vwCl [] s := hK.sub [] rfl
  exact W.iret (v := 0) hx hb hr (fun t ht9 hW9 => ⟨⟨0, (), rfl, by first | rfl | trivial | (simp only [if_true, if_false, reduceIte, and_self]; done) | simp_all, ⟨by rw [ht9]; exact hP9, va_K.moved hW9.alike hK9, hD9⟩⟩, hS.F ht9⟩) hS.2.2 dX8_time__35
set_option maxHeartbeats 4000000 in
set_option maxRecDepth 100000 in
theorem c_M_isCode1 (l : Launch) (D : va_G) (mo : Nat) (ms : Nat) (sv : Int32) (mb : Nat) (ty : Int32) (th : Int32) (mk : Nat) (ml : Int32) (mfd : Nat) (mf : Int32) (sp : Int32) (on : Int32) (tw : Int32) (K : ClassId) (sf : Nat → Int32) (v : Int32) (k : Nat) (hxi : inR v (nI k) = 1) (h94 : sf 94 = nI k) (hk : k ≤ 10) (sz : Nat) : k_Mi (S := Unit) l D yX8_isCode cX8_isCode 2 (some .boolean) 1 0 0 22 [.ref mo, .int v] [(mo, .inr (8, [.ref ms, .int sv, .ref mb, .int ty, .int th, .ref mk, .int ml, .ref mfd, .int mf, .int sp, .int on, .int tw])), (ms, .inl (K, 889, .inl sf))] [(K, .int)] (fun (r : Int32) (_ : Unit) => r = (1)) (fun _ => [(mo, .inr (8, [.ref ms, .int sv, .ref mb, .int ty, .int th, .ref mk, .int ml, .ref mfd, .int mf, .int sp, .int on, .int tw])), (ms, .inl (K, 889, .inl sf))]) (fun _ => []) sz := by
  refine Met.ofW (cc := cX8_isCode) (maxL := 2) (ret := (some .boolean)) (by decide) rfl ?_
  intro p e s m args below meth c s₁ B hml hv
  obtain ⟨rfl, hsz, hP, hK, hD0, hG⟩ := hv
  have hx := B.exec
  have hb := B.bytes
  have hr := B.returns
  have ht : ∀ v9 ∈ wsA, v9.before ([.ref mo, .int v] : List Value).toArray s = true := fun v9 h9 => atoms_spec (ws := k_ws yX8_isCode cX8_isCode 2 (some .boolean)) B.pre v9 (List.mem_cons_of_mem _ h9)
  have hown : s.vm.findClass RX8 = some m.cls := findClass_of_methodNamed B.named
  have S0 : k_C p s m ([.ref mo, .int v] : List Value).toArray c cX8_isCode 2 RX8 := ⟨hx, hb, hml, hown, ht⟩
  have hlocks := B.notSynchronized
  subst hsz
  have hD := hD0.self (sz := s.heap.size)
  generalize hAe : va_A [(mo, .inr (8, [.ref ms, .int sv, .ref mb, .int ty, .int th, .ref mk, .int ml, .ref mfd, .int mf, .int sp, .int on, .int tw])), (ms, .inl (K, 889, .inl sf))] s.heap.size = A at hD hG ⊢
  have hA : ∀ q : Nat, s.heap.size ≤ q → A q := fun q h => by rw [← hAe]; exact Or.inr h
  have hS : va_S A s.heap s.heap [] := va_S.rf
  have hl := lv_entry ([.ref mo, .int v]) (n := 2) (Nat.le_of_ble_eq_true rfl)
  rw [lg_entry_eq]
  generalize (lg_sl ([.ref mo, .int v]) ++ List.replicate (2 - (lg_sl ([.ref mo, .int v])).length) Slot.unset).toArray = ls at hl ⊢
  have hl : lv_has ls 2 [(0, .ref mo), (1, .int v)] := hl
  have hP : va_P D vwCl [(mo, .inr (8, [.ref ms, .int sv, .ref mb, .int ty, .int th, .ref mk, .int ml, .ref mfd, .int mf, .int sp, .int on, .int tw])), (ms, .inl (K, 889, .inl sf))] s.heap := hP
  refine lv_iload_n hx hb dX8_isCode_0 rfl (lv_at hl 1 rfl) ?_
  refine lv_iconst (v := 0) hx hb dX8_isCode_1 (by decide) ?_
  refine lv_aload_n hx hb dX8_isCode_2 rfl (lv_at hl 0 rfl) ?_
  refine va_get (D := D) (ci := 8) (v := .ref ms) (C := RX8) (T := TX8) (N := 12) hx hb ht inA_X8 hown hK hP 0 rfl rfl 0 (by decide) (ht _ lf_X8_7) (fun _ h9 => h9) rfl dX8_isCode_3 ?_
  refine lv_bipush (v := 94) hx hb dX8_isCode_6 (by decide) ?_
  refine va_iald hx hb hK hP 1 0 rfl rfl (by unfold vp_in; decide) dX8_isCode_8 ?_
  refine k_nrm (y := (nI k)) (show sf (94 : Int32).toNatClampNeg = (nI k) from h94) ?_
  refine lv_iconst (v := 1) hx hb dX8_isCode_9 (by decide) ?_
  refine lv_isub hx hb dX8_isCode_10 ?_
  refine k_nrm (y := (nI k - 1)) (rfl) ?_
  have ct := k_cut_of (wc := []) (wr := [(mo, .inr (8, [.ref ms, .int sv, .ref mb, .int ty, .int th, .ref mk, .int ml, .ref mfd, .int mf, .int sp, .int on, .int tw])), (ms, .inl (K, 889, .inl sf))]) (tc := []) hG hS hA hK hP hD [] [0, 1] [] rfl rfl (by decide) (by decide) (by decide) rfl
  refine k_endi (As := [.int v, .int 0, .int (nI k - 1)]) ct (k_runS (As := [.int v, .int 0, .int (nI k - 1)]) (rest := []) S0 Ls_X8_46 ct (c_M_in1 l D v 0 (nI k - 1) ((in_1 (by omega) hxi).1) ((in_1 (by omega) hxi).2) s.heap.size) hl.1 rfl (Nat.le_of_ble_eq_true rfl) rfl dX8_isCode_11 ⟨⟨Nat.le_of_ble_eq_true rfl, Nat.le_of_ble_eq_true rfl⟩, Nat.le_of_ble_eq_true rfl, Nat.le_of_ble_eq_true rfl⟩) rfl rfl (fun r_1 _ H locs hw_2 hP hD hK hS => ?_)
  have hK : va_K D vwCl [(K, .int)] s := hK
  have hP : va_P D vwCl [(mo, .inr (8, [.ref ms, .int sv, .ref mb, .int ty, .int th, .ref mk, .int ml, .ref mfd, .int mf, .int sp, .int on, .int tw])), (ms, .inl (K, 889, .inl sf))] H := hP
  have hD : va_D A [(mo, .inr (8, [.ref ms, .int sv, .ref mb, .int ty, .int th, .ref mk, .int ml, .ref mfd, .int mf, .int sp, .int on, .int tw])), (ms, .inl (K, 889, .inl sf))] := hD
  have hw_2 : r_1 = (1) := hw_2
  have hw_2 := hw_2.symm
  subst hw_2
  refine k_nrm (y := 1) rfl ?_
  have hP9 : va_P D vwCl [(mo, .inr (8, [.ref ms, .int sv, .ref mb, .int ty, .int th, .ref mk, .int ml, .ref mfd, .int mf, .int sp, .int on, .int tw])), (ms, .inl (K, 889, .inl sf))] H := hP.sub [0, 1] rfl
  have hD9 : va_D A [(mo, .inr (8, [.ref ms, .int sv, .ref mb, .int ty, .int th, .ref mk, .int ml, .ref mfd, .int mf, .int sp, .int on, .int tw])), (ms, .inl (K, 889, .inl sf))] := hD.sub [0, 1] (by decide) rfl
  have hK9 : va_K D vwCl [] s := hK.sub [] rfl
  exact W.zret (v := 1) hx hb hr (rfl) (fun t ht9 hW9 => ⟨⟨1, (), rfl, by first | rfl | trivial | (simp only [if_true, if_false, reduceIte, and_self]; done) | simp_all, ⟨by rw [ht9]; exact hP9, va_K.moved hW9.alike hK9, hD9⟩⟩, hS.F ht9⟩) hS.2.2 dX8_isCode_14
set_option maxHeartbeats 4000000 in
set_option maxRecDepth 100000 in
theorem c_M_isCode0 (l : Launch) (D : va_G) (mo : Nat) (ms : Nat) (sv : Int32) (mb : Nat) (ty : Int32) (th : Int32) (mk : Nat) (ml : Int32) (mfd : Nat) (mf : Int32) (sp : Int32) (on : Int32) (tw : Int32) (K : ClassId) (sf : Nat → Int32) (v : Int32) (k : Nat) (hxi : inR v (nI k) = 0) (h94 : sf 94 = nI k) (hk : k ≤ 10) (sz : Nat) : k_Mi (S := Unit) l D yX8_isCode cX8_isCode 2 (some .boolean) 1 0 0 22 [.ref mo, .int v] [(mo, .inr (8, [.ref ms, .int sv, .ref mb, .int ty, .int th, .ref mk, .int ml, .ref mfd, .int mf, .int sp, .int on, .int tw])), (ms, .inl (K, 889, .inl sf))] [(K, .int)] (fun (r : Int32) (_ : Unit) => r = (0)) (fun _ => [(mo, .inr (8, [.ref ms, .int sv, .ref mb, .int ty, .int th, .ref mk, .int ml, .ref mfd, .int mf, .int sp, .int on, .int tw])), (ms, .inl (K, 889, .inl sf))]) (fun _ => []) sz := by
  refine Met.ofW (cc := cX8_isCode) (maxL := 2) (ret := (some .boolean)) (by decide) rfl ?_
  intro p e s m args below meth c s₁ B hml hv
  obtain ⟨rfl, hsz, hP, hK, hD0, hG⟩ := hv
  have hx := B.exec
  have hb := B.bytes
  have hr := B.returns
  have ht : ∀ v9 ∈ wsA, v9.before ([.ref mo, .int v] : List Value).toArray s = true := fun v9 h9 => atoms_spec (ws := k_ws yX8_isCode cX8_isCode 2 (some .boolean)) B.pre v9 (List.mem_cons_of_mem _ h9)
  have hown : s.vm.findClass RX8 = some m.cls := findClass_of_methodNamed B.named
  have S0 : k_C p s m ([.ref mo, .int v] : List Value).toArray c cX8_isCode 2 RX8 := ⟨hx, hb, hml, hown, ht⟩
  have hlocks := B.notSynchronized
  subst hsz
  have hD := hD0.self (sz := s.heap.size)
  generalize hAe : va_A [(mo, .inr (8, [.ref ms, .int sv, .ref mb, .int ty, .int th, .ref mk, .int ml, .ref mfd, .int mf, .int sp, .int on, .int tw])), (ms, .inl (K, 889, .inl sf))] s.heap.size = A at hD hG ⊢
  have hA : ∀ q : Nat, s.heap.size ≤ q → A q := fun q h => by rw [← hAe]; exact Or.inr h
  have hS : va_S A s.heap s.heap [] := va_S.rf
  have hl := lv_entry ([.ref mo, .int v]) (n := 2) (Nat.le_of_ble_eq_true rfl)
  rw [lg_entry_eq]
  generalize (lg_sl ([.ref mo, .int v]) ++ List.replicate (2 - (lg_sl ([.ref mo, .int v])).length) Slot.unset).toArray = ls at hl ⊢
  have hl : lv_has ls 2 [(0, .ref mo), (1, .int v)] := hl
  have hP : va_P D vwCl [(mo, .inr (8, [.ref ms, .int sv, .ref mb, .int ty, .int th, .ref mk, .int ml, .ref mfd, .int mf, .int sp, .int on, .int tw])), (ms, .inl (K, 889, .inl sf))] s.heap := hP
  refine lv_iload_n hx hb dX8_isCode_0 rfl (lv_at hl 1 rfl) ?_
  refine lv_iconst (v := 0) hx hb dX8_isCode_1 (by decide) ?_
  refine lv_aload_n hx hb dX8_isCode_2 rfl (lv_at hl 0 rfl) ?_
  refine va_get (D := D) (ci := 8) (v := .ref ms) (C := RX8) (T := TX8) (N := 12) hx hb ht inA_X8 hown hK hP 0 rfl rfl 0 (by decide) (ht _ lf_X8_7) (fun _ h9 => h9) rfl dX8_isCode_3 ?_
  refine lv_bipush (v := 94) hx hb dX8_isCode_6 (by decide) ?_
  refine va_iald hx hb hK hP 1 0 rfl rfl (by unfold vp_in; decide) dX8_isCode_8 ?_
  refine k_nrm (y := (nI k)) (show sf (94 : Int32).toNatClampNeg = (nI k) from h94) ?_
  refine lv_iconst (v := 1) hx hb dX8_isCode_9 (by decide) ?_
  refine lv_isub hx hb dX8_isCode_10 ?_
  refine k_nrm (y := (nI k - 1)) (rfl) ?_
  have ct := k_cut_of (wc := []) (wr := [(mo, .inr (8, [.ref ms, .int sv, .ref mb, .int ty, .int th, .ref mk, .int ml, .ref mfd, .int mf, .int sp, .int on, .int tw])), (ms, .inl (K, 889, .inl sf))]) (tc := []) hG hS hA hK hP hD [] [0, 1] [] rfl rfl (by decide) (by decide) (by decide) rfl
  refine k_endi (As := [.int v, .int 0, .int (nI k - 1)]) ct (k_runS (As := [.int v, .int 0, .int (nI k - 1)]) (rest := []) S0 Ls_X8_46 ct (c_M_in0 l D v 0 (nI k - 1) (in_0 (by omega) hxi) s.heap.size) hl.1 rfl (Nat.le_of_ble_eq_true rfl) rfl dX8_isCode_11 ⟨⟨Nat.le_of_ble_eq_true rfl, Nat.le_of_ble_eq_true rfl⟩, Nat.le_of_ble_eq_true rfl, Nat.le_of_ble_eq_true rfl⟩) rfl rfl (fun r_1 _ H locs hw_2 hP hD hK hS => ?_)
  have hK : va_K D vwCl [(K, .int)] s := hK
  have hP : va_P D vwCl [(mo, .inr (8, [.ref ms, .int sv, .ref mb, .int ty, .int th, .ref mk, .int ml, .ref mfd, .int mf, .int sp, .int on, .int tw])), (ms, .inl (K, 889, .inl sf))] H := hP
  have hD : va_D A [(mo, .inr (8, [.ref ms, .int sv, .ref mb, .int ty, .int th, .ref mk, .int ml, .ref mfd, .int mf, .int sp, .int on, .int tw])), (ms, .inl (K, 889, .inl sf))] := hD
  have hw_2 : r_1 = (0) := hw_2
  have hw_2 := hw_2.symm
  subst hw_2
  refine k_nrm (y := 0) rfl ?_
  have hP9 : va_P D vwCl [(mo, .inr (8, [.ref ms, .int sv, .ref mb, .int ty, .int th, .ref mk, .int ml, .ref mfd, .int mf, .int sp, .int on, .int tw])), (ms, .inl (K, 889, .inl sf))] H := hP.sub [0, 1] rfl
  have hD9 : va_D A [(mo, .inr (8, [.ref ms, .int sv, .ref mb, .int ty, .int th, .ref mk, .int ml, .ref mfd, .int mf, .int sp, .int on, .int tw])), (ms, .inl (K, 889, .inl sf))] := hD.sub [0, 1] (by decide) rfl
  have hK9 : va_K D vwCl [] s := hK.sub [] rfl
  exact W.zret (v := 0) hx hb hr (rfl) (fun t ht9 hW9 => ⟨⟨0, (), rfl, by first | rfl | trivial | (simp only [if_true, if_false, reduceIte, and_self]; done) | simp_all, ⟨by rw [ht9]; exact hP9, va_K.moved hW9.alike hK9, hD9⟩⟩, hS.F ht9⟩) hS.2.2 dX8_isCode_14
set_option maxHeartbeats 4000000 in
set_option maxRecDepth 100000 in
theorem c_M_code (l : Launch) (D : va_G) (mo : Nat) (ms : Nat) (sv : Int32) (mb : Nat) (ty : Int32) (th : Int32) (mk : Nat) (ml : Int32) (mfd : Nat) (mf : Int32) (sp : Int32) (on : Int32) (tw : Int32) (K : ClassId) (sf : Nat → Int32) (x : ST) (en : Nat) (hR : RS x sf) (hbx : bST x) (hen9 : en < s_k x) (sz : Nat) : k_Mi (S := Unit) l D yX8_code cX8_code 2 (some .int) 2 0 0 43 [.ref mo, .int (nI en)] [(mo, .inr (8, [.ref ms, .int sv, .ref mb, .int ty, .int th, .ref mk, .int ml, .ref mfd, .int mf, .int sp, .int on, .int tw])), (ms, .inl (K, 889, .inl sf))] [(K, .int)] (fun (r : Int32) (_ : Unit) => r = (s_f x en)) (fun _ => [(mo, .inr (8, [.ref ms, .int sv, .ref mb, .int ty, .int 0, .ref mk, .int ml, .ref mfd, .int mf, .int sp, .int on, .int tw])), (ms, .inl (K, 889, .inl sf))]) (fun _ => []) sz := by
  refine Met.ofW (cc := cX8_code) (maxL := 2) (ret := (some .int)) (by decide) rfl ?_
  intro p e s m args below meth c s₁ B hml hv
  obtain ⟨rfl, hsz, hP, hK, hD0, hG⟩ := hv
  have hx := B.exec
  have hb := B.bytes
  have hr := B.returns
  have ht : ∀ v9 ∈ wsA, v9.before ([.ref mo, .int (nI en)] : List Value).toArray s = true := fun v9 h9 => atoms_spec (ws := k_ws yX8_code cX8_code 2 (some .int)) B.pre v9 (List.mem_cons_of_mem _ h9)
  have hown : s.vm.findClass RX8 = some m.cls := findClass_of_methodNamed B.named
  have S0 : k_C p s m ([.ref mo, .int (nI en)] : List Value).toArray c cX8_code 2 RX8 := ⟨hx, hb, hml, hown, ht⟩
  have hlocks := B.notSynchronized
  subst hsz
  have hD := hD0.self (sz := s.heap.size)
  generalize hAe : va_A [(mo, .inr (8, [.ref ms, .int sv, .ref mb, .int ty, .int th, .ref mk, .int ml, .ref mfd, .int mf, .int sp, .int on, .int tw])), (ms, .inl (K, 889, .inl sf))] s.heap.size = A at hD hG ⊢
  have hA : ∀ q : Nat, s.heap.size ≤ q → A q := fun q h => by rw [← hAe]; exact Or.inr h
  have hS : va_S A s.heap s.heap [] := va_S.rf
  have hl := lv_entry ([.ref mo, .int (nI en)]) (n := 2) (Nat.le_of_ble_eq_true rfl)
  rw [lg_entry_eq]
  generalize (lg_sl ([.ref mo, .int (nI en)]) ++ List.replicate (2 - (lg_sl ([.ref mo, .int (nI en)])).length) Slot.unset).toArray = ls at hl ⊢
  have hl : lv_has ls 2 [(0, .ref mo), (1, .int (nI en))] := hl
  have hP : va_P D vwCl [(mo, .inr (8, [.ref ms, .int sv, .ref mb, .int ty, .int th, .ref mk, .int ml, .ref mfd, .int mf, .int sp, .int on, .int tw])), (ms, .inl (K, 889, .inl sf))] s.heap := hP
  have hR9 := hR
  have hlx9 : True := trivial
  obtain ⟨q0, q1, q2, h51, q4, h93, ⟨h94, q7⟩, h125, h126⟩ := hR
  obtain ⟨b1, b2, b3, b4⟩ := bST_le hbx
  refine lv_aload_n hx hb dX8_code_0 rfl (lv_at hl 0 rfl) ?_
  refine lv_aload_n hx hb dX8_code_1 rfl (lv_at hl 0 rfl) ?_
  refine lv_iload_n hx hb dX8_code_2 rfl (lv_at hl 1 rfl) ?_
  have ct := k_cut_of (wc := [(mo, .inr (8, [.ref ms, .int sv, .ref mb, .int ty, .int th, .ref mk, .int ml, .ref mfd, .int mf, .int sp, .int on, .int tw])), (ms, .inl (K, 889, .inl sf))]) (wr := []) (tc := [(K, .int)]) hG hS hA hK hP hD [0, 1] [] [0] rfl rfl (by decide) (by decide) (by decide) rfl
  refine k_endi (As := [.ref mo, .int (nI en)]) ct (k_runV (As := [.int (nI en)]) (rest := [.ref mo]) S0 Lv_X8_141 rfl (ci := 8) (q0 := 0) rfl rfl ct (c_M_isCode1 l D mo ms sv mb ty th mk ml mfd mf sp on tw K sf (nI en) (s_k x) (inR_in hen9 (by omega)) (by assumption) (by first | assumption | omega) s.heap.size) hl.1 rfl (Nat.le_of_ble_eq_true rfl) rfl dX8_code_3 ⟨⟨Nat.le_of_ble_eq_true rfl, Nat.le_of_ble_eq_true rfl⟩, Nat.le_of_ble_eq_true rfl, Nat.le_of_ble_eq_true rfl⟩) rfl rfl (fun r_1 _ H locs hw_2 hP hD hK hS => ?_)
  have hK : va_K D vwCl [(K, .int)] s := hK
  have hP : va_P D vwCl [(mo, .inr (8, [.ref ms, .int sv, .ref mb, .int ty, .int th, .ref mk, .int ml, .ref mfd, .int mf, .int sp, .int on, .int tw])), (ms, .inl (K, 889, .inl sf))] H := hP
  have hD : va_D A [(mo, .inr (8, [.ref ms, .int sv, .ref mb, .int ty, .int th, .ref mk, .int ml, .ref mfd, .int mf, .int sp, .int on, .int tw])), (ms, .inl (K, 889, .inl sf))] := hD
  have hw_2 : r_1 = (1) := hw_2
  have hw_2 := hw_2.symm
  subst hw_2
  refine k_nrm (y := 1) rfl ?_
  refine lv_iconst (v := 1) hx hb dX8_code_6 (by decide) ?_
  have ct := k_cut_of (wc := [(mo, .inr (8, [.ref ms, .int sv, .ref mb, .int ty, .int th, .ref mk, .int ml, .ref mfd, .int mf, .int sp, .int on, .int tw]))]) (wr := [(ms, .inl (K, 889, .inl sf))]) (tc := []) hG hS hA hK hP hD [0] [1] [] rfl rfl (by decide) (by decide) (by decide) rfl
  refine k_endi (As := [.ref mo, .int 1, .int 1]) ct (k_runV (As := [.int 1, .int 1]) (rest := []) S0 Lv_X8_58 rfl (ci := 8) (q0 := 0) rfl rfl ct (c_M_goes11 l D mo ms sv mb ty th mk ml mfd mf sp on tw H.size) hl.1 rfl (Nat.le_of_ble_eq_true rfl) rfl dX8_code_7 ⟨⟨Nat.le_of_ble_eq_true rfl, Nat.le_of_ble_eq_true rfl⟩, Nat.le_of_ble_eq_true rfl, Nat.le_of_ble_eq_true rfl⟩) rfl rfl (fun r_3 _ H locs hw_4 hP hD hK hS => ?_)
  have hK : va_K D vwCl [(K, .int)] s := hK
  have hP : va_P D vwCl [(ms, .inl (K, 889, .inl sf)), (mo, .inr (8, [.ref ms, .int sv, .ref mb, .int ty, .int 0, .ref mk, .int ml, .ref mfd, .int mf, .int sp, .int on, .int tw]))] H := hP
  have hD : va_D A [(ms, .inl (K, 889, .inl sf)), (mo, .inr (8, [.ref ms, .int sv, .ref mb, .int ty, .int 0, .ref mk, .int ml, .ref mfd, .int mf, .int sp, .int on, .int tw]))] := hD
  have hw_4 : r_3 = (1) := hw_4
  have hw_4 := hw_4.symm
  subst hw_4
  refine k_nrm (y := 1) rfl ?_
  refine lv_if_eq (tgt := 25) hx hb dX8_code_10 (by decide) (fun c9 => absurd c9 (by decide)) (fun _ => ?_)
  refine lv_aload_n hx hb dX8_code_13 rfl (lv_at hl 0 rfl) ?_
  refine va_get (D := D) (ci := 8) (v := .ref ms) (C := RX8) (T := TX8) (N := 12) hx hb ht inA_X8 hown hK hP 1 rfl rfl 0 (by decide) (ht _ lf_X8_7) (fun _ h9 => h9) rfl dX8_code_14 ?_
  refine lv_bipush (v := 95) hx hb dX8_code_17 (by decide) ?_
  refine lv_iload_n hx hb dX8_code_19 rfl (lv_at hl 1 rfl) ?_
  refine lv_iadd hx hb dX8_code_20 ?_
  refine k_nrm (y := (nI (95 + en))) (nI_add 95 en) ?_
  refine va_iald hx hb hK hP 0 0 rfl rfl (vp_in_nI (by omega) (by decide)) dX8_code_21 ?_
  refine k_nrm (y := (s_f x en)) (by rw [nI_clamp (by omega)]; exact (q7 en hen9).1) ?_
  refine lv_goto (tgt := 26) hx hb dX8_code_22 (by decide) ?_
  have hP9 : va_P D vwCl [(mo, .inr (8, [.ref ms, .int sv, .ref mb, .int ty, .int 0, .ref mk, .int ml, .ref mfd, .int mf, .int sp, .int on, .int tw])), (ms, .inl (K, 889, .inl sf))] H := hP.sub [1, 0] rfl
  have hD9 : va_D A [(mo, .inr (8, [.ref ms, .int sv, .ref mb, .int ty, .int 0, .ref mk, .int ml, .ref mfd, .int mf, .int sp, .int on, .int tw])), (ms, .inl (K, 889, .inl sf))] := hD.sub [1, 0] (by decide) rfl
  have hK9 : va_K D vwCl [] s := hK.sub [] rfl
  exact W.iret (v := (s_f x en)) hx hb hr (fun t ht9 hW9 => ⟨⟨(s_f x en), (), rfl, by first | rfl | trivial | (simp only [if_true, if_false, reduceIte, and_self]; done) | simp_all, ⟨by rw [ht9]; exact hP9, va_K.moved hW9.alike hK9, hD9⟩⟩, hS.F ht9⟩) hS.2.2 dX8_code_26
set_option maxHeartbeats 4000000 in
set_option maxRecDepth 100000 in
theorem c_M_codeX (l : Launch) (D : va_G) (mo : Nat) (ms : Nat) (sv : Int32) (mb : Nat) (ty : Int32) (th : Int32) (mk : Nat) (ml : Int32) (mfd : Nat) (mf : Int32) (sp : Int32) (on : Int32) (tw : Int32) (K : ClassId) (sf : Nat → Int32) (x : ST) (v : Int32) (hR : RS x sf) (hbx : bST x) (hxi : inR v (nI (s_k x)) = 0) (sz : Nat) : k_Mi (S := Unit) l D yX8_code cX8_code 2 (some .int) 2 0 0 43 [.ref mo, .int v] [(mo, .inr (8, [.ref ms, .int sv, .ref mb, .int ty, .int th, .ref mk, .int ml, .ref mfd, .int mf, .int sp, .int on, .int tw])), (ms, .inl (K, 889, .inl sf))] [(K, .int)] (fun (r : Int32) (_ : Unit) => r = (0)) (fun _ => [(mo, .inr (8, [.ref ms, .int sv, .ref mb, .int ty, .int 1, .ref mk, .int ml, .ref mfd, .int mf, .int sp, .int on, .int tw])), (ms, .inl (K, 889, .inl sf))]) (fun _ => []) sz := by
  refine Met.ofW (cc := cX8_code) (maxL := 2) (ret := (some .int)) (by decide) rfl ?_
  intro p e s m args below meth c s₁ B hml hv
  obtain ⟨rfl, hsz, hP, hK, hD0, hG⟩ := hv
  have hx := B.exec
  have hb := B.bytes
  have hr := B.returns
  have ht : ∀ v9 ∈ wsA, v9.before ([.ref mo, .int v] : List Value).toArray s = true := fun v9 h9 => atoms_spec (ws := k_ws yX8_code cX8_code 2 (some .int)) B.pre v9 (List.mem_cons_of_mem _ h9)
  have hown : s.vm.findClass RX8 = some m.cls := findClass_of_methodNamed B.named
  have S0 : k_C p s m ([.ref mo, .int v] : List Value).toArray c cX8_code 2 RX8 := ⟨hx, hb, hml, hown, ht⟩
  have hlocks := B.notSynchronized
  subst hsz
  have hD := hD0.self (sz := s.heap.size)
  generalize hAe : va_A [(mo, .inr (8, [.ref ms, .int sv, .ref mb, .int ty, .int th, .ref mk, .int ml, .ref mfd, .int mf, .int sp, .int on, .int tw])), (ms, .inl (K, 889, .inl sf))] s.heap.size = A at hD hG ⊢
  have hA : ∀ q : Nat, s.heap.size ≤ q → A q := fun q h => by rw [← hAe]; exact Or.inr h
  have hS : va_S A s.heap s.heap [] := va_S.rf
  have hl := lv_entry ([.ref mo, .int v]) (n := 2) (Nat.le_of_ble_eq_true rfl)
  rw [lg_entry_eq]
  generalize (lg_sl ([.ref mo, .int v]) ++ List.replicate (2 - (lg_sl ([.ref mo, .int v])).length) Slot.unset).toArray = ls at hl ⊢
  have hl : lv_has ls 2 [(0, .ref mo), (1, .int v)] := hl
  have hP : va_P D vwCl [(mo, .inr (8, [.ref ms, .int sv, .ref mb, .int ty, .int th, .ref mk, .int ml, .ref mfd, .int mf, .int sp, .int on, .int tw])), (ms, .inl (K, 889, .inl sf))] s.heap := hP
  have hR9 := hR
  have hlx9 : True := trivial
  obtain ⟨q0, q1, q2, h51, q4, h93, ⟨h94, q7⟩, h125, h126⟩ := hR
  obtain ⟨b1, b2, b3, b4⟩ := bST_le hbx
  refine lv_aload_n hx hb dX8_code_0 rfl (lv_at hl 0 rfl) ?_
  refine lv_aload_n hx hb dX8_code_1 rfl (lv_at hl 0 rfl) ?_
  refine lv_iload_n hx hb dX8_code_2 rfl (lv_at hl 1 rfl) ?_
  have ct := k_cut_of (wc := [(mo, .inr (8, [.ref ms, .int sv, .ref mb, .int ty, .int th, .ref mk, .int ml, .ref mfd, .int mf, .int sp, .int on, .int tw])), (ms, .inl (K, 889, .inl sf))]) (wr := []) (tc := [(K, .int)]) hG hS hA hK hP hD [0, 1] [] [0] rfl rfl (by decide) (by decide) (by decide) rfl
  refine k_endi (As := [.ref mo, .int v]) ct (k_runV (As := [.int v]) (rest := [.ref mo]) S0 Lv_X8_141 rfl (ci := 8) (q0 := 0) rfl rfl ct (c_M_isCode0 l D mo ms sv mb ty th mk ml mfd mf sp on tw K sf v (s_k x) hxi (by assumption) (by first | assumption | omega) s.heap.size) hl.1 rfl (Nat.le_of_ble_eq_true rfl) rfl dX8_code_3 ⟨⟨Nat.le_of_ble_eq_true rfl, Nat.le_of_ble_eq_true rfl⟩, Nat.le_of_ble_eq_true rfl, Nat.le_of_ble_eq_true rfl⟩) rfl rfl (fun r_1 _ H locs hw_2 hP hD hK hS => ?_)
  have hK : va_K D vwCl [(K, .int)] s := hK
  have hP : va_P D vwCl [(mo, .inr (8, [.ref ms, .int sv, .ref mb, .int ty, .int th, .ref mk, .int ml, .ref mfd, .int mf, .int sp, .int on, .int tw])), (ms, .inl (K, 889, .inl sf))] H := hP
  have hD : va_D A [(mo, .inr (8, [.ref ms, .int sv, .ref mb, .int ty, .int th, .ref mk, .int ml, .ref mfd, .int mf, .int sp, .int on, .int tw])), (ms, .inl (K, 889, .inl sf))] := hD
  have hw_2 : r_1 = (0) := hw_2
  have hw_2 := hw_2.symm
  subst hw_2
  refine k_nrm (y := 0) rfl ?_
  refine lv_iconst (v := 1) hx hb dX8_code_6 (by decide) ?_
  have ct := k_cut_of (wc := [(mo, .inr (8, [.ref ms, .int sv, .ref mb, .int ty, .int th, .ref mk, .int ml, .ref mfd, .int mf, .int sp, .int on, .int tw]))]) (wr := [(ms, .inl (K, 889, .inl sf))]) (tc := []) hG hS hA hK hP hD [0] [1] [] rfl rfl (by decide) (by decide) (by decide) rfl
  refine k_endi (As := [.ref mo, .int 0, .int 1]) ct (k_runV (As := [.int 0, .int 1]) (rest := []) S0 Lv_X8_58 rfl (ci := 8) (q0 := 0) rfl rfl ct (c_M_goes0 l D mo ms sv mb ty th mk ml mfd mf sp on tw 1 H.size) hl.1 rfl (Nat.le_of_ble_eq_true rfl) rfl dX8_code_7 ⟨⟨Nat.le_of_ble_eq_true rfl, Nat.le_of_ble_eq_true rfl⟩, Nat.le_of_ble_eq_true rfl, Nat.le_of_ble_eq_true rfl⟩) rfl rfl (fun r_3 _ H locs hw_4 hP hD hK hS => ?_)
  have hK : va_K D vwCl [(K, .int)] s := hK
  have hP : va_P D vwCl [(ms, .inl (K, 889, .inl sf)), (mo, .inr (8, [.ref ms, .int sv, .ref mb, .int ty, .int 1, .ref mk, .int ml, .ref mfd, .int mf, .int sp, .int on, .int tw]))] H := hP
  have hD : va_D A [(ms, .inl (K, 889, .inl sf)), (mo, .inr (8, [.ref ms, .int sv, .ref mb, .int ty, .int 1, .ref mk, .int ml, .ref mfd, .int mf, .int sp, .int on, .int tw]))] := hD
  have hw_4 : r_3 = (0) := hw_4
  have hw_4 := hw_4.symm
  subst hw_4
  refine k_nrm (y := 0) rfl ?_
  refine lv_if_eq (tgt := 25) hx hb dX8_code_10 (by decide) (fun _ => ?_) (fun c9 => absurd (by decide) c9)
  refine lv_iconst (v := 0) hx hb dX8_code_25 (by decide) ?_
  have hP9 : va_P D vwCl [(mo, .inr (8, [.ref ms, .int sv, .ref mb, .int ty, .int 1, .ref mk, .int ml, .ref mfd, .int mf, .int sp, .int on, .int tw])), (ms, .inl (K, 889, .inl sf))] H := hP.sub [1, 0] rfl
  have hD9 : va_D A [(mo, .inr (8, [.ref ms, .int sv, .ref mb, .int ty, .int 1, .ref mk, .int ml, .ref mfd, .int mf, .int sp, .int on, .int tw])), (ms, .inl (K, 889, .inl sf))] := hD.sub [1, 0] (by decide) rfl
  have hK9 : va_K D vwCl [] s := hK.sub [] rfl
  exact W.iret (v := 0) hx hb hr (fun t ht9 hW9 => ⟨⟨0, (), rfl, by first | rfl | trivial | (simp only [if_true, if_false, reduceIte, and_self]; done) | simp_all, ⟨by rw [ht9]; exact hP9, va_K.moved hW9.alike hK9, hD9⟩⟩, hS.F ht9⟩) hS.2.2 dX8_code_26
set_option maxHeartbeats 4000000 in
set_option maxRecDepth 100000 in
theorem c_M_codeLength (l : Launch) (D : va_G) (mo : Nat) (ms : Nat) (sv : Int32) (mb : Nat) (ty : Int32) (th : Int32) (mk : Nat) (ml : Int32) (mfd : Nat) (mf : Int32) (sp : Int32) (on : Int32) (tw : Int32) (K : ClassId) (sf : Nat → Int32) (x : ST) (en : Nat) (hR : RS x sf) (hbx : bST x) (hen9 : en < s_k x) (sz : Nat) : k_Mi (S := Unit) l D yX8_codeLength cX8_codeLength 2 (some .int) 2 0 0 43 [.ref mo, .int (nI en)] [(mo, .inr (8, [.ref ms, .int sv, .ref mb, .int ty, .int th, .ref mk, .int ml, .ref mfd, .int mf, .int sp, .int on, .int tw])), (ms, .inl (K, 889, .inl sf))] [(K, .int)] (fun (r : Int32) (_ : Unit) => r = (s_g x en)) (fun _ => [(mo, .inr (8, [.ref ms, .int sv, .ref mb, .int ty, .int 0, .ref mk, .int ml, .ref mfd, .int mf, .int sp, .int on, .int tw])), (ms, .inl (K, 889, .inl sf))]) (fun _ => []) sz := by
  refine Met.ofW (cc := cX8_codeLength) (maxL := 2) (ret := (some .int)) (by decide) rfl ?_
  intro p e s m args below meth c s₁ B hml hv
  obtain ⟨rfl, hsz, hP, hK, hD0, hG⟩ := hv
  have hx := B.exec
  have hb := B.bytes
  have hr := B.returns
  have ht : ∀ v9 ∈ wsA, v9.before ([.ref mo, .int (nI en)] : List Value).toArray s = true := fun v9 h9 => atoms_spec (ws := k_ws yX8_codeLength cX8_codeLength 2 (some .int)) B.pre v9 (List.mem_cons_of_mem _ h9)
  have hown : s.vm.findClass RX8 = some m.cls := findClass_of_methodNamed B.named
  have S0 : k_C p s m ([.ref mo, .int (nI en)] : List Value).toArray c cX8_codeLength 2 RX8 := ⟨hx, hb, hml, hown, ht⟩
  have hlocks := B.notSynchronized
  subst hsz
  have hD := hD0.self (sz := s.heap.size)
  generalize hAe : va_A [(mo, .inr (8, [.ref ms, .int sv, .ref mb, .int ty, .int th, .ref mk, .int ml, .ref mfd, .int mf, .int sp, .int on, .int tw])), (ms, .inl (K, 889, .inl sf))] s.heap.size = A at hD hG ⊢
  have hA : ∀ q : Nat, s.heap.size ≤ q → A q := fun q h => by rw [← hAe]; exact Or.inr h
  have hS : va_S A s.heap s.heap [] := va_S.rf
  have hl := lv_entry ([.ref mo, .int (nI en)]) (n := 2) (Nat.le_of_ble_eq_true rfl)
  rw [lg_entry_eq]
  generalize (lg_sl ([.ref mo, .int (nI en)]) ++ List.replicate (2 - (lg_sl ([.ref mo, .int (nI en)])).length) Slot.unset).toArray = ls at hl ⊢
  have hl : lv_has ls 2 [(0, .ref mo), (1, .int (nI en))] := hl
  have hP : va_P D vwCl [(mo, .inr (8, [.ref ms, .int sv, .ref mb, .int ty, .int th, .ref mk, .int ml, .ref mfd, .int mf, .int sp, .int on, .int tw])), (ms, .inl (K, 889, .inl sf))] s.heap := hP
  have hR9 := hR
  have hlx9 : True := trivial
  obtain ⟨q0, q1, q2, h51, q4, h93, ⟨h94, q7⟩, h125, h126⟩ := hR
  obtain ⟨b1, b2, b3, b4⟩ := bST_le hbx
  refine lv_aload_n hx hb dX8_codeLength_0 rfl (lv_at hl 0 rfl) ?_
  refine lv_aload_n hx hb dX8_codeLength_1 rfl (lv_at hl 0 rfl) ?_
  refine lv_iload_n hx hb dX8_codeLength_2 rfl (lv_at hl 1 rfl) ?_
  have ct := k_cut_of (wc := [(mo, .inr (8, [.ref ms, .int sv, .ref mb, .int ty, .int th, .ref mk, .int ml, .ref mfd, .int mf, .int sp, .int on, .int tw])), (ms, .inl (K, 889, .inl sf))]) (wr := []) (tc := [(K, .int)]) hG hS hA hK hP hD [0, 1] [] [0] rfl rfl (by decide) (by decide) (by decide) rfl
  refine k_endi (As := [.ref mo, .int (nI en)]) ct (k_runV (As := [.int (nI en)]) (rest := [.ref mo]) S0 Lv_X8_141 rfl (ci := 8) (q0 := 0) rfl rfl ct (c_M_isCode1 l D mo ms sv mb ty th mk ml mfd mf sp on tw K sf (nI en) (s_k x) (inR_in hen9 (by omega)) (by assumption) (by first | assumption | omega) s.heap.size) hl.1 rfl (Nat.le_of_ble_eq_true rfl) rfl dX8_codeLength_3 ⟨⟨Nat.le_of_ble_eq_true rfl, Nat.le_of_ble_eq_true rfl⟩, Nat.le_of_ble_eq_true rfl, Nat.le_of_ble_eq_true rfl⟩) rfl rfl (fun r_1 _ H locs hw_2 hP hD hK hS => ?_)
  have hK : va_K D vwCl [(K, .int)] s := hK
  have hP : va_P D vwCl [(mo, .inr (8, [.ref ms, .int sv, .ref mb, .int ty, .int th, .ref mk, .int ml, .ref mfd, .int mf, .int sp, .int on, .int tw])), (ms, .inl (K, 889, .inl sf))] H := hP
  have hD : va_D A [(mo, .inr (8, [.ref ms, .int sv, .ref mb, .int ty, .int th, .ref mk, .int ml, .ref mfd, .int mf, .int sp, .int on, .int tw])), (ms, .inl (K, 889, .inl sf))] := hD
  have hw_2 : r_1 = (1) := hw_2
  have hw_2 := hw_2.symm
  subst hw_2
  refine k_nrm (y := 1) rfl ?_
  refine lv_iconst (v := 1) hx hb dX8_codeLength_6 (by decide) ?_
  have ct := k_cut_of (wc := [(mo, .inr (8, [.ref ms, .int sv, .ref mb, .int ty, .int th, .ref mk, .int ml, .ref mfd, .int mf, .int sp, .int on, .int tw]))]) (wr := [(ms, .inl (K, 889, .inl sf))]) (tc := []) hG hS hA hK hP hD [0] [1] [] rfl rfl (by decide) (by decide) (by decide) rfl
  refine k_endi (As := [.ref mo, .int 1, .int 1]) ct (k_runV (As := [.int 1, .int 1]) (rest := []) S0 Lv_X8_58 rfl (ci := 8) (q0 := 0) rfl rfl ct (c_M_goes11 l D mo ms sv mb ty th mk ml mfd mf sp on tw H.size) hl.1 rfl (Nat.le_of_ble_eq_true rfl) rfl dX8_codeLength_7 ⟨⟨Nat.le_of_ble_eq_true rfl, Nat.le_of_ble_eq_true rfl⟩, Nat.le_of_ble_eq_true rfl, Nat.le_of_ble_eq_true rfl⟩) rfl rfl (fun r_3 _ H locs hw_4 hP hD hK hS => ?_)
  have hK : va_K D vwCl [(K, .int)] s := hK
  have hP : va_P D vwCl [(ms, .inl (K, 889, .inl sf)), (mo, .inr (8, [.ref ms, .int sv, .ref mb, .int ty, .int 0, .ref mk, .int ml, .ref mfd, .int mf, .int sp, .int on, .int tw]))] H := hP
  have hD : va_D A [(ms, .inl (K, 889, .inl sf)), (mo, .inr (8, [.ref ms, .int sv, .ref mb, .int ty, .int 0, .ref mk, .int ml, .ref mfd, .int mf, .int sp, .int on, .int tw]))] := hD
  have hw_4 : r_3 = (1) := hw_4
  have hw_4 := hw_4.symm
  subst hw_4
  refine k_nrm (y := 1) rfl ?_
  refine lv_if_eq (tgt := 25) hx hb dX8_codeLength_10 (by decide) (fun c9 => absurd c9 (by decide)) (fun _ => ?_)
  refine lv_aload_n hx hb dX8_codeLength_13 rfl (lv_at hl 0 rfl) ?_
  refine va_get (D := D) (ci := 8) (v := .ref ms) (C := RX8) (T := TX8) (N := 12) hx hb ht inA_X8 hown hK hP 1 rfl rfl 0 (by decide) (ht _ lf_X8_7) (fun _ h9 => h9) rfl dX8_codeLength_14 ?_
  refine lv_bipush (v := 105) hx hb dX8_codeLength_17 (by decide) ?_
  refine lv_iload_n hx hb dX8_codeLength_19 rfl (lv_at hl 1 rfl) ?_
  refine lv_iadd hx hb dX8_codeLength_20 ?_
  refine k_nrm (y := (nI (105 + en))) (nI_add 105 en) ?_
  refine va_iald hx hb hK hP 0 0 rfl rfl (vp_in_nI (by omega) (by decide)) dX8_codeLength_21 ?_
  refine k_nrm (y := (s_g x en)) (by rw [nI_clamp (by omega)]; exact (q7 en hen9).2.1) ?_
  refine lv_goto (tgt := 26) hx hb dX8_codeLength_22 (by decide) ?_
  have hP9 : va_P D vwCl [(mo, .inr (8, [.ref ms, .int sv, .ref mb, .int ty, .int 0, .ref mk, .int ml, .ref mfd, .int mf, .int sp, .int on, .int tw])), (ms, .inl (K, 889, .inl sf))] H := hP.sub [1, 0] rfl
  have hD9 : va_D A [(mo, .inr (8, [.ref ms, .int sv, .ref mb, .int ty, .int 0, .ref mk, .int ml, .ref mfd, .int mf, .int sp, .int on, .int tw])), (ms, .inl (K, 889, .inl sf))] := hD.sub [1, 0] (by decide) rfl
  have hK9 : va_K D vwCl [] s := hK.sub [] rfl
  exact W.iret (v := (s_g x en)) hx hb hr (fun t ht9 hW9 => ⟨⟨(s_g x en), (), rfl, by first | rfl | trivial | (simp only [if_true, if_false, reduceIte, and_self]; done) | simp_all, ⟨by rw [ht9]; exact hP9, va_K.moved hW9.alike hK9, hD9⟩⟩, hS.F ht9⟩) hS.2.2 dX8_codeLength_26
set_option maxHeartbeats 4000000 in
set_option maxRecDepth 100000 in
theorem c_M_codeLengthX (l : Launch) (D : va_G) (mo : Nat) (ms : Nat) (sv : Int32) (mb : Nat) (ty : Int32) (th : Int32) (mk : Nat) (ml : Int32) (mfd : Nat) (mf : Int32) (sp : Int32) (on : Int32) (tw : Int32) (K : ClassId) (sf : Nat → Int32) (x : ST) (v : Int32) (hR : RS x sf) (hbx : bST x) (hxi : inR v (nI (s_k x)) = 0) (sz : Nat) : k_Mi (S := Unit) l D yX8_codeLength cX8_codeLength 2 (some .int) 2 0 0 43 [.ref mo, .int v] [(mo, .inr (8, [.ref ms, .int sv, .ref mb, .int ty, .int th, .ref mk, .int ml, .ref mfd, .int mf, .int sp, .int on, .int tw])), (ms, .inl (K, 889, .inl sf))] [(K, .int)] (fun (r : Int32) (_ : Unit) => r = (0)) (fun _ => [(mo, .inr (8, [.ref ms, .int sv, .ref mb, .int ty, .int 1, .ref mk, .int ml, .ref mfd, .int mf, .int sp, .int on, .int tw])), (ms, .inl (K, 889, .inl sf))]) (fun _ => []) sz := by
  refine Met.ofW (cc := cX8_codeLength) (maxL := 2) (ret := (some .int)) (by decide) rfl ?_
  intro p e s m args below meth c s₁ B hml hv
  obtain ⟨rfl, hsz, hP, hK, hD0, hG⟩ := hv
  have hx := B.exec
  have hb := B.bytes
  have hr := B.returns
  have ht : ∀ v9 ∈ wsA, v9.before ([.ref mo, .int v] : List Value).toArray s = true := fun v9 h9 => atoms_spec (ws := k_ws yX8_codeLength cX8_codeLength 2 (some .int)) B.pre v9 (List.mem_cons_of_mem _ h9)
  have hown : s.vm.findClass RX8 = some m.cls := findClass_of_methodNamed B.named
  have S0 : k_C p s m ([.ref mo, .int v] : List Value).toArray c cX8_codeLength 2 RX8 := ⟨hx, hb, hml, hown, ht⟩
  have hlocks := B.notSynchronized
  subst hsz
  have hD := hD0.self (sz := s.heap.size)
  generalize hAe : va_A [(mo, .inr (8, [.ref ms, .int sv, .ref mb, .int ty, .int th, .ref mk, .int ml, .ref mfd, .int mf, .int sp, .int on, .int tw])), (ms, .inl (K, 889, .inl sf))] s.heap.size = A at hD hG ⊢
  have hA : ∀ q : Nat, s.heap.size ≤ q → A q := fun q h => by rw [← hAe]; exact Or.inr h
  have hS : va_S A s.heap s.heap [] := va_S.rf
  have hl := lv_entry ([.ref mo, .int v]) (n := 2) (Nat.le_of_ble_eq_true rfl)
  rw [lg_entry_eq]
  generalize (lg_sl ([.ref mo, .int v]) ++ List.replicate (2 - (lg_sl ([.ref mo, .int v])).length) Slot.unset).toArray = ls at hl ⊢
  have hl : lv_has ls 2 [(0, .ref mo), (1, .int v)] := hl
  have hP : va_P D vwCl [(mo, .inr (8, [.ref ms, .int sv, .ref mb, .int ty, .int th, .ref mk, .int ml, .ref mfd, .int mf, .int sp, .int on, .int tw])), (ms, .inl (K, 889, .inl sf))] s.heap := hP
  have hR9 := hR
  have hlx9 : True := trivial
  obtain ⟨q0, q1, q2, h51, q4, h93, ⟨h94, q7⟩, h125, h126⟩ := hR
  obtain ⟨b1, b2, b3, b4⟩ := bST_le hbx
  refine lv_aload_n hx hb dX8_codeLength_0 rfl (lv_at hl 0 rfl) ?_
  refine lv_aload_n hx hb dX8_codeLength_1 rfl (lv_at hl 0 rfl) ?_
  refine lv_iload_n hx hb dX8_codeLength_2 rfl (lv_at hl 1 rfl) ?_
  have ct := k_cut_of (wc := [(mo, .inr (8, [.ref ms, .int sv, .ref mb, .int ty, .int th, .ref mk, .int ml, .ref mfd, .int mf, .int sp, .int on, .int tw])), (ms, .inl (K, 889, .inl sf))]) (wr := []) (tc := [(K, .int)]) hG hS hA hK hP hD [0, 1] [] [0] rfl rfl (by decide) (by decide) (by decide) rfl
  refine k_endi (As := [.ref mo, .int v]) ct (k_runV (As := [.int v]) (rest := [.ref mo]) S0 Lv_X8_141 rfl (ci := 8) (q0 := 0) rfl rfl ct (c_M_isCode0 l D mo ms sv mb ty th mk ml mfd mf sp on tw K sf v (s_k x) hxi (by assumption) (by first | assumption | omega) s.heap.size) hl.1 rfl (Nat.le_of_ble_eq_true rfl) rfl dX8_codeLength_3 ⟨⟨Nat.le_of_ble_eq_true rfl, Nat.le_of_ble_eq_true rfl⟩, Nat.le_of_ble_eq_true rfl, Nat.le_of_ble_eq_true rfl⟩) rfl rfl (fun r_1 _ H locs hw_2 hP hD hK hS => ?_)
  have hK : va_K D vwCl [(K, .int)] s := hK
  have hP : va_P D vwCl [(mo, .inr (8, [.ref ms, .int sv, .ref mb, .int ty, .int th, .ref mk, .int ml, .ref mfd, .int mf, .int sp, .int on, .int tw])), (ms, .inl (K, 889, .inl sf))] H := hP
  have hD : va_D A [(mo, .inr (8, [.ref ms, .int sv, .ref mb, .int ty, .int th, .ref mk, .int ml, .ref mfd, .int mf, .int sp, .int on, .int tw])), (ms, .inl (K, 889, .inl sf))] := hD
  have hw_2 : r_1 = (0) := hw_2
  have hw_2 := hw_2.symm
  subst hw_2
  refine k_nrm (y := 0) rfl ?_
  refine lv_iconst (v := 1) hx hb dX8_codeLength_6 (by decide) ?_
  have ct := k_cut_of (wc := [(mo, .inr (8, [.ref ms, .int sv, .ref mb, .int ty, .int th, .ref mk, .int ml, .ref mfd, .int mf, .int sp, .int on, .int tw]))]) (wr := [(ms, .inl (K, 889, .inl sf))]) (tc := []) hG hS hA hK hP hD [0] [1] [] rfl rfl (by decide) (by decide) (by decide) rfl
  refine k_endi (As := [.ref mo, .int 0, .int 1]) ct (k_runV (As := [.int 0, .int 1]) (rest := []) S0 Lv_X8_58 rfl (ci := 8) (q0 := 0) rfl rfl ct (c_M_goes0 l D mo ms sv mb ty th mk ml mfd mf sp on tw 1 H.size) hl.1 rfl (Nat.le_of_ble_eq_true rfl) rfl dX8_codeLength_7 ⟨⟨Nat.le_of_ble_eq_true rfl, Nat.le_of_ble_eq_true rfl⟩, Nat.le_of_ble_eq_true rfl, Nat.le_of_ble_eq_true rfl⟩) rfl rfl (fun r_3 _ H locs hw_4 hP hD hK hS => ?_)
  have hK : va_K D vwCl [(K, .int)] s := hK
  have hP : va_P D vwCl [(ms, .inl (K, 889, .inl sf)), (mo, .inr (8, [.ref ms, .int sv, .ref mb, .int ty, .int 1, .ref mk, .int ml, .ref mfd, .int mf, .int sp, .int on, .int tw]))] H := hP
  have hD : va_D A [(ms, .inl (K, 889, .inl sf)), (mo, .inr (8, [.ref ms, .int sv, .ref mb, .int ty, .int 1, .ref mk, .int ml, .ref mfd, .int mf, .int sp, .int on, .int tw]))] := hD
  have hw_4 : r_3 = (0) := hw_4
  have hw_4 := hw_4.symm
  subst hw_4
  refine k_nrm (y := 0) rfl ?_
  refine lv_if_eq (tgt := 25) hx hb dX8_codeLength_10 (by decide) (fun _ => ?_) (fun c9 => absurd (by decide) c9)
  refine lv_iconst (v := 0) hx hb dX8_codeLength_25 (by decide) ?_
  have hP9 : va_P D vwCl [(mo, .inr (8, [.ref ms, .int sv, .ref mb, .int ty, .int 1, .ref mk, .int ml, .ref mfd, .int mf, .int sp, .int on, .int tw])), (ms, .inl (K, 889, .inl sf))] H := hP.sub [1, 0] rfl
  have hD9 : va_D A [(mo, .inr (8, [.ref ms, .int sv, .ref mb, .int ty, .int 1, .ref mk, .int ml, .ref mfd, .int mf, .int sp, .int on, .int tw])), (ms, .inl (K, 889, .inl sf))] := hD.sub [1, 0] (by decide) rfl
  have hK9 : va_K D vwCl [] s := hK.sub [] rfl
  exact W.iret (v := 0) hx hb hr (fun t ht9 hW9 => ⟨⟨0, (), rfl, by first | rfl | trivial | (simp only [if_true, if_false, reduceIte, and_self]; done) | simp_all, ⟨by rw [ht9]; exact hP9, va_K.moved hW9.alike hK9, hD9⟩⟩, hS.F ht9⟩) hS.2.2 dX8_codeLength_26
set_option maxHeartbeats 4000000 in
set_option maxRecDepth 100000 in
theorem c_M_count (l : Launch) (D : va_G) (mo : Nat) (ms : Nat) (sv : Int32) (mb : Nat) (ty : Int32) (th : Int32) (mk : Nat) (ml : Int32) (mfd : Nat) (mf : Int32) (sp : Int32) (on : Int32) (tw : Int32) (K : ClassId) (sf : Nat → Int32) (x : ST) (en : Nat) (hR : RS x sf) (hbx : bST x) (hen9 : en < s_k x) (sz : Nat) : k_Mi (S := Unit) l D yX8_count cX8_count 2 (some .int) 2 0 0 43 [.ref mo, .int (nI en)] [(mo, .inr (8, [.ref ms, .int sv, .ref mb, .int ty, .int th, .ref mk, .int ml, .ref mfd, .int mf, .int sp, .int on, .int tw])), (ms, .inl (K, 889, .inl sf))] [(K, .int)] (fun (r : Int32) (_ : Unit) => r = (s_c x en)) (fun _ => [(mo, .inr (8, [.ref ms, .int sv, .ref mb, .int ty, .int 0, .ref mk, .int ml, .ref mfd, .int mf, .int sp, .int on, .int tw])), (ms, .inl (K, 889, .inl sf))]) (fun _ => []) sz := by
  refine Met.ofW (cc := cX8_count) (maxL := 2) (ret := (some .int)) (by decide) rfl ?_
  intro p e s m args below meth c s₁ B hml hv
  obtain ⟨rfl, hsz, hP, hK, hD0, hG⟩ := hv
  have hx := B.exec
  have hb := B.bytes
  have hr := B.returns
  have ht : ∀ v9 ∈ wsA, v9.before ([.ref mo, .int (nI en)] : List Value).toArray s = true := fun v9 h9 => atoms_spec (ws := k_ws yX8_count cX8_count 2 (some .int)) B.pre v9 (List.mem_cons_of_mem _ h9)
  have hown : s.vm.findClass RX8 = some m.cls := findClass_of_methodNamed B.named
  have S0 : k_C p s m ([.ref mo, .int (nI en)] : List Value).toArray c cX8_count 2 RX8 := ⟨hx, hb, hml, hown, ht⟩
  have hlocks := B.notSynchronized
  subst hsz
  have hD := hD0.self (sz := s.heap.size)
  generalize hAe : va_A [(mo, .inr (8, [.ref ms, .int sv, .ref mb, .int ty, .int th, .ref mk, .int ml, .ref mfd, .int mf, .int sp, .int on, .int tw])), (ms, .inl (K, 889, .inl sf))] s.heap.size = A at hD hG ⊢
  have hA : ∀ q : Nat, s.heap.size ≤ q → A q := fun q h => by rw [← hAe]; exact Or.inr h
  have hS : va_S A s.heap s.heap [] := va_S.rf
  have hl := lv_entry ([.ref mo, .int (nI en)]) (n := 2) (Nat.le_of_ble_eq_true rfl)
  rw [lg_entry_eq]
  generalize (lg_sl ([.ref mo, .int (nI en)]) ++ List.replicate (2 - (lg_sl ([.ref mo, .int (nI en)])).length) Slot.unset).toArray = ls at hl ⊢
  have hl : lv_has ls 2 [(0, .ref mo), (1, .int (nI en))] := hl
  have hP : va_P D vwCl [(mo, .inr (8, [.ref ms, .int sv, .ref mb, .int ty, .int th, .ref mk, .int ml, .ref mfd, .int mf, .int sp, .int on, .int tw])), (ms, .inl (K, 889, .inl sf))] s.heap := hP
  have hR9 := hR
  have hlx9 : True := trivial
  obtain ⟨q0, q1, q2, h51, q4, h93, ⟨h94, q7⟩, h125, h126⟩ := hR
  obtain ⟨b1, b2, b3, b4⟩ := bST_le hbx
  refine lv_aload_n hx hb dX8_count_0 rfl (lv_at hl 0 rfl) ?_
  refine lv_aload_n hx hb dX8_count_1 rfl (lv_at hl 0 rfl) ?_
  refine lv_iload_n hx hb dX8_count_2 rfl (lv_at hl 1 rfl) ?_
  have ct := k_cut_of (wc := [(mo, .inr (8, [.ref ms, .int sv, .ref mb, .int ty, .int th, .ref mk, .int ml, .ref mfd, .int mf, .int sp, .int on, .int tw])), (ms, .inl (K, 889, .inl sf))]) (wr := []) (tc := [(K, .int)]) hG hS hA hK hP hD [0, 1] [] [0] rfl rfl (by decide) (by decide) (by decide) rfl
  refine k_endi (As := [.ref mo, .int (nI en)]) ct (k_runV (As := [.int (nI en)]) (rest := [.ref mo]) S0 Lv_X8_141 rfl (ci := 8) (q0 := 0) rfl rfl ct (c_M_isCode1 l D mo ms sv mb ty th mk ml mfd mf sp on tw K sf (nI en) (s_k x) (inR_in hen9 (by omega)) (by assumption) (by first | assumption | omega) s.heap.size) hl.1 rfl (Nat.le_of_ble_eq_true rfl) rfl dX8_count_3 ⟨⟨Nat.le_of_ble_eq_true rfl, Nat.le_of_ble_eq_true rfl⟩, Nat.le_of_ble_eq_true rfl, Nat.le_of_ble_eq_true rfl⟩) rfl rfl (fun r_1 _ H locs hw_2 hP hD hK hS => ?_)
  have hK : va_K D vwCl [(K, .int)] s := hK
  have hP : va_P D vwCl [(mo, .inr (8, [.ref ms, .int sv, .ref mb, .int ty, .int th, .ref mk, .int ml, .ref mfd, .int mf, .int sp, .int on, .int tw])), (ms, .inl (K, 889, .inl sf))] H := hP
  have hD : va_D A [(mo, .inr (8, [.ref ms, .int sv, .ref mb, .int ty, .int th, .ref mk, .int ml, .ref mfd, .int mf, .int sp, .int on, .int tw])), (ms, .inl (K, 889, .inl sf))] := hD
  have hw_2 : r_1 = (1) := hw_2
  have hw_2 := hw_2.symm
  subst hw_2
  refine k_nrm (y := 1) rfl ?_
  refine lv_iconst (v := 1) hx hb dX8_count_6 (by decide) ?_
  have ct := k_cut_of (wc := [(mo, .inr (8, [.ref ms, .int sv, .ref mb, .int ty, .int th, .ref mk, .int ml, .ref mfd, .int mf, .int sp, .int on, .int tw]))]) (wr := [(ms, .inl (K, 889, .inl sf))]) (tc := []) hG hS hA hK hP hD [0] [1] [] rfl rfl (by decide) (by decide) (by decide) rfl
  refine k_endi (As := [.ref mo, .int 1, .int 1]) ct (k_runV (As := [.int 1, .int 1]) (rest := []) S0 Lv_X8_58 rfl (ci := 8) (q0 := 0) rfl rfl ct (c_M_goes11 l D mo ms sv mb ty th mk ml mfd mf sp on tw H.size) hl.1 rfl (Nat.le_of_ble_eq_true rfl) rfl dX8_count_7 ⟨⟨Nat.le_of_ble_eq_true rfl, Nat.le_of_ble_eq_true rfl⟩, Nat.le_of_ble_eq_true rfl, Nat.le_of_ble_eq_true rfl⟩) rfl rfl (fun r_3 _ H locs hw_4 hP hD hK hS => ?_)
  have hK : va_K D vwCl [(K, .int)] s := hK
  have hP : va_P D vwCl [(ms, .inl (K, 889, .inl sf)), (mo, .inr (8, [.ref ms, .int sv, .ref mb, .int ty, .int 0, .ref mk, .int ml, .ref mfd, .int mf, .int sp, .int on, .int tw]))] H := hP
  have hD : va_D A [(ms, .inl (K, 889, .inl sf)), (mo, .inr (8, [.ref ms, .int sv, .ref mb, .int ty, .int 0, .ref mk, .int ml, .ref mfd, .int mf, .int sp, .int on, .int tw]))] := hD
  have hw_4 : r_3 = (1) := hw_4
  have hw_4 := hw_4.symm
  subst hw_4
  refine k_nrm (y := 1) rfl ?_
  refine lv_if_eq (tgt := 25) hx hb dX8_count_10 (by decide) (fun c9 => absurd c9 (by decide)) (fun _ => ?_)
  refine lv_aload_n hx hb dX8_count_13 rfl (lv_at hl 0 rfl) ?_
  refine va_get (D := D) (ci := 8) (v := .ref ms) (C := RX8) (T := TX8) (N := 12) hx hb ht inA_X8 hown hK hP 1 rfl rfl 0 (by decide) (ht _ lf_X8_7) (fun _ h9 => h9) rfl dX8_count_14 ?_
  refine lv_bipush (v := 115) hx hb dX8_count_17 (by decide) ?_
  refine lv_iload_n hx hb dX8_count_19 rfl (lv_at hl 1 rfl) ?_
  refine lv_iadd hx hb dX8_count_20 ?_
  refine k_nrm (y := (nI (115 + en))) (nI_add 115 en) ?_
  refine va_iald hx hb hK hP 0 0 rfl rfl (vp_in_nI (by omega) (by decide)) dX8_count_21 ?_
  refine k_nrm (y := (s_c x en)) (by rw [nI_clamp (by omega)]; exact (q7 en hen9).2.2) ?_
  refine lv_goto (tgt := 26) hx hb dX8_count_22 (by decide) ?_
  have hP9 : va_P D vwCl [(mo, .inr (8, [.ref ms, .int sv, .ref mb, .int ty, .int 0, .ref mk, .int ml, .ref mfd, .int mf, .int sp, .int on, .int tw])), (ms, .inl (K, 889, .inl sf))] H := hP.sub [1, 0] rfl
  have hD9 : va_D A [(mo, .inr (8, [.ref ms, .int sv, .ref mb, .int ty, .int 0, .ref mk, .int ml, .ref mfd, .int mf, .int sp, .int on, .int tw])), (ms, .inl (K, 889, .inl sf))] := hD.sub [1, 0] (by decide) rfl
  have hK9 : va_K D vwCl [] s := hK.sub [] rfl
  exact W.iret (v := (s_c x en)) hx hb hr (fun t ht9 hW9 => ⟨⟨(s_c x en), (), rfl, by first | rfl | trivial | (simp only [if_true, if_false, reduceIte, and_self]; done) | simp_all, ⟨by rw [ht9]; exact hP9, va_K.moved hW9.alike hK9, hD9⟩⟩, hS.F ht9⟩) hS.2.2 dX8_count_26
set_option maxHeartbeats 4000000 in
set_option maxRecDepth 100000 in
theorem c_M_countX (l : Launch) (D : va_G) (mo : Nat) (ms : Nat) (sv : Int32) (mb : Nat) (ty : Int32) (th : Int32) (mk : Nat) (ml : Int32) (mfd : Nat) (mf : Int32) (sp : Int32) (on : Int32) (tw : Int32) (K : ClassId) (sf : Nat → Int32) (x : ST) (v : Int32) (hR : RS x sf) (hbx : bST x) (hxi : inR v (nI (s_k x)) = 0) (sz : Nat) : k_Mi (S := Unit) l D yX8_count cX8_count 2 (some .int) 2 0 0 43 [.ref mo, .int v] [(mo, .inr (8, [.ref ms, .int sv, .ref mb, .int ty, .int th, .ref mk, .int ml, .ref mfd, .int mf, .int sp, .int on, .int tw])), (ms, .inl (K, 889, .inl sf))] [(K, .int)] (fun (r : Int32) (_ : Unit) => r = (0)) (fun _ => [(mo, .inr (8, [.ref ms, .int sv, .ref mb, .int ty, .int 1, .ref mk, .int ml, .ref mfd, .int mf, .int sp, .int on, .int tw])), (ms, .inl (K, 889, .inl sf))]) (fun _ => []) sz := by
  refine Met.ofW (cc := cX8_count) (maxL := 2) (ret := (some .int)) (by decide) rfl ?_
  intro p e s m args below meth c s₁ B hml hv
  obtain ⟨rfl, hsz, hP, hK, hD0, hG⟩ := hv
  have hx := B.exec
  have hb := B.bytes
  have hr := B.returns
  have ht : ∀ v9 ∈ wsA, v9.before ([.ref mo, .int v] : List Value).toArray s = true := fun v9 h9 => atoms_spec (ws := k_ws yX8_count cX8_count 2 (some .int)) B.pre v9 (List.mem_cons_of_mem _ h9)
  have hown : s.vm.findClass RX8 = some m.cls := findClass_of_methodNamed B.named
  have S0 : k_C p s m ([.ref mo, .int v] : List Value).toArray c cX8_count 2 RX8 := ⟨hx, hb, hml, hown, ht⟩
  have hlocks := B.notSynchronized
  subst hsz
  have hD := hD0.self (sz := s.heap.size)
  generalize hAe : va_A [(mo, .inr (8, [.ref ms, .int sv, .ref mb, .int ty, .int th, .ref mk, .int ml, .ref mfd, .int mf, .int sp, .int on, .int tw])), (ms, .inl (K, 889, .inl sf))] s.heap.size = A at hD hG ⊢
  have hA : ∀ q : Nat, s.heap.size ≤ q → A q := fun q h => by rw [← hAe]; exact Or.inr h
  have hS : va_S A s.heap s.heap [] := va_S.rf
  have hl := lv_entry ([.ref mo, .int v]) (n := 2) (Nat.le_of_ble_eq_true rfl)
  rw [lg_entry_eq]
  generalize (lg_sl ([.ref mo, .int v]) ++ List.replicate (2 - (lg_sl ([.ref mo, .int v])).length) Slot.unset).toArray = ls at hl ⊢
  have hl : lv_has ls 2 [(0, .ref mo), (1, .int v)] := hl
  have hP : va_P D vwCl [(mo, .inr (8, [.ref ms, .int sv, .ref mb, .int ty, .int th, .ref mk, .int ml, .ref mfd, .int mf, .int sp, .int on, .int tw])), (ms, .inl (K, 889, .inl sf))] s.heap := hP
  have hR9 := hR
  have hlx9 : True := trivial
  obtain ⟨q0, q1, q2, h51, q4, h93, ⟨h94, q7⟩, h125, h126⟩ := hR
  obtain ⟨b1, b2, b3, b4⟩ := bST_le hbx
  refine lv_aload_n hx hb dX8_count_0 rfl (lv_at hl 0 rfl) ?_
  refine lv_aload_n hx hb dX8_count_1 rfl (lv_at hl 0 rfl) ?_
  refine lv_iload_n hx hb dX8_count_2 rfl (lv_at hl 1 rfl) ?_
  have ct := k_cut_of (wc := [(mo, .inr (8, [.ref ms, .int sv, .ref mb, .int ty, .int th, .ref mk, .int ml, .ref mfd, .int mf, .int sp, .int on, .int tw])), (ms, .inl (K, 889, .inl sf))]) (wr := []) (tc := [(K, .int)]) hG hS hA hK hP hD [0, 1] [] [0] rfl rfl (by decide) (by decide) (by decide) rfl
  refine k_endi (As := [.ref mo, .int v]) ct (k_runV (As := [.int v]) (rest := [.ref mo]) S0 Lv_X8_141 rfl (ci := 8) (q0 := 0) rfl rfl ct (c_M_isCode0 l D mo ms sv mb ty th mk ml mfd mf sp on tw K sf v (s_k x) hxi (by assumption) (by first | assumption | omega) s.heap.size) hl.1 rfl (Nat.le_of_ble_eq_true rfl) rfl dX8_count_3 ⟨⟨Nat.le_of_ble_eq_true rfl, Nat.le_of_ble_eq_true rfl⟩, Nat.le_of_ble_eq_true rfl, Nat.le_of_ble_eq_true rfl⟩) rfl rfl (fun r_1 _ H locs hw_2 hP hD hK hS => ?_)
  have hK : va_K D vwCl [(K, .int)] s := hK
  have hP : va_P D vwCl [(mo, .inr (8, [.ref ms, .int sv, .ref mb, .int ty, .int th, .ref mk, .int ml, .ref mfd, .int mf, .int sp, .int on, .int tw])), (ms, .inl (K, 889, .inl sf))] H := hP
  have hD : va_D A [(mo, .inr (8, [.ref ms, .int sv, .ref mb, .int ty, .int th, .ref mk, .int ml, .ref mfd, .int mf, .int sp, .int on, .int tw])), (ms, .inl (K, 889, .inl sf))] := hD
  have hw_2 : r_1 = (0) := hw_2
  have hw_2 := hw_2.symm
  subst hw_2
  refine k_nrm (y := 0) rfl ?_
  refine lv_iconst (v := 1) hx hb dX8_count_6 (by decide) ?_
  have ct := k_cut_of (wc := [(mo, .inr (8, [.ref ms, .int sv, .ref mb, .int ty, .int th, .ref mk, .int ml, .ref mfd, .int mf, .int sp, .int on, .int tw]))]) (wr := [(ms, .inl (K, 889, .inl sf))]) (tc := []) hG hS hA hK hP hD [0] [1] [] rfl rfl (by decide) (by decide) (by decide) rfl
  refine k_endi (As := [.ref mo, .int 0, .int 1]) ct (k_runV (As := [.int 0, .int 1]) (rest := []) S0 Lv_X8_58 rfl (ci := 8) (q0 := 0) rfl rfl ct (c_M_goes0 l D mo ms sv mb ty th mk ml mfd mf sp on tw 1 H.size) hl.1 rfl (Nat.le_of_ble_eq_true rfl) rfl dX8_count_7 ⟨⟨Nat.le_of_ble_eq_true rfl, Nat.le_of_ble_eq_true rfl⟩, Nat.le_of_ble_eq_true rfl, Nat.le_of_ble_eq_true rfl⟩) rfl rfl (fun r_3 _ H locs hw_4 hP hD hK hS => ?_)
  have hK : va_K D vwCl [(K, .int)] s := hK
  have hP : va_P D vwCl [(ms, .inl (K, 889, .inl sf)), (mo, .inr (8, [.ref ms, .int sv, .ref mb, .int ty, .int 1, .ref mk, .int ml, .ref mfd, .int mf, .int sp, .int on, .int tw]))] H := hP
  have hD : va_D A [(ms, .inl (K, 889, .inl sf)), (mo, .inr (8, [.ref ms, .int sv, .ref mb, .int ty, .int 1, .ref mk, .int ml, .ref mfd, .int mf, .int sp, .int on, .int tw]))] := hD
  have hw_4 : r_3 = (0) := hw_4
  have hw_4 := hw_4.symm
  subst hw_4
  refine k_nrm (y := 0) rfl ?_
  refine lv_if_eq (tgt := 25) hx hb dX8_count_10 (by decide) (fun _ => ?_) (fun c9 => absurd (by decide) c9)
  refine lv_iconst (v := 0) hx hb dX8_count_25 (by decide) ?_
  have hP9 : va_P D vwCl [(mo, .inr (8, [.ref ms, .int sv, .ref mb, .int ty, .int 1, .ref mk, .int ml, .ref mfd, .int mf, .int sp, .int on, .int tw])), (ms, .inl (K, 889, .inl sf))] H := hP.sub [1, 0] rfl
  have hD9 : va_D A [(mo, .inr (8, [.ref ms, .int sv, .ref mb, .int ty, .int 1, .ref mk, .int ml, .ref mfd, .int mf, .int sp, .int on, .int tw])), (ms, .inl (K, 889, .inl sf))] := hD.sub [1, 0] (by decide) rfl
  have hK9 : va_K D vwCl [] s := hK.sub [] rfl
  exact W.iret (v := 0) hx hb hr (fun t ht9 hW9 => ⟨⟨0, (), rfl, by first | rfl | trivial | (simp only [if_true, if_false, reduceIte, and_self]; done) | simp_all, ⟨by rw [ht9]; exact hP9, va_K.moved hW9.alike hK9, hD9⟩⟩, hS.F ht9⟩) hS.2.2 dX8_count_26
set_option maxHeartbeats 4000000 in
set_option maxRecDepth 100000 in
theorem c_M_times (l : Launch) (D : va_G) (mo : Nat) (ms : Nat) (sv : Int32) (mb : Nat) (ty : Int32) (th : Int32) (mk : Nat) (ml : Int32) (mfd : Nat) (mf : Int32) (sp : Int32) (on : Int32) (tw : Int32) (K : ClassId) (sf : Nat → Int32) (x : ST) (hR : RS x sf) (hbx : bST x) (sz : Nat) : k_Mi (S := Unit) l D yX8_times cX8_times 1 (some .int) 0 0 0 0 [.ref mo] [(mo, .inr (8, [.ref ms, .int sv, .ref mb, .int ty, .int th, .ref mk, .int ml, .ref mfd, .int mf, .int sp, .int on, .int tw])), (ms, .inl (K, 889, .inl sf))] [(K, .int)] (fun (r : Int32) (_ : Unit) => r = (nI (s_tn x))) (fun _ => [(mo, .inr (8, [.ref ms, .int sv, .ref mb, .int ty, .int 0, .ref mk, .int ml, .ref mfd, .int mf, .int sp, .int on, .int tw])), (ms, .inl (K, 889, .inl sf))]) (fun _ => []) sz := by
  refine Met.ofW (cc := cX8_times) (maxL := 1) (ret := (some .int)) (by decide) rfl ?_
  intro p e s m args below meth c s₁ B hml hv
  obtain ⟨rfl, hsz, hP, hK, hD0, hG⟩ := hv
  have hx := B.exec
  have hb := B.bytes
  have hr := B.returns
  have ht : ∀ v9 ∈ wsA, v9.before ([.ref mo] : List Value).toArray s = true := fun v9 h9 => atoms_spec (ws := k_ws yX8_times cX8_times 1 (some .int)) B.pre v9 (List.mem_cons_of_mem _ h9)
  have hown : s.vm.findClass RX8 = some m.cls := findClass_of_methodNamed B.named
  have S0 : k_C p s m ([.ref mo] : List Value).toArray c cX8_times 1 RX8 := ⟨hx, hb, hml, hown, ht⟩
  have hlocks := B.notSynchronized
  subst hsz
  have hD := hD0.self (sz := s.heap.size)
  generalize hAe : va_A [(mo, .inr (8, [.ref ms, .int sv, .ref mb, .int ty, .int th, .ref mk, .int ml, .ref mfd, .int mf, .int sp, .int on, .int tw])), (ms, .inl (K, 889, .inl sf))] s.heap.size = A at hD hG ⊢
  have hA : ∀ q : Nat, s.heap.size ≤ q → A q := fun q h => by rw [← hAe]; exact Or.inr h
  have hS : va_S A s.heap s.heap [] := va_S.rf
  have hl := lv_entry ([.ref mo]) (n := 1) (Nat.le_of_ble_eq_true rfl)
  rw [lg_entry_eq]
  generalize (lg_sl ([.ref mo]) ++ List.replicate (1 - (lg_sl ([.ref mo])).length) Slot.unset).toArray = ls at hl ⊢
  have hl : lv_has ls 1 [(0, .ref mo)] := hl
  have hP : va_P D vwCl [(mo, .inr (8, [.ref ms, .int sv, .ref mb, .int ty, .int th, .ref mk, .int ml, .ref mfd, .int mf, .int sp, .int on, .int tw])), (ms, .inl (K, 889, .inl sf))] s.heap := hP
  have hR9 := hR
  have hlx9 : True := trivial
  obtain ⟨q0, q1, q2, h51, q4, h93, ⟨h94, q7⟩, h125, h126⟩ := hR
  obtain ⟨b1, b2, b3, b4⟩ := bST_le hbx
  refine lv_aload_n hx hb dX8_times_0 rfl (lv_at hl 0 rfl) ?_
  refine lv_iconst (v := 0) hx hb dX8_times_1 (by decide) ?_
  refine va_put (D := D) (ci := 8) (v := .int 0) (ty := .int) (C := RX8) (T := TX8) (N := 12) hx hb ht inA_X8 tyX8 tyX8_ok nmX8 hown hK hP hD hS 0 rfl rfl 4 (by decide) (ht _ lf_X8_23) (fun _ h9 => h9) rfl (tyX8_ok 4 (by decide)) rfl rfl (Nat.le_of_ble_eq_true rfl) dX8_times_2 (fun H locs hP hD hS => ?_)
  have hP : va_P D vwCl [(mo, .inr (8, [.ref ms, .int sv, .ref mb, .int ty, .int 0, .ref mk, .int ml, .ref mfd, .int mf, .int sp, .int on, .int tw])), (ms, .inl (K, 889, .inl sf))] H := hP
  have hD : va_D A [(mo, .inr (8, [.ref ms, .int sv, .ref mb, .int ty, .int 0, .ref mk, .int ml, .ref mfd, .int mf, .int sp, .int on, .int tw])), (ms, .inl (K, 889, .inl sf))] := hD
  refine lv_aload_n hx hb dX8_times_5 rfl (lv_at hl 0 rfl) ?_
  refine va_get (D := D) (ci := 8) (v := .ref ms) (C := RX8) (T := TX8) (N := 12) hx hb ht inA_X8 hown hK hP 0 rfl rfl 0 (by decide) (ht _ lf_X8_7) (fun _ h9 => h9) rfl dX8_times_6 ?_
  refine lv_bipush (v := 51) hx hb dX8_times_9 (by decide) ?_
  refine va_iald hx hb hK hP 1 0 rfl rfl (by unfold vp_in; decide) dX8_times_11 ?_
  refine k_nrm (y := (nI (s_tn x))) (show sf (51 : Int32).toNatClampNeg = (nI (s_tn x)) from h51) ?_
  have hP9 : va_P D vwCl [(mo, .inr (8, [.ref ms, .int sv, .ref mb, .int ty, .int 0, .ref mk, .int ml, .ref mfd, .int mf, .int sp, .int on, .int tw])), (ms, .inl (K, 889, .inl sf))] H := hP.sub [0, 1] rfl
  have hD9 : va_D A [(mo, .inr (8, [.ref ms, .int sv, .ref mb, .int ty, .int 0, .ref mk, .int ml, .ref mfd, .int mf, .int sp, .int on, .int tw])), (ms, .inl (K, 889, .inl sf))] := hD.sub [0, 1] (by decide) rfl
  have hK9 : va_K D vwCl [] s := hK.sub [] rfl
  exact W.iret (v := (nI (s_tn x))) hx hb hr (fun t ht9 hW9 => ⟨⟨(nI (s_tn x)), (), rfl, by first | rfl | trivial | (simp only [if_true, if_false, reduceIte, and_self]; done) | simp_all, ⟨by rw [ht9]; exact hP9, va_K.moved hW9.alike hK9, hD9⟩⟩, hS.F ht9⟩) hS.2.2 dX8_times_12
set_option maxHeartbeats 4000000 in
set_option maxRecDepth 100000 in
theorem c_M_codes (l : Launch) (D : va_G) (mo : Nat) (ms : Nat) (sv : Int32) (mb : Nat) (ty : Int32) (th : Int32) (mk : Nat) (ml : Int32) (mfd : Nat) (mf : Int32) (sp : Int32) (on : Int32) (tw : Int32) (K : ClassId) (sf : Nat → Int32) (x : ST) (hR : RS x sf) (hbx : bST x) (sz : Nat) : k_Mi (S := Unit) l D yX8_codes cX8_codes 1 (some .int) 0 0 0 0 [.ref mo] [(mo, .inr (8, [.ref ms, .int sv, .ref mb, .int ty, .int th, .ref mk, .int ml, .ref mfd, .int mf, .int sp, .int on, .int tw])), (ms, .inl (K, 889, .inl sf))] [(K, .int)] (fun (r : Int32) (_ : Unit) => r = (nI (s_k x))) (fun _ => [(mo, .inr (8, [.ref ms, .int sv, .ref mb, .int ty, .int 0, .ref mk, .int ml, .ref mfd, .int mf, .int sp, .int on, .int tw])), (ms, .inl (K, 889, .inl sf))]) (fun _ => []) sz := by
  refine Met.ofW (cc := cX8_codes) (maxL := 1) (ret := (some .int)) (by decide) rfl ?_
  intro p e s m args below meth c s₁ B hml hv
  obtain ⟨rfl, hsz, hP, hK, hD0, hG⟩ := hv
  have hx := B.exec
  have hb := B.bytes
  have hr := B.returns
  have ht : ∀ v9 ∈ wsA, v9.before ([.ref mo] : List Value).toArray s = true := fun v9 h9 => atoms_spec (ws := k_ws yX8_codes cX8_codes 1 (some .int)) B.pre v9 (List.mem_cons_of_mem _ h9)
  have hown : s.vm.findClass RX8 = some m.cls := findClass_of_methodNamed B.named
  have S0 : k_C p s m ([.ref mo] : List Value).toArray c cX8_codes 1 RX8 := ⟨hx, hb, hml, hown, ht⟩
  have hlocks := B.notSynchronized
  subst hsz
  have hD := hD0.self (sz := s.heap.size)
  generalize hAe : va_A [(mo, .inr (8, [.ref ms, .int sv, .ref mb, .int ty, .int th, .ref mk, .int ml, .ref mfd, .int mf, .int sp, .int on, .int tw])), (ms, .inl (K, 889, .inl sf))] s.heap.size = A at hD hG ⊢
  have hA : ∀ q : Nat, s.heap.size ≤ q → A q := fun q h => by rw [← hAe]; exact Or.inr h
  have hS : va_S A s.heap s.heap [] := va_S.rf
  have hl := lv_entry ([.ref mo]) (n := 1) (Nat.le_of_ble_eq_true rfl)
  rw [lg_entry_eq]
  generalize (lg_sl ([.ref mo]) ++ List.replicate (1 - (lg_sl ([.ref mo])).length) Slot.unset).toArray = ls at hl ⊢
  have hl : lv_has ls 1 [(0, .ref mo)] := hl
  have hP : va_P D vwCl [(mo, .inr (8, [.ref ms, .int sv, .ref mb, .int ty, .int th, .ref mk, .int ml, .ref mfd, .int mf, .int sp, .int on, .int tw])), (ms, .inl (K, 889, .inl sf))] s.heap := hP
  have hR9 := hR
  have hlx9 : True := trivial
  obtain ⟨q0, q1, q2, h51, q4, h93, ⟨h94, q7⟩, h125, h126⟩ := hR
  obtain ⟨b1, b2, b3, b4⟩ := bST_le hbx
  refine lv_aload_n hx hb dX8_codes_0 rfl (lv_at hl 0 rfl) ?_
  refine lv_iconst (v := 0) hx hb dX8_codes_1 (by decide) ?_
  refine va_put (D := D) (ci := 8) (v := .int 0) (ty := .int) (C := RX8) (T := TX8) (N := 12) hx hb ht inA_X8 tyX8 tyX8_ok nmX8 hown hK hP hD hS 0 rfl rfl 4 (by decide) (ht _ lf_X8_23) (fun _ h9 => h9) rfl (tyX8_ok 4 (by decide)) rfl rfl (Nat.le_of_ble_eq_true rfl) dX8_codes_2 (fun H locs hP hD hS => ?_)
  have hP : va_P D vwCl [(mo, .inr (8, [.ref ms, .int sv, .ref mb, .int ty, .int 0, .ref mk, .int ml, .ref mfd, .int mf, .int sp, .int on, .int tw])), (ms, .inl (K, 889, .inl sf))] H := hP
  have hD : va_D A [(mo, .inr (8, [.ref ms, .int sv, .ref mb, .int ty, .int 0, .ref mk, .int ml, .ref mfd, .int mf, .int sp, .int on, .int tw])), (ms, .inl (K, 889, .inl sf))] := hD
  refine lv_aload_n hx hb dX8_codes_5 rfl (lv_at hl 0 rfl) ?_
  refine va_get (D := D) (ci := 8) (v := .ref ms) (C := RX8) (T := TX8) (N := 12) hx hb ht inA_X8 hown hK hP 0 rfl rfl 0 (by decide) (ht _ lf_X8_7) (fun _ h9 => h9) rfl dX8_codes_6 ?_
  refine lv_bipush (v := 94) hx hb dX8_codes_9 (by decide) ?_
  refine va_iald hx hb hK hP 1 0 rfl rfl (by unfold vp_in; decide) dX8_codes_11 ?_
  refine k_nrm (y := (nI (s_k x))) (show sf (94 : Int32).toNatClampNeg = (nI (s_k x)) from h94) ?_
  have hP9 : va_P D vwCl [(mo, .inr (8, [.ref ms, .int sv, .ref mb, .int ty, .int 0, .ref mk, .int ml, .ref mfd, .int mf, .int sp, .int on, .int tw])), (ms, .inl (K, 889, .inl sf))] H := hP.sub [0, 1] rfl
  have hD9 : va_D A [(mo, .inr (8, [.ref ms, .int sv, .ref mb, .int ty, .int 0, .ref mk, .int ml, .ref mfd, .int mf, .int sp, .int on, .int tw])), (ms, .inl (K, 889, .inl sf))] := hD.sub [0, 1] (by decide) rfl
  have hK9 : va_K D vwCl [] s := hK.sub [] rfl
  exact W.iret (v := (nI (s_k x))) hx hb hr (fun t ht9 hW9 => ⟨⟨(nI (s_k x)), (), rfl, by first | rfl | trivial | (simp only [if_true, if_false, reduceIte, and_self]; done) | simp_all, ⟨by rw [ht9]; exact hP9, va_K.moved hW9.alike hK9, hD9⟩⟩, hS.F ht9⟩) hS.2.2 dX8_codes_12
set_option maxHeartbeats 4000000 in
set_option maxRecDepth 100000 in
theorem c_M_successes (l : Launch) (D : va_G) (mo : Nat) (ms : Nat) (sv : Int32) (mb : Nat) (ty : Int32) (th : Int32) (mk : Nat) (ml : Int32) (mfd : Nat) (mf : Int32) (sp : Int32) (on : Int32) (tw : Int32) (K : ClassId) (sf : Nat → Int32) (x : ST) (hR : RS x sf) (hbx : bST x) (sz : Nat) : k_Mi (S := Unit) l D yX8_successes cX8_successes 1 (some .int) 0 0 0 0 [.ref mo] [(mo, .inr (8, [.ref ms, .int sv, .ref mb, .int ty, .int th, .ref mk, .int ml, .ref mfd, .int mf, .int sp, .int on, .int tw])), (ms, .inl (K, 889, .inl sf))] [(K, .int)] (fun (r : Int32) (_ : Unit) => r = (s_suc x)) (fun _ => [(mo, .inr (8, [.ref ms, .int sv, .ref mb, .int ty, .int 0, .ref mk, .int ml, .ref mfd, .int mf, .int sp, .int on, .int tw])), (ms, .inl (K, 889, .inl sf))]) (fun _ => []) sz := by
  refine Met.ofW (cc := cX8_successes) (maxL := 1) (ret := (some .int)) (by decide) rfl ?_
  intro p e s m args below meth c s₁ B hml hv
  obtain ⟨rfl, hsz, hP, hK, hD0, hG⟩ := hv
  have hx := B.exec
  have hb := B.bytes
  have hr := B.returns
  have ht : ∀ v9 ∈ wsA, v9.before ([.ref mo] : List Value).toArray s = true := fun v9 h9 => atoms_spec (ws := k_ws yX8_successes cX8_successes 1 (some .int)) B.pre v9 (List.mem_cons_of_mem _ h9)
  have hown : s.vm.findClass RX8 = some m.cls := findClass_of_methodNamed B.named
  have S0 : k_C p s m ([.ref mo] : List Value).toArray c cX8_successes 1 RX8 := ⟨hx, hb, hml, hown, ht⟩
  have hlocks := B.notSynchronized
  subst hsz
  have hD := hD0.self (sz := s.heap.size)
  generalize hAe : va_A [(mo, .inr (8, [.ref ms, .int sv, .ref mb, .int ty, .int th, .ref mk, .int ml, .ref mfd, .int mf, .int sp, .int on, .int tw])), (ms, .inl (K, 889, .inl sf))] s.heap.size = A at hD hG ⊢
  have hA : ∀ q : Nat, s.heap.size ≤ q → A q := fun q h => by rw [← hAe]; exact Or.inr h
  have hS : va_S A s.heap s.heap [] := va_S.rf
  have hl := lv_entry ([.ref mo]) (n := 1) (Nat.le_of_ble_eq_true rfl)
  rw [lg_entry_eq]
  generalize (lg_sl ([.ref mo]) ++ List.replicate (1 - (lg_sl ([.ref mo])).length) Slot.unset).toArray = ls at hl ⊢
  have hl : lv_has ls 1 [(0, .ref mo)] := hl
  have hP : va_P D vwCl [(mo, .inr (8, [.ref ms, .int sv, .ref mb, .int ty, .int th, .ref mk, .int ml, .ref mfd, .int mf, .int sp, .int on, .int tw])), (ms, .inl (K, 889, .inl sf))] s.heap := hP
  have hR9 := hR
  have hlx9 : True := trivial
  obtain ⟨q0, q1, q2, h51, q4, h93, ⟨h94, q7⟩, h125, h126⟩ := hR
  obtain ⟨b1, b2, b3, b4⟩ := bST_le hbx
  refine lv_aload_n hx hb dX8_successes_0 rfl (lv_at hl 0 rfl) ?_
  refine lv_iconst (v := 0) hx hb dX8_successes_1 (by decide) ?_
  refine va_put (D := D) (ci := 8) (v := .int 0) (ty := .int) (C := RX8) (T := TX8) (N := 12) hx hb ht inA_X8 tyX8 tyX8_ok nmX8 hown hK hP hD hS 0 rfl rfl 4 (by decide) (ht _ lf_X8_23) (fun _ h9 => h9) rfl (tyX8_ok 4 (by decide)) rfl rfl (Nat.le_of_ble_eq_true rfl) dX8_successes_2 (fun H locs hP hD hS => ?_)
  have hP : va_P D vwCl [(mo, .inr (8, [.ref ms, .int sv, .ref mb, .int ty, .int 0, .ref mk, .int ml, .ref mfd, .int mf, .int sp, .int on, .int tw])), (ms, .inl (K, 889, .inl sf))] H := hP
  have hD : va_D A [(mo, .inr (8, [.ref ms, .int sv, .ref mb, .int ty, .int 0, .ref mk, .int ml, .ref mfd, .int mf, .int sp, .int on, .int tw])), (ms, .inl (K, 889, .inl sf))] := hD
  refine lv_aload_n hx hb dX8_successes_5 rfl (lv_at hl 0 rfl) ?_
  refine va_get (D := D) (ci := 8) (v := .ref ms) (C := RX8) (T := TX8) (N := 12) hx hb ht inA_X8 hown hK hP 0 rfl rfl 0 (by decide) (ht _ lf_X8_7) (fun _ h9 => h9) rfl dX8_successes_6 ?_
  refine lv_bipush (v := 125) hx hb dX8_successes_9 (by decide) ?_
  refine va_iald hx hb hK hP 1 0 rfl rfl (by unfold vp_in; decide) dX8_successes_11 ?_
  refine k_nrm (y := (s_suc x)) (show sf (125 : Int32).toNatClampNeg = (s_suc x) from h125) ?_
  have hP9 : va_P D vwCl [(mo, .inr (8, [.ref ms, .int sv, .ref mb, .int ty, .int 0, .ref mk, .int ml, .ref mfd, .int mf, .int sp, .int on, .int tw])), (ms, .inl (K, 889, .inl sf))] H := hP.sub [0, 1] rfl
  have hD9 : va_D A [(mo, .inr (8, [.ref ms, .int sv, .ref mb, .int ty, .int 0, .ref mk, .int ml, .ref mfd, .int mf, .int sp, .int on, .int tw])), (ms, .inl (K, 889, .inl sf))] := hD.sub [0, 1] (by decide) rfl
  have hK9 : va_K D vwCl [] s := hK.sub [] rfl
  exact W.iret (v := (s_suc x)) hx hb hr (fun t ht9 hW9 => ⟨⟨(s_suc x), (), rfl, by first | rfl | trivial | (simp only [if_true, if_false, reduceIte, and_self]; done) | simp_all, ⟨by rw [ht9]; exact hP9, va_K.moved hW9.alike hK9, hD9⟩⟩, hS.F ht9⟩) hS.2.2 dX8_successes_12
set_option maxHeartbeats 4000000 in
set_option maxRecDepth 100000 in
theorem c_M_failures (l : Launch) (D : va_G) (mo : Nat) (ms : Nat) (sv : Int32) (mb : Nat) (ty : Int32) (th : Int32) (mk : Nat) (ml : Int32) (mfd : Nat) (mf : Int32) (sp : Int32) (on : Int32) (tw : Int32) (K : ClassId) (sf : Nat → Int32) (x : ST) (hR : RS x sf) (hbx : bST x) (sz : Nat) : k_Mi (S := Unit) l D yX8_failures cX8_failures 1 (some .int) 0 0 0 0 [.ref mo] [(mo, .inr (8, [.ref ms, .int sv, .ref mb, .int ty, .int th, .ref mk, .int ml, .ref mfd, .int mf, .int sp, .int on, .int tw])), (ms, .inl (K, 889, .inl sf))] [(K, .int)] (fun (r : Int32) (_ : Unit) => r = (s_fai x)) (fun _ => [(mo, .inr (8, [.ref ms, .int sv, .ref mb, .int ty, .int 0, .ref mk, .int ml, .ref mfd, .int mf, .int sp, .int on, .int tw])), (ms, .inl (K, 889, .inl sf))]) (fun _ => []) sz := by
  refine Met.ofW (cc := cX8_failures) (maxL := 1) (ret := (some .int)) (by decide) rfl ?_
  intro p e s m args below meth c s₁ B hml hv
  obtain ⟨rfl, hsz, hP, hK, hD0, hG⟩ := hv
  have hx := B.exec
  have hb := B.bytes
  have hr := B.returns
  have ht : ∀ v9 ∈ wsA, v9.before ([.ref mo] : List Value).toArray s = true := fun v9 h9 => atoms_spec (ws := k_ws yX8_failures cX8_failures 1 (some .int)) B.pre v9 (List.mem_cons_of_mem _ h9)
  have hown : s.vm.findClass RX8 = some m.cls := findClass_of_methodNamed B.named
  have S0 : k_C p s m ([.ref mo] : List Value).toArray c cX8_failures 1 RX8 := ⟨hx, hb, hml, hown, ht⟩
  have hlocks := B.notSynchronized
  subst hsz
  have hD := hD0.self (sz := s.heap.size)
  generalize hAe : va_A [(mo, .inr (8, [.ref ms, .int sv, .ref mb, .int ty, .int th, .ref mk, .int ml, .ref mfd, .int mf, .int sp, .int on, .int tw])), (ms, .inl (K, 889, .inl sf))] s.heap.size = A at hD hG ⊢
  have hA : ∀ q : Nat, s.heap.size ≤ q → A q := fun q h => by rw [← hAe]; exact Or.inr h
  have hS : va_S A s.heap s.heap [] := va_S.rf
  have hl := lv_entry ([.ref mo]) (n := 1) (Nat.le_of_ble_eq_true rfl)
  rw [lg_entry_eq]
  generalize (lg_sl ([.ref mo]) ++ List.replicate (1 - (lg_sl ([.ref mo])).length) Slot.unset).toArray = ls at hl ⊢
  have hl : lv_has ls 1 [(0, .ref mo)] := hl
  have hP : va_P D vwCl [(mo, .inr (8, [.ref ms, .int sv, .ref mb, .int ty, .int th, .ref mk, .int ml, .ref mfd, .int mf, .int sp, .int on, .int tw])), (ms, .inl (K, 889, .inl sf))] s.heap := hP
  have hR9 := hR
  have hlx9 : True := trivial
  obtain ⟨q0, q1, q2, h51, q4, h93, ⟨h94, q7⟩, h125, h126⟩ := hR
  obtain ⟨b1, b2, b3, b4⟩ := bST_le hbx
  refine lv_aload_n hx hb dX8_failures_0 rfl (lv_at hl 0 rfl) ?_
  refine lv_iconst (v := 0) hx hb dX8_failures_1 (by decide) ?_
  refine va_put (D := D) (ci := 8) (v := .int 0) (ty := .int) (C := RX8) (T := TX8) (N := 12) hx hb ht inA_X8 tyX8 tyX8_ok nmX8 hown hK hP hD hS 0 rfl rfl 4 (by decide) (ht _ lf_X8_23) (fun _ h9 => h9) rfl (tyX8_ok 4 (by decide)) rfl rfl (Nat.le_of_ble_eq_true rfl) dX8_failures_2 (fun H locs hP hD hS => ?_)
  have hP : va_P D vwCl [(mo, .inr (8, [.ref ms, .int sv, .ref mb, .int ty, .int 0, .ref mk, .int ml, .ref mfd, .int mf, .int sp, .int on, .int tw])), (ms, .inl (K, 889, .inl sf))] H := hP
  have hD : va_D A [(mo, .inr (8, [.ref ms, .int sv, .ref mb, .int ty, .int 0, .ref mk, .int ml, .ref mfd, .int mf, .int sp, .int on, .int tw])), (ms, .inl (K, 889, .inl sf))] := hD
  refine lv_aload_n hx hb dX8_failures_5 rfl (lv_at hl 0 rfl) ?_
  refine va_get (D := D) (ci := 8) (v := .ref ms) (C := RX8) (T := TX8) (N := 12) hx hb ht inA_X8 hown hK hP 0 rfl rfl 0 (by decide) (ht _ lf_X8_7) (fun _ h9 => h9) rfl dX8_failures_6 ?_
  refine lv_bipush (v := 126) hx hb dX8_failures_9 (by decide) ?_
  refine va_iald hx hb hK hP 1 0 rfl rfl (by unfold vp_in; decide) dX8_failures_11 ?_
  refine k_nrm (y := (s_fai x)) (show sf (126 : Int32).toNatClampNeg = (s_fai x) from h126) ?_
  have hP9 : va_P D vwCl [(mo, .inr (8, [.ref ms, .int sv, .ref mb, .int ty, .int 0, .ref mk, .int ml, .ref mfd, .int mf, .int sp, .int on, .int tw])), (ms, .inl (K, 889, .inl sf))] H := hP.sub [0, 1] rfl
  have hD9 : va_D A [(mo, .inr (8, [.ref ms, .int sv, .ref mb, .int ty, .int 0, .ref mk, .int ml, .ref mfd, .int mf, .int sp, .int on, .int tw])), (ms, .inl (K, 889, .inl sf))] := hD.sub [0, 1] (by decide) rfl
  have hK9 : va_K D vwCl [] s := hK.sub [] rfl
  exact W.iret (v := (s_fai x)) hx hb hr (fun t ht9 hW9 => ⟨⟨(s_fai x), (), rfl, by first | rfl | trivial | (simp only [if_true, if_false, reduceIte, and_self]; done) | simp_all, ⟨by rw [ht9]; exact hP9, va_K.moved hW9.alike hK9, hD9⟩⟩, hS.F ht9⟩) hS.2.2 dX8_failures_12
set_option maxHeartbeats 4000000 in
set_option maxRecDepth 100000 in
theorem c_M_savedStates (l : Launch) (D : va_G) (mo : Nat) (ms : Nat) (sv : Int32) (mb : Nat) (ty : Int32) (th : Int32) (mk : Nat) (ml : Int32) (mfd : Nat) (mf : Int32) (sp : Int32) (on : Int32) (tw : Int32) (sz : Nat) : k_Mi (S := Unit) l D yX8_savedStates cX8_savedStates 1 (some .int) 0 0 0 0 [.ref mo] [(mo, .inr (8, [.ref ms, .int sv, .ref mb, .int ty, .int th, .ref mk, .int ml, .ref mfd, .int mf, .int sp, .int on, .int tw]))] [] (fun (r : Int32) (_ : Unit) => r = sv) (fun _ => [(mo, .inr (8, [.ref ms, .int sv, .ref mb, .int ty, .int 0, .ref mk, .int ml, .ref mfd, .int mf, .int sp, .int on, .int tw]))]) (fun _ => []) sz := by
  refine Met.ofW (cc := cX8_savedStates) (maxL := 1) (ret := (some .int)) (by decide) rfl ?_
  intro p e s m args below meth c s₁ B hml hv
  obtain ⟨rfl, hsz, hP, hK, hD0, hG⟩ := hv
  have hx := B.exec
  have hb := B.bytes
  have hr := B.returns
  have ht : ∀ v9 ∈ wsA, v9.before ([.ref mo] : List Value).toArray s = true := fun v9 h9 => atoms_spec (ws := k_ws yX8_savedStates cX8_savedStates 1 (some .int)) B.pre v9 (List.mem_cons_of_mem _ h9)
  have hown : s.vm.findClass RX8 = some m.cls := findClass_of_methodNamed B.named
  have S0 : k_C p s m ([.ref mo] : List Value).toArray c cX8_savedStates 1 RX8 := ⟨hx, hb, hml, hown, ht⟩
  have hlocks := B.notSynchronized
  subst hsz
  have hD := hD0.self (sz := s.heap.size)
  generalize hAe : va_A [(mo, .inr (8, [.ref ms, .int sv, .ref mb, .int ty, .int th, .ref mk, .int ml, .ref mfd, .int mf, .int sp, .int on, .int tw]))] s.heap.size = A at hD hG ⊢
  have hA : ∀ q : Nat, s.heap.size ≤ q → A q := fun q h => by rw [← hAe]; exact Or.inr h
  have hS : va_S A s.heap s.heap [] := va_S.rf
  have hl := lv_entry ([.ref mo]) (n := 1) (Nat.le_of_ble_eq_true rfl)
  rw [lg_entry_eq]
  generalize (lg_sl ([.ref mo]) ++ List.replicate (1 - (lg_sl ([.ref mo])).length) Slot.unset).toArray = ls at hl ⊢
  have hl : lv_has ls 1 [(0, .ref mo)] := hl
  have hP : va_P D vwCl [(mo, .inr (8, [.ref ms, .int sv, .ref mb, .int ty, .int th, .ref mk, .int ml, .ref mfd, .int mf, .int sp, .int on, .int tw]))] s.heap := hP
  refine lv_aload_n hx hb dX8_savedStates_0 rfl (lv_at hl 0 rfl) ?_
  refine lv_iconst (v := 0) hx hb dX8_savedStates_1 (by decide) ?_
  refine va_put (D := D) (ci := 8) (v := .int 0) (ty := .int) (C := RX8) (T := TX8) (N := 12) hx hb ht inA_X8 tyX8 tyX8_ok nmX8 hown hK hP hD hS 0 rfl rfl 4 (by decide) (ht _ lf_X8_23) (fun _ h9 => h9) rfl (tyX8_ok 4 (by decide)) rfl rfl (Nat.le_of_ble_eq_true rfl) dX8_savedStates_2 (fun H locs hP hD hS => ?_)
  have hP : va_P D vwCl [(mo, .inr (8, [.ref ms, .int sv, .ref mb, .int ty, .int 0, .ref mk, .int ml, .ref mfd, .int mf, .int sp, .int on, .int tw]))] H := hP
  have hD : va_D A [(mo, .inr (8, [.ref ms, .int sv, .ref mb, .int ty, .int 0, .ref mk, .int ml, .ref mfd, .int mf, .int sp, .int on, .int tw]))] := hD
  refine lv_aload_n hx hb dX8_savedStates_5 rfl (lv_at hl 0 rfl) ?_
  refine va_get (D := D) (ci := 8) (v := .int sv) (C := RX8) (T := TX8) (N := 12) hx hb ht inA_X8 hown hK hP 0 rfl rfl 1 (by decide) (ht _ lf_X8_27) (fun _ h9 => h9) rfl dX8_savedStates_6 ?_
  have hP9 : va_P D vwCl [(mo, .inr (8, [.ref ms, .int sv, .ref mb, .int ty, .int 0, .ref mk, .int ml, .ref mfd, .int mf, .int sp, .int on, .int tw]))] H := hP.sub [0] rfl
  have hD9 : va_D A [(mo, .inr (8, [.ref ms, .int sv, .ref mb, .int ty, .int 0, .ref mk, .int ml, .ref mfd, .int mf, .int sp, .int on, .int tw]))] := hD.sub [0] (by decide) rfl
  have hK9 : va_K D vwCl [] s := hK.sub [] rfl
  exact W.iret (v := sv) hx hb hr (fun t ht9 hW9 => ⟨⟨sv, (), rfl, by first | rfl | trivial | (simp only [if_true, if_false, reduceIte, and_self]; done) | simp_all, ⟨by rw [ht9]; exact hP9, va_K.moved hW9.alike hK9, hD9⟩⟩, hS.F ht9⟩) hS.2.2 dX8_savedStates_9
