theorem Lv_X2_23 : k_LV RX2 23 yX4_size cX4_size 1 (some .int) 0 := ⟨mA 223 rfl rfl, lm_X4_size, le_X4_size, li_BarcodeWand_Row, lk_X4_size, ly_X4_size⟩
theorem inA_X7 : ∀ w ∈ u_ws RX7 TX7 6, w ∈ wsA := by
  show ∀ w ∈ ([u_lay RX7 TX7 0, u_lay RX7 TX7 1, u_lay RX7 TX7 2, u_lay RX7 TX7 3, u_lay RX7 TX7 4, u_lay RX7 TX7 5] : List Cond), w ∈ wsA
  exact List.forall_mem_cons.mpr ⟨mA 202 rfl rfl, List.forall_mem_cons.mpr ⟨mA 204 rfl rfl, List.forall_mem_cons.mpr ⟨mA 206 rfl rfl, List.forall_mem_cons.mpr ⟨mA 208 rfl rfl, List.forall_mem_cons.mpr ⟨mA 210 rfl rfl, List.forall_mem_cons.mpr ⟨mA 212 rfl rfl, fun _ h => absurd h List.not_mem_nil⟩⟩⟩⟩⟩⟩
theorem lf_X7_10 : Cond.fieldLink RX7 10 "BarcodeWand" "state" "LBarcodeWand$State;" ∈ wsA := mA 196 rfl rfl
theorem lf_X7_66 : Cond.fieldLink RX7 66 "BarcodeWand$State" "label" "LBarcodeWand$Label;" ∈ wsA := mA 87 rfl rfl
theorem lk_X2_size : Cond.code yX2_size cX2_size 1 (some .int) ∈ wsA := mA 222 rfl rfl
theorem ly_X2_size : k_y yX2_size 0 := ⟨by decide +kernel, by decide +kernel, by decide +kernel⟩
theorem lm_X2_size : Cond.instanceMethod yX2_size ∈ wsA := mA 220 rfl rfl
theorem le_X2_size : Cond.selects (yX2_size).cls yX2_size yX2_size ∈ wsA := mA 221 rfl rfl
theorem Lv_X7_93 : k_LV RX7 93 yX2_size cX2_size 1 (some .int) 0 := ⟨mA 219 rfl rfl, lm_X2_size, le_X2_size, li_BarcodeWand_Label, lk_X2_size, ly_X2_size⟩
theorem lf_X7_112 : Cond.fieldLink RX7 112 "BarcodeWand$State" "measurement" "LBarcodeWand$Row;" ∈ wsA := mA 89 rfl rfl
theorem Lv_X7_136 : k_LV RX7 136 yX4_size cX4_size 1 (some .int) 0 := ⟨mA 275 rfl rfl, lm_X4_size, le_X4_size, li_BarcodeWand_Row, lk_X4_size, ly_X4_size⟩
theorem lf_X7_171 : Cond.fieldLink RX7 171 "BarcodeWand$State" "list" "LBarcodeWand$CodeList;" ∈ wsA := mA 91 rfl rfl
theorem lf_X7_175 : Cond.fieldLink RX7 175 "BarcodeWand$CodeList" "numbers" "LBarcodeWand$Row;" ∈ wsA := mA 74 rfl rfl
theorem lf_X7_189 : Cond.fieldLink RX7 189 "BarcodeWand$State" "successes" "I" ∈ wsA := mA 95 rfl rfl
theorem lf_X7_192 : Cond.fieldLink RX7 192 "BarcodeWand$State" "failures" "I" ∈ wsA := mA 97 rfl rfl
theorem lf_X7_19 : Cond.fieldLink RX7 19 "BarcodeWand" "history" "LBarcodeWand$SavedStates;" ∈ wsA := mA 197 rfl rfl
set_option maxRecDepth 20000 in
theorem lk_X5_size : Cond.code yX5_size cX5_size 1 (some .int) ∈ wsA := mA 450 rfl rfl
theorem ly_X5_size : k_y yX5_size 0 := ⟨by decide +kernel, by decide +kernel, by decide +kernel⟩
set_option maxRecDepth 20000 in
theorem lm_X5_size : Cond.instanceMethod yX5_size ∈ wsA := mA 448 rfl rfl
set_option maxRecDepth 20000 in
theorem le_X5_size : Cond.selects (yX5_size).cls yX5_size yX5_size ∈ wsA := mA 449 rfl rfl
set_option maxRecDepth 20000 in
theorem Lv_X7_223 : k_LV RX7 223 yX5_size cX5_size 1 (some .int) 0 := ⟨mA 447 rfl rfl, lm_X5_size, le_X5_size, li_BarcodeWand_SavedStates, lk_X5_size, ly_X5_size⟩
theorem lf_X7_26 : Cond.fieldLink RX7 26 "BarcodeWand" "reader" "LBarcodeWand$Reader;" ∈ wsA := mA 198 rfl rfl
theorem lf_X7_144 : Cond.fieldLink RX7 144 "BarcodeWand$State" "tolerance" "I" ∈ wsA := mA 93 rfl rfl
theorem lk_X3_resultOf : Cond.code yX3_resultOf cX3_resultOf 5 (some .int) ∈ wsA := mA 288 rfl rfl
theorem ly_X3_resultOf : k_y yX3_resultOf 2 := ⟨by decide +kernel, by decide +kernel, by decide +kernel⟩
theorem lm_X3_resultOf : Cond.instanceMethod yX3_resultOf ∈ wsA := mA 286 rfl rfl
theorem le_X3_resultOf : Cond.selects (yX3_resultOf).cls yX3_resultOf yX3_resultOf ∈ wsA := mA 287 rfl rfl
theorem Lv_X7_148 : k_LV RX7 148 yX3_resultOf cX3_resultOf 5 (some .int) 2 := ⟨mA 285 rfl rfl, lm_X3_resultOf, le_X3_resultOf, li_BarcodeWand_Reader, lk_X3_resultOf, ly_X3_resultOf⟩
set_option maxRecDepth 20000 in
theorem Lv_X7_152 : k_LV RX7 152 yX3_failureOf cX3_failureOf 7 (some .int) 3 := ⟨mA 370 rfl rfl, lm_X3_failureOf, le_X3_failureOf, li_BarcodeWand_Reader, lk_X3_failureOf, ly_X3_failureOf⟩
theorem li_BarcodeWand : Cond.initialized "BarcodeWand" ∈ wsA := mA 1 rfl rfl
set_option maxRecDepth 20000 in
theorem lk_X7_hasSucceeded : Cond.code yX7_hasSucceeded cX7_hasSucceeded 1 (some .boolean) ∈ wsA := mA 334 rfl rfl
theorem ly_X7_hasSucceeded : k_y yX7_hasSucceeded 1 := ⟨by decide +kernel, by decide +kernel, by decide +kernel⟩
set_option maxRecDepth 20000 in
theorem ls_X7_hasSucceeded : Cond.static yX7_hasSucceeded ∈ wsA := mA 333 rfl rfl
set_option maxRecDepth 20000 in
theorem Ls_X7_158 : k_LS RX7 158 yX7_hasSucceeded cX7_hasSucceeded 1 (some .boolean) 1 := ⟨mA 332 rfl rfl, ls_X7_hasSucceeded, li_BarcodeWand, lk_X7_hasSucceeded, ly_X7_hasSucceeded⟩
theorem lk_X5_save : Cond.code yX5_save cX5_save 2 none ∈ wsA := mA 234 rfl rfl
theorem ly_X5_save : k_y yX5_save 1 := ⟨by decide +kernel, by decide +kernel, by decide +kernel⟩
theorem lm_X5_save : Cond.instanceMethod yX5_save ∈ wsA := mA 232 rfl rfl
theorem le_X5_save : Cond.selects (yX5_save).cls yX5_save yX5_save ∈ wsA := mA 233 rfl rfl
theorem Lv_X7_62 : k_LV RX7 62 yX5_save cX5_save 2 none 1 := ⟨mA 231 rfl rfl, lm_X5_save, le_X5_save, li_BarcodeWand_SavedStates, lk_X5_save, ly_X5_save⟩
theorem Lv_X7_137 : k_LV RX7 137 yX4_clear cX4_clear 1 none 0 := ⟨mA 276 rfl rfl, lm_X4_clear, le_X4_clear, li_BarcodeWand_Row, lk_X4_clear, ly_X4_clear⟩
theorem lk_X7_readAndCount : Cond.code yX7_readAndCount cX7_readAndCount 2 (some .int) ∈ wsA := mA 284 rfl rfl
theorem ly_X7_readAndCount : k_y yX7_readAndCount 0 := ⟨by decide +kernel, by decide +kernel, by decide +kernel⟩
theorem lm_X7_readAndCount : Cond.instanceMethod yX7_readAndCount ∈ wsA := mA 283 rfl rfl
theorem le_X7_readAndCount : Cond.selects (yX7_readAndCount).cls yX7_readAndCount yX7_readAndCount ∈ wsA := mS 1 rfl rfl
theorem Lv_X7_119 : k_LV RX7 119 yX7_readAndCount cX7_readAndCount 2 (some .int) 0 := ⟨mA 281 rfl rfl, lm_X7_readAndCount, le_X7_readAndCount, li_BarcodeWand, lk_X7_readAndCount, ly_X7_readAndCount⟩
theorem lf_X7_39 : Cond.fieldLink RX7 39 "BarcodeWand" "buffer" "LBarcodeWand$Row;" ∈ wsA := mA 200 rfl rfl
theorem inA_X1 : ∀ w ∈ u_ws RX1 TX1 6, w ∈ wsA := by
  show ∀ w ∈ ([u_lay RX1 TX1 0, u_lay RX1 TX1 1, u_lay RX1 TX1 2, u_lay RX1 TX1 3, u_lay RX1 TX1 4, u_lay RX1 TX1 5] : List Cond), w ∈ wsA
  exact List.forall_mem_cons.mpr ⟨mA 183 rfl rfl, List.forall_mem_cons.mpr ⟨mA 185 rfl rfl, List.forall_mem_cons.mpr ⟨mA 187 rfl rfl, List.forall_mem_cons.mpr ⟨mA 189 rfl rfl, List.forall_mem_cons.mpr ⟨mA 191 rfl rfl, List.forall_mem_cons.mpr ⟨mA 193 rfl rfl, fun _ h => absurd h List.not_mem_nil⟩⟩⟩⟩⟩⟩
theorem lf_X1_11 : Cond.fieldLink RX1 11 "BarcodeWand$CommandParser" "part" "I" ∈ wsA := mA 181 rfl rfl
theorem lf_X7_45 : Cond.fieldLink RX7 45 "BarcodeWand" "parser" "LBarcodeWand$CommandParser;" ∈ wsA := mA 201 rfl rfl
theorem li_BarcodeWand_CommandParser : Cond.initialized "BarcodeWand$CommandParser" ∈ wsA := mA 9 rfl rfl
set_option maxRecDepth 20000 in
theorem lk_X1_restart : Cond.code yX1_restart cX1_restart 1 none ∈ wsA := mA 402 rfl rfl
theorem ly_X1_restart : k_y yX1_restart 0 := ⟨by decide +kernel, by decide +kernel, by decide +kernel⟩
set_option maxRecDepth 20000 in
theorem lm_X1_restart : Cond.instanceMethod yX1_restart ∈ wsA := mA 400 rfl rfl
set_option maxRecDepth 20000 in
theorem le_X1_restart : Cond.selects (yX1_restart).cls yX1_restart yX1_restart ∈ wsA := mA 401 rfl rfl
set_option maxRecDepth 20000 in
theorem Lv_X7_214 : k_LV RX7 214 yX1_restart cX1_restart 1 none 0 := ⟨mA 399 rfl rfl, lm_X1_restart, le_X1_restart, li_BarcodeWand_CommandParser, lk_X1_restart, ly_X1_restart⟩
set_option maxRecDepth 20000 in
theorem lk_X7_parseBuffer : Cond.code yX7_parseBuffer cX7_parseBuffer 2 (some .int) ∈ wsA := mA 398 rfl rfl
theorem ly_X7_parseBuffer : k_y yX7_parseBuffer 0 := ⟨by decide +kernel, by decide +kernel, by decide +kernel⟩
set_option maxRecDepth 20000 in
theorem lm_X7_parseBuffer : Cond.instanceMethod yX7_parseBuffer ∈ wsA := mA 397 rfl rfl
theorem le_X7_parseBuffer : Cond.selects (yX7_parseBuffer).cls yX7_parseBuffer yX7_parseBuffer ∈ wsA := mS 7 rfl rfl
set_option maxRecDepth 20000 in
theorem Lv_X7_206 : k_LV RX7 206 yX7_parseBuffer cX7_parseBuffer 2 (some .int) 0 := ⟨mA 395 rfl rfl, lm_X7_parseBuffer, le_X7_parseBuffer, li_BarcodeWand, lk_X7_parseBuffer, ly_X7_parseBuffer⟩
theorem dX2_size_0 : decode cX2_size 0 = .ok (.aload_n 0, 1) := by decide +kernel
theorem dX2_size_1 : decode cX2_size 1 = .ok (.getfield 20, 3) := by decide +kernel
theorem dX2_size_4 : decode cX2_size 4 = .ok (.invokevirtual 23, 3) := by decide +kernel
theorem dX2_size_7 : decode cX2_size 7 = .ok (.ireturn, 1) := by decide +kernel
theorem dX1_restart_0 : decode cX1_restart 0 = .ok (.aload_n 0, 1) := by decide +kernel
theorem dX1_restart_1 : decode cX1_restart 1 = .ok (.iconst 0, 1) := by decide +kernel
theorem dX1_restart_2 : decode cX1_restart 2 = .ok (.putfield 11, 3) := by decide +kernel
theorem dX1_restart_5 : decode cX1_restart 5 = .ok (.return_, 1) := by decide +kernel
theorem dX1_isAtEndOfCommand_0 : decode cX1_isAtEndOfCommand 0 = .ok (.aload_n 0, 1) := by decide +kernel
theorem dX1_isAtEndOfCommand_1 : decode cX1_isAtEndOfCommand 1 = .ok (.getfield 11, 3) := by decide +kernel
theorem dX1_isAtEndOfCommand_4 : decode cX1_isAtEndOfCommand 4 = .ok (.iconst 2, 1) := by decide +kernel
theorem dX1_isAtEndOfCommand_5 : decode cX1_isAtEndOfCommand 5 = .ok (.if_icmp .eq 20, 3) := by decide +kernel
theorem dX1_isAtEndOfCommand_8 : decode cX1_isAtEndOfCommand 8 = .ok (.aload_n 0, 1) := by decide +kernel
theorem dX1_isAtEndOfCommand_9 : decode cX1_isAtEndOfCommand 9 = .ok (.getfield 11, 3) := by decide +kernel
theorem dX1_isAtEndOfCommand_12 : decode cX1_isAtEndOfCommand 12 = .ok (.iconst 1, 1) := by decide +kernel
theorem dX1_isAtEndOfCommand_13 : decode cX1_isAtEndOfCommand 13 = .ok (.if_icmp .ne 16, 3) := by decide +kernel
theorem dX1_isAtEndOfCommand_16 : decode cX1_isAtEndOfCommand 16 = .ok (.aload_n 0, 1) := by decide +kernel
theorem dX1_isAtEndOfCommand_17 : decode cX1_isAtEndOfCommand 17 = .ok (.getfield 29, 3) := by decide +kernel
theorem dX1_isAtEndOfCommand_20 : decode cX1_isAtEndOfCommand 20 = .ok (.bipush 112, 2) := by decide +kernel
theorem dX1_isAtEndOfCommand_22 : decode cX1_isAtEndOfCommand 22 = .ok (.if_icmp .ne 7, 3) := by decide +kernel
theorem dX1_isAtEndOfCommand_25 : decode cX1_isAtEndOfCommand 25 = .ok (.iconst 1, 1) := by decide +kernel
theorem dX1_isAtEndOfCommand_26 : decode cX1_isAtEndOfCommand 26 = .ok (.goto 4, 3) := by decide +kernel
theorem dX1_isAtEndOfCommand_29 : decode cX1_isAtEndOfCommand 29 = .ok (.iconst 0, 1) := by decide +kernel
theorem dX1_isAtEndOfCommand_30 : decode cX1_isAtEndOfCommand 30 = .ok (.istore_n 1, 1) := by decide +kernel
theorem dX1_isAtEndOfCommand_31 : decode cX1_isAtEndOfCommand 31 = .ok (.iload_n 1, 1) := by decide +kernel
theorem dX1_isAtEndOfCommand_32 : decode cX1_isAtEndOfCommand 32 = .ok (.ifCond .eq 14, 3) := by decide +kernel
theorem dX1_isAtEndOfCommand_35 : decode cX1_isAtEndOfCommand 35 = .ok (.aload_n 0, 1) := by decide +kernel
theorem dX1_isAtEndOfCommand_36 : decode cX1_isAtEndOfCommand 36 = .ok (.getfield 32, 3) := by decide +kernel
theorem dX1_isAtEndOfCommand_39 : decode cX1_isAtEndOfCommand 39 = .ok (.ifCond .le 7, 3) := by decide +kernel
theorem dX1_isAtEndOfCommand_42 : decode cX1_isAtEndOfCommand 42 = .ok (.iconst 1, 1) := by decide +kernel
theorem dX1_isAtEndOfCommand_43 : decode cX1_isAtEndOfCommand 43 = .ok (.goto 4, 3) := by decide +kernel
theorem dX1_isAtEndOfCommand_46 : decode cX1_isAtEndOfCommand 46 = .ok (.iconst 0, 1) := by decide +kernel
theorem dX1_isAtEndOfCommand_47 : decode cX1_isAtEndOfCommand 47 = .ok (.ireturn, 1) := by decide +kernel
theorem dX7_elements_0 : decode cX7_elements 0 = .ok (.aload_n 0, 1) := by decide +kernel
theorem dX7_elements_1 : decode cX7_elements 1 = .ok (.getfield 10, 3) := by decide +kernel
theorem dX7_elements_4 : decode cX7_elements 4 = .ok (.getfield 66, 3) := by decide +kernel
theorem dX7_elements_7 : decode cX7_elements 7 = .ok (.invokevirtual 93, 3) := by decide +kernel
theorem dX7_elements_10 : decode cX7_elements 10 = .ok (.ireturn, 1) := by decide +kernel
theorem dX7_times_0 : decode cX7_times 0 = .ok (.aload_n 0, 1) := by decide +kernel
theorem dX7_times_1 : decode cX7_times 1 = .ok (.getfield 10, 3) := by decide +kernel
theorem dX7_times_4 : decode cX7_times 4 = .ok (.getfield 112, 3) := by decide +kernel
theorem dX7_times_7 : decode cX7_times 7 = .ok (.invokevirtual 136, 3) := by decide +kernel
theorem dX7_times_10 : decode cX7_times 10 = .ok (.ireturn, 1) := by decide +kernel
theorem dX7_codes_0 : decode cX7_codes 0 = .ok (.aload_n 0, 1) := by decide +kernel
theorem dX7_codes_1 : decode cX7_codes 1 = .ok (.getfield 10, 3) := by decide +kernel
theorem dX7_codes_4 : decode cX7_codes 4 = .ok (.getfield 171, 3) := by decide +kernel
theorem dX7_codes_7 : decode cX7_codes 7 = .ok (.getfield 175, 3) := by decide +kernel
theorem dX7_codes_10 : decode cX7_codes 10 = .ok (.invokevirtual 136, 3) := by decide +kernel
theorem dX7_codes_13 : decode cX7_codes 13 = .ok (.ireturn, 1) := by decide +kernel
theorem dX7_successes_0 : decode cX7_successes 0 = .ok (.aload_n 0, 1) := by decide +kernel
theorem dX7_successes_1 : decode cX7_successes 1 = .ok (.getfield 10, 3) := by decide +kernel
theorem dX7_successes_4 : decode cX7_successes 4 = .ok (.getfield 189, 3) := by decide +kernel
theorem dX7_successes_7 : decode cX7_successes 7 = .ok (.ireturn, 1) := by decide +kernel
theorem dX7_failures_0 : decode cX7_failures 0 = .ok (.aload_n 0, 1) := by decide +kernel
theorem dX7_failures_1 : decode cX7_failures 1 = .ok (.getfield 10, 3) := by decide +kernel
theorem dX7_failures_4 : decode cX7_failures 4 = .ok (.getfield 192, 3) := by decide +kernel
theorem dX7_failures_7 : decode cX7_failures 7 = .ok (.ireturn, 1) := by decide +kernel
theorem dX7_savedStates_0 : decode cX7_savedStates 0 = .ok (.aload_n 0, 1) := by decide +kernel
theorem dX7_savedStates_1 : decode cX7_savedStates 1 = .ok (.getfield 19, 3) := by decide +kernel
theorem dX7_savedStates_4 : decode cX7_savedStates 4 = .ok (.invokevirtual 223, 3) := by decide +kernel
theorem dX7_savedStates_7 : decode cX7_savedStates 7 = .ok (.ireturn, 1) := by decide +kernel
theorem dX7_result_0 : decode cX7_result 0 = .ok (.aload_n 0, 1) := by decide +kernel
theorem dX7_result_1 : decode cX7_result 1 = .ok (.getfield 26, 3) := by decide +kernel
theorem dX7_result_4 : decode cX7_result 4 = .ok (.aload_n 0, 1) := by decide +kernel
theorem dX7_result_5 : decode cX7_result 5 = .ok (.getfield 10, 3) := by decide +kernel
theorem dX7_result_8 : decode cX7_result 8 = .ok (.getfield 112, 3) := by decide +kernel
theorem dX7_result_11 : decode cX7_result 11 = .ok (.aload_n 0, 1) := by decide +kernel
theorem dX7_result_12 : decode cX7_result 12 = .ok (.getfield 10, 3) := by decide +kernel
theorem dX7_result_15 : decode cX7_result 15 = .ok (.getfield 144, 3) := by decide +kernel
theorem dX7_result_18 : decode cX7_result 18 = .ok (.invokevirtual 148, 3) := by decide +kernel
theorem dX7_result_21 : decode cX7_result 21 = .ok (.ireturn, 1) := by decide +kernel
theorem dX7_reason_0 : decode cX7_reason 0 = .ok (.aload_n 0, 1) := by decide +kernel
theorem dX7_reason_1 : decode cX7_reason 1 = .ok (.getfield 26, 3) := by decide +kernel
theorem dX7_reason_4 : decode cX7_reason 4 = .ok (.aload_n 0, 1) := by decide +kernel
theorem dX7_reason_5 : decode cX7_reason 5 = .ok (.getfield 10, 3) := by decide +kernel
theorem dX7_reason_8 : decode cX7_reason 8 = .ok (.getfield 112, 3) := by decide +kernel
theorem dX7_reason_11 : decode cX7_reason 11 = .ok (.iload_n 1, 1) := by decide +kernel
theorem dX7_reason_12 : decode cX7_reason 12 = .ok (.aload_n 0, 1) := by decide +kernel
theorem dX7_reason_13 : decode cX7_reason 13 = .ok (.getfield 10, 3) := by decide +kernel
theorem dX7_reason_16 : decode cX7_reason 16 = .ok (.getfield 144, 3) := by decide +kernel
theorem dX7_reason_19 : decode cX7_reason 19 = .ok (.invokevirtual 152, 3) := by decide +kernel
theorem dX7_reason_22 : decode cX7_reason 22 = .ok (.ireturn, 1) := by decide +kernel
theorem dX7_leastTolerance_0 : decode cX7_leastTolerance 0 = .ok (.iconst 1, 1) := by decide +kernel
theorem dX7_leastTolerance_1 : decode cX7_leastTolerance 1 = .ok (.istore_n 1, 1) := by decide +kernel
theorem dX7_leastTolerance_2 : decode cX7_leastTolerance 2 = .ok (.iload_n 1, 1) := by decide +kernel
theorem dX7_leastTolerance_3 : decode cX7_leastTolerance 3 = .ok (.bipush 8, 2) := by decide +kernel
theorem dX7_leastTolerance_5 : decode cX7_leastTolerance 5 = .ok (.if_icmp .gt 32, 3) := by decide +kernel
theorem dX7_leastTolerance_8 : decode cX7_leastTolerance 8 = .ok (.aload_n 0, 1) := by decide +kernel
theorem dX7_leastTolerance_9 : decode cX7_leastTolerance 9 = .ok (.getfield 26, 3) := by decide +kernel
theorem dX7_leastTolerance_12 : decode cX7_leastTolerance 12 = .ok (.aload_n 0, 1) := by decide +kernel
theorem dX7_leastTolerance_13 : decode cX7_leastTolerance 13 = .ok (.getfield 10, 3) := by decide +kernel
theorem dX7_leastTolerance_16 : decode cX7_leastTolerance 16 = .ok (.getfield 112, 3) := by decide +kernel
theorem dX7_leastTolerance_19 : decode cX7_leastTolerance 19 = .ok (.iload_n 1, 1) := by decide +kernel
theorem dX7_leastTolerance_20 : decode cX7_leastTolerance 20 = .ok (.invokevirtual 148, 3) := by decide +kernel
theorem dX7_leastTolerance_23 : decode cX7_leastTolerance 23 = .ok (.invokestatic 158, 3) := by decide +kernel
theorem dX7_leastTolerance_26 : decode cX7_leastTolerance 26 = .ok (.ifCond .eq 5, 3) := by decide +kernel
theorem dX7_leastTolerance_29 : decode cX7_leastTolerance 29 = .ok (.iload_n 1, 1) := by decide +kernel
theorem dX7_leastTolerance_30 : decode cX7_leastTolerance 30 = .ok (.ireturn, 1) := by decide +kernel
theorem dX7_leastTolerance_31 : decode cX7_leastTolerance 31 = .ok (.iinc 1 1, 3) := by decide +kernel
theorem dX7_leastTolerance_34 : decode cX7_leastTolerance 34 = .ok (.goto (-32), 3) := by decide +kernel
theorem dX7_leastTolerance_37 : decode cX7_leastTolerance 37 = .ok (.iconst (-1), 1) := by decide +kernel
theorem dX7_leastTolerance_38 : decode cX7_leastTolerance 38 = .ok (.ireturn, 1) := by decide +kernel
theorem dX7_clearMeasurement_0 : decode cX7_clearMeasurement 0 = .ok (.aload_n 0, 1) := by decide +kernel
theorem dX7_clearMeasurement_1 : decode cX7_clearMeasurement 1 = .ok (.getfield 19, 3) := by decide +kernel
theorem dX7_clearMeasurement_4 : decode cX7_clearMeasurement 4 = .ok (.aload_n 0, 1) := by decide +kernel
theorem dX7_clearMeasurement_5 : decode cX7_clearMeasurement 5 = .ok (.getfield 10, 3) := by decide +kernel
theorem dX7_clearMeasurement_8 : decode cX7_clearMeasurement 8 = .ok (.invokevirtual 62, 3) := by decide +kernel
theorem dX7_clearMeasurement_11 : decode cX7_clearMeasurement 11 = .ok (.aload_n 0, 1) := by decide +kernel
theorem dX7_clearMeasurement_12 : decode cX7_clearMeasurement 12 = .ok (.getfield 10, 3) := by decide +kernel
theorem dX7_clearMeasurement_15 : decode cX7_clearMeasurement 15 = .ok (.getfield 112, 3) := by decide +kernel
theorem dX7_clearMeasurement_18 : decode cX7_clearMeasurement 18 = .ok (.invokevirtual 136, 3) := by decide +kernel
theorem dX7_clearMeasurement_21 : decode cX7_clearMeasurement 21 = .ok (.istore_n 1, 1) := by decide +kernel
theorem dX7_clearMeasurement_22 : decode cX7_clearMeasurement 22 = .ok (.aload_n 0, 1) := by decide +kernel
theorem dX7_clearMeasurement_23 : decode cX7_clearMeasurement 23 = .ok (.getfield 10, 3) := by decide +kernel
theorem dX7_clearMeasurement_26 : decode cX7_clearMeasurement 26 = .ok (.getfield 112, 3) := by decide +kernel
theorem dX7_clearMeasurement_29 : decode cX7_clearMeasurement 29 = .ok (.invokevirtual 137, 3) := by decide +kernel
theorem dX7_clearMeasurement_32 : decode cX7_clearMeasurement 32 = .ok (.iload_n 1, 1) := by decide +kernel
theorem dX7_clearMeasurement_33 : decode cX7_clearMeasurement 33 = .ok (.ireturn, 1) := by decide +kernel
theorem dX7_readAndCount_0 : decode cX7_readAndCount 0 = .ok (.aload_n 0, 1) := by decide +kernel
theorem dX7_readAndCount_1 : decode cX7_readAndCount 1 = .ok (.getfield 26, 3) := by decide +kernel
theorem dX7_readAndCount_4 : decode cX7_readAndCount 4 = .ok (.aload_n 0, 1) := by decide +kernel
theorem dX7_readAndCount_5 : decode cX7_readAndCount 5 = .ok (.getfield 10, 3) := by decide +kernel
theorem dX7_readAndCount_8 : decode cX7_readAndCount 8 = .ok (.getfield 112, 3) := by decide +kernel
theorem dX7_readAndCount_11 : decode cX7_readAndCount 11 = .ok (.aload_n 0, 1) := by decide +kernel
theorem dX7_readAndCount_12 : decode cX7_readAndCount 12 = .ok (.getfield 10, 3) := by decide +kernel
theorem dX7_readAndCount_15 : decode cX7_readAndCount 15 = .ok (.getfield 144, 3) := by decide +kernel
theorem dX7_readAndCount_18 : decode cX7_readAndCount 18 = .ok (.invokevirtual 148, 3) := by decide +kernel
theorem dX7_readAndCount_21 : decode cX7_readAndCount 21 = .ok (.istore_n 1, 1) := by decide +kernel
theorem dX7_readAndCount_22 : decode cX7_readAndCount 22 = .ok (.iload_n 1, 1) := by decide +kernel
theorem dX7_readAndCount_23 : decode cX7_readAndCount 23 = .ok (.invokestatic 158, 3) := by decide +kernel
theorem dX7_readAndCount_26 : decode cX7_readAndCount 26 = .ok (.ifCond .eq 49, 3) := by decide +kernel
theorem dX7_readAndCount_29 : decode cX7_readAndCount 29 = .ok (.aload_n 0, 1) := by decide +kernel
theorem dX7_readAndCount_30 : decode cX7_readAndCount 30 = .ok (.getfield 10, 3) := by decide +kernel
theorem dX7_readAndCount_33 : decode cX7_readAndCount 33 = .ok (.dup, 1) := by decide +kernel
theorem dX7_readAndCount_34 : decode cX7_readAndCount 34 = .ok (.getfield 189, 3) := by decide +kernel
theorem dX7_readAndCount_37 : decode cX7_readAndCount 37 = .ok (.iconst 1, 1) := by decide +kernel
theorem dX7_readAndCount_38 : decode cX7_readAndCount 38 = .ok (.iadd, 1) := by decide +kernel
theorem dX7_readAndCount_39 : decode cX7_readAndCount 39 = .ok (.putfield 189, 3) := by decide +kernel
theorem dX7_readAndCount_42 : decode cX7_readAndCount 42 = .ok (.aload_n 0, 1) := by decide +kernel
theorem dX7_readAndCount_43 : decode cX7_readAndCount 43 = .ok (.getfield 10, 3) := by decide +kernel
theorem dX7_readAndCount_46 : decode cX7_readAndCount 46 = .ok (.getfield 171, 3) := by decide +kernel
theorem dX7_readAndCount_49 : decode cX7_readAndCount 49 = .ok (.aload_n 0, 1) := by decide +kernel
theorem dX7_readAndCount_50 : decode cX7_readAndCount 50 = .ok (.getfield 26, 3) := by decide +kernel
theorem dX7_readAndCount_53 : decode cX7_readAndCount 53 = .ok (.getfield 161, 3) := by decide +kernel
theorem dX7_readAndCount_56 : decode cX7_readAndCount 56 = .ok (.invokestatic 267, 3) := by decide +kernel
theorem dX7_readAndCount_59 : decode cX7_readAndCount 59 = .ok (.aload_n 0, 1) := by decide +kernel
theorem dX7_readAndCount_60 : decode cX7_readAndCount 60 = .ok (.getfield 26, 3) := by decide +kernel
theorem dX7_readAndCount_63 : decode cX7_readAndCount 63 = .ok (.getfield 161, 3) := by decide +kernel
theorem dX7_readAndCount_66 : decode cX7_readAndCount 66 = .ok (.invokevirtual 136, 3) := by decide +kernel
theorem dX7_readAndCount_69 : decode cX7_readAndCount 69 = .ok (.invokevirtual 271, 3) := by decide +kernel
theorem dX7_readAndCount_72 : decode cX7_readAndCount 72 = .ok (.goto 16, 3) := by decide +kernel
theorem dX7_readAndCount_75 : decode cX7_readAndCount 75 = .ok (.aload_n 0, 1) := by decide +kernel
theorem dX7_readAndCount_76 : decode cX7_readAndCount 76 = .ok (.getfield 10, 3) := by decide +kernel
theorem dX7_readAndCount_79 : decode cX7_readAndCount 79 = .ok (.dup, 1) := by decide +kernel
theorem dX7_readAndCount_80 : decode cX7_readAndCount 80 = .ok (.getfield 192, 3) := by decide +kernel
theorem dX7_readAndCount_83 : decode cX7_readAndCount 83 = .ok (.iconst 1, 1) := by decide +kernel
theorem dX7_readAndCount_84 : decode cX7_readAndCount 84 = .ok (.iadd, 1) := by decide +kernel
theorem dX7_readAndCount_85 : decode cX7_readAndCount 85 = .ok (.putfield 192, 3) := by decide +kernel
theorem dX7_readAndCount_88 : decode cX7_readAndCount 88 = .ok (.iload_n 1, 1) := by decide +kernel
theorem dX7_readAndCount_89 : decode cX7_readAndCount 89 = .ok (.ireturn, 1) := by decide +kernel
theorem dX7_read_0 : decode cX7_read 0 = .ok (.aload_n 0, 1) := by decide +kernel
theorem dX7_read_1 : decode cX7_read 1 = .ok (.getfield 19, 3) := by decide +kernel
theorem dX7_read_4 : decode cX7_read 4 = .ok (.aload_n 0, 1) := by decide +kernel
theorem dX7_read_5 : decode cX7_read 5 = .ok (.getfield 10, 3) := by decide +kernel
theorem dX7_read_8 : decode cX7_read 8 = .ok (.invokevirtual 62, 3) := by decide +kernel
theorem dX7_read_11 : decode cX7_read 11 = .ok (.aload_n 0, 1) := by decide +kernel
theorem dX7_read_12 : decode cX7_read 12 = .ok (.invokevirtual 119, 3) := by decide +kernel
theorem dX7_read_15 : decode cX7_read 15 = .ok (.ireturn, 1) := by decide +kernel
theorem dX7_clearBuffer_0 : decode cX7_clearBuffer 0 = .ok (.aload_n 0, 1) := by decide +kernel
theorem dX7_clearBuffer_1 : decode cX7_clearBuffer 1 = .ok (.getfield 39, 3) := by decide +kernel
theorem dX7_clearBuffer_4 : decode cX7_clearBuffer 4 = .ok (.invokevirtual 136, 3) := by decide +kernel
theorem dX7_clearBuffer_7 : decode cX7_clearBuffer 7 = .ok (.istore_n 1, 1) := by decide +kernel
theorem dX7_clearBuffer_8 : decode cX7_clearBuffer 8 = .ok (.aload_n 0, 1) := by decide +kernel
theorem dX7_clearBuffer_9 : decode cX7_clearBuffer 9 = .ok (.getfield 39, 3) := by decide +kernel
theorem dX7_clearBuffer_12 : decode cX7_clearBuffer 12 = .ok (.invokevirtual 137, 3) := by decide +kernel
theorem dX7_clearBuffer_15 : decode cX7_clearBuffer 15 = .ok (.iload_n 1, 1) := by decide +kernel
theorem dX7_clearBuffer_16 : decode cX7_clearBuffer 16 = .ok (.ireturn, 1) := by decide +kernel
theorem dX7_parseBuffer_0 : decode cX7_parseBuffer 0 = .ok (.aload_n 0, 1) := by decide +kernel
theorem dX7_parseBuffer_1 : decode cX7_parseBuffer 1 = .ok (.getfield 45, 3) := by decide +kernel
theorem dX7_parseBuffer_4 : decode cX7_parseBuffer 4 = .ok (.invokevirtual 214, 3) := by decide +kernel
theorem dX7_parseBuffer_7 : decode cX7_parseBuffer 7 = .ok (.iconst 0, 1) := by decide +kernel
theorem dX7_parseBuffer_8 : decode cX7_parseBuffer 8 = .ok (.istore_n 1, 1) := by decide +kernel
theorem dX7_parseBuffer_9 : decode cX7_parseBuffer 9 = .ok (.iload_n 1, 1) := by decide +kernel
theorem dX7_parseBuffer_10 : decode cX7_parseBuffer 10 = .ok (.aload_n 0, 1) := by decide +kernel
theorem dX7_parseBuffer_11 : decode cX7_parseBuffer 11 = .ok (.getfield 39, 3) := by decide +kernel
theorem dX7_parseBuffer_14 : decode cX7_parseBuffer 14 = .ok (.invokevirtual 136, 3) := by decide +kernel
theorem dX7_parseBuffer_17 : decode cX7_parseBuffer 17 = .ok (.if_icmp .ge 29, 3) := by decide +kernel
theorem dX7_parseBuffer_20 : decode cX7_parseBuffer 20 = .ok (.aload_n 0, 1) := by decide +kernel
theorem dX7_parseBuffer_21 : decode cX7_parseBuffer 21 = .ok (.getfield 45, 3) := by decide +kernel
theorem dX7_parseBuffer_24 : decode cX7_parseBuffer 24 = .ok (.aload_n 0, 1) := by decide +kernel
theorem dX7_parseBuffer_25 : decode cX7_parseBuffer 25 = .ok (.getfield 39, 3) := by decide +kernel
theorem dX7_parseBuffer_28 : decode cX7_parseBuffer 28 = .ok (.iload_n 1, 1) := by decide +kernel
theorem dX7_parseBuffer_29 : decode cX7_parseBuffer 29 = .ok (.invokevirtual 79, 3) := by decide +kernel
theorem dX7_parseBuffer_32 : decode cX7_parseBuffer 32 = .ok (.invokevirtual 217, 3) := by decide +kernel
theorem dX7_parseBuffer_35 : decode cX7_parseBuffer 35 = .ok (.ifCond .ne 5, 3) := by decide +kernel
theorem dX7_parseBuffer_38 : decode cX7_parseBuffer 38 = .ok (.iload_n 1, 1) := by decide +kernel
theorem dX7_parseBuffer_39 : decode cX7_parseBuffer 39 = .ok (.ireturn, 1) := by decide +kernel
theorem dX7_parseBuffer_40 : decode cX7_parseBuffer 40 = .ok (.iinc 1 1, 3) := by decide +kernel
theorem dX7_parseBuffer_43 : decode cX7_parseBuffer 43 = .ok (.goto (-34), 3) := by decide +kernel
theorem dX7_parseBuffer_46 : decode cX7_parseBuffer 46 = .ok (.aload_n 0, 1) := by decide +kernel
theorem dX7_parseBuffer_47 : decode cX7_parseBuffer 47 = .ok (.getfield 39, 3) := by decide +kernel
theorem dX7_parseBuffer_50 : decode cX7_parseBuffer 50 = .ok (.invokevirtual 136, 3) := by decide +kernel
theorem dX7_parseBuffer_53 : decode cX7_parseBuffer 53 = .ok (.ireturn, 1) := by decide +kernel
theorem dX7_firstError_0 : decode cX7_firstError 0 = .ok (.aload_n 0, 1) := by decide +kernel
theorem dX7_firstError_1 : decode cX7_firstError 1 = .ok (.invokevirtual 206, 3) := by decide +kernel
theorem dX7_firstError_4 : decode cX7_firstError 4 = .ok (.ireturn, 1) := by decide +kernel
set_option maxHeartbeats 4000000 in
set_option maxRecDepth 100000 in
theorem c_Label_size (l : Launch) (D : va_G) (la : Nat) (ld : Nat) (lz : Nat) (lzA : Nat) (n : Int32) (sz : Nat) : k_Mi (S := Unit) l D yX2_size cX2_size 1 (some .int) 1 0 0 20 [.ref la] [(la, .inr (2, [.ref ld, .ref lz])), (lz, .inr (4, [.ref lzA, .int n]))] [] (fun (r : Int32) (_ : Unit) => r = n) (fun _ => [(la, .inr (2, [.ref ld, .ref lz])), (lz, .inr (4, [.ref lzA, .int n]))]) (fun _ => []) sz := by
  refine Met.ofW (cc := cX2_size) (maxL := 1) (ret := (some .int)) (by decide) rfl ?_
  intro p e s m args below meth c s₁ B hml hv
  obtain ⟨rfl, hsz, hP, hK, hD0, hG⟩ := hv
  have hx := B.exec
  have hb := B.bytes
  have hr := B.returns
  have ht : ∀ v9 ∈ wsA, v9.before ([.ref la] : List Value).toArray s = true := fun v9 h9 => atoms_spec (ws := k_ws yX2_size cX2_size 1 (some .int)) B.pre v9 (List.mem_cons_of_mem _ h9)
  have hown : s.vm.findClass RX2 = some m.cls := findClass_of_methodNamed B.named
  have S0 : k_C p s m ([.ref la] : List Value).toArray c cX2_size 1 RX2 := ⟨hx, hb, hml, hown, ht⟩
  have hlocks := B.notSynchronized
  subst hsz
  have hD := hD0.self (sz := s.heap.size)
  generalize hAe : va_A [(la, .inr (2, [.ref ld, .ref lz])), (lz, .inr (4, [.ref lzA, .int n]))] s.heap.size = A at hD hG ⊢
  have hA : ∀ q : Nat, s.heap.size ≤ q → A q := fun q h => by rw [← hAe]; exact Or.inr h
  have hS : va_S A s.heap s.heap [] := va_S.rf
  have hl := lv_entry ([.ref la]) (n := 1) (Nat.le_of_ble_eq_true rfl)
  rw [lg_entry_eq]
  generalize (lg_sl ([.ref la]) ++ List.replicate (1 - (lg_sl ([.ref la])).length) Slot.unset).toArray = ls at hl ⊢
  have hl : lv_has ls 1 [(0, .ref la)] := hl
  have hP : va_P D vwCl [(la, .inr (2, [.ref ld, .ref lz])), (lz, .inr (4, [.ref lzA, .int n]))] s.heap := hP
  refine lv_aload_n hx hb dX2_size_0 rfl (lv_at hl 0 rfl) ?_
  refine va_get (D := D) (ci := 2) (v := .ref lz) (C := RX2) (T := TX2) (N := 2) hx hb ht inA_X2 hown hK hP 0 rfl rfl 1 (by decide) (ht _ lf_X2_20) (fun _ h9 => h9) rfl dX2_size_1 ?_
  have ct := k_cut_of (wc := [(lz, .inr (4, [.ref lzA, .int n]))]) (wr := [(la, .inr (2, [.ref ld, .ref lz]))]) (tc := []) hG hS hA hK hP hD [1] [0] [] rfl rfl (by decide) (by decide) (by decide) rfl
  refine k_endi (As := [.ref lz]) ct (k_runV (As := []) (rest := []) S0 Lv_X2_23 rfl (ci := 4) (q0 := 0) rfl rfl ct (c_Row_size l D lz lzA n s.heap.size) hl.1 rfl (Nat.le_of_ble_eq_true rfl) rfl dX2_size_4 ⟨⟨Nat.le_of_ble_eq_true rfl, Nat.le_of_ble_eq_true rfl⟩, Nat.le_of_ble_eq_true rfl, Nat.le_of_ble_eq_true rfl⟩) rfl rfl (fun r_1 _ H locs hw_2 hP hD hK hS => ?_)
  have hK : va_K D vwCl [] s := hK
  have hP : va_P D vwCl [(la, .inr (2, [.ref ld, .ref lz])), (lz, .inr (4, [.ref lzA, .int n]))] H := hP
  have hD : va_D A [(la, .inr (2, [.ref ld, .ref lz])), (lz, .inr (4, [.ref lzA, .int n]))] := hD
  have hw_2 : r_1 = n := hw_2
  have hw_2 := hw_2.symm
  subst hw_2
  refine k_nrm (y := n) rfl ?_
  have hP9 : va_P D vwCl [(la, .inr (2, [.ref ld, .ref lz])), (lz, .inr (4, [.ref lzA, .int n]))] H := hP.sub [0, 1] rfl
  have hD9 : va_D A [(la, .inr (2, [.ref ld, .ref lz])), (lz, .inr (4, [.ref lzA, .int n]))] := hD.sub [0, 1] (by decide) rfl
  have hK9 : va_K D vwCl [] s := hK.sub [] rfl
  exact W.iret (v := n) hx hb hr (fun t ht9 hW9 => ⟨⟨n, (), rfl, by first | rfl | trivial | (simp only [if_true, if_false, reduceIte, and_self]; done) | simp_all, ⟨by rw [ht9]; exact hP9, va_K.moved hW9.alike hK9, hD9⟩⟩, hS.F ht9⟩) hS.2.2 dX2_size_7
set_option maxHeartbeats 4000000 in
set_option maxRecDepth 100000 in
theorem c_W_elements (l : Launch) (D : va_G) (w : Nat) (st : Nat) (hi : Nat) (re : Nat) (fo : Nat) (bu : Nat) (pa : Nat) (la : Nat) (me : Nat) (li : Nat) (tol : Int32) (su : Int32) (fa : Int32) (ld : Nat) (lz : Nat) (lzA : Nat) (sz : Nat) : k_Mi (S := Unit) l D yX7_elements cX7_elements 1 (some .int) 2 0 0 40 [.ref w] [(w, .inr (7, [.ref st, .ref hi, .ref re, .ref fo, .ref bu, .ref pa])), (st, .inr (6, [.ref la, .ref me, .ref li, .int tol, .int su, .int fa])), (la, .inr (2, [.ref ld, .ref lz])), (lz, .inr (4, [.ref lzA, .int 0]))] [] (fun (r : Int32) (_ : Unit) => r = 0) (fun _ => [(w, .inr (7, [.ref st, .ref hi, .ref re, .ref fo, .ref bu, .ref pa])), (st, .inr (6, [.ref la, .ref me, .ref li, .int tol, .int su, .int fa])), (la, .inr (2, [.ref ld, .ref lz])), (lz, .inr (4, [.ref lzA, .int 0]))]) (fun _ => []) sz := by
  refine Met.ofW (cc := cX7_elements) (maxL := 1) (ret := (some .int)) (by decide) rfl ?_
  intro p e s m args below meth c s₁ B hml hv
  obtain ⟨rfl, hsz, hP, hK, hD0, hG⟩ := hv
  have hx := B.exec
  have hb := B.bytes
  have hr := B.returns
  have ht : ∀ v9 ∈ wsA, v9.before ([.ref w] : List Value).toArray s = true := fun v9 h9 => atoms_spec (ws := k_ws yX7_elements cX7_elements 1 (some .int)) B.pre v9 (List.mem_cons_of_mem _ h9)
  have hown : s.vm.findClass RX7 = some m.cls := findClass_of_methodNamed B.named
  have S0 : k_C p s m ([.ref w] : List Value).toArray c cX7_elements 1 RX7 := ⟨hx, hb, hml, hown, ht⟩
  have hlocks := B.notSynchronized
  subst hsz
  have hD := hD0.self (sz := s.heap.size)
  generalize hAe : va_A [(w, .inr (7, [.ref st, .ref hi, .ref re, .ref fo, .ref bu, .ref pa])), (st, .inr (6, [.ref la, .ref me, .ref li, .int tol, .int su, .int fa])), (la, .inr (2, [.ref ld, .ref lz])), (lz, .inr (4, [.ref lzA, .int 0]))] s.heap.size = A at hD hG ⊢
  have hA : ∀ q : Nat, s.heap.size ≤ q → A q := fun q h => by rw [← hAe]; exact Or.inr h
  have hS : va_S A s.heap s.heap [] := va_S.rf
  have hl := lv_entry ([.ref w]) (n := 1) (Nat.le_of_ble_eq_true rfl)
  rw [lg_entry_eq]
  generalize (lg_sl ([.ref w]) ++ List.replicate (1 - (lg_sl ([.ref w])).length) Slot.unset).toArray = ls at hl ⊢
  have hl : lv_has ls 1 [(0, .ref w)] := hl
  have hP : va_P D vwCl [(w, .inr (7, [.ref st, .ref hi, .ref re, .ref fo, .ref bu, .ref pa])), (st, .inr (6, [.ref la, .ref me, .ref li, .int tol, .int su, .int fa])), (la, .inr (2, [.ref ld, .ref lz])), (lz, .inr (4, [.ref lzA, .int 0]))] s.heap := hP
  refine lv_aload_n hx hb dX7_elements_0 rfl (lv_at hl 0 rfl) ?_
  refine va_get (D := D) (ci := 7) (v := .ref st) (C := RX7) (T := TX7) (N := 6) hx hb ht inA_X7 hown hK hP 0 rfl rfl 0 (by decide) (ht _ lf_X7_10) (fun _ h9 => h9) rfl dX7_elements_1 ?_
  refine va_get (D := D) (ci := 6) (v := .ref la) (C := RX6) (T := TX6) (N := 6) hx hb ht inA_X6 hown hK hP 1 rfl rfl 0 (by decide) (ht _ lf_X7_66) (fun _ h9 => h9) rfl dX7_elements_4 ?_
  have ct := k_cut_of (wc := [(la, .inr (2, [.ref ld, .ref lz])), (lz, .inr (4, [.ref lzA, .int 0]))]) (wr := [(w, .inr (7, [.ref st, .ref hi, .ref re, .ref fo, .ref bu, .ref pa])), (st, .inr (6, [.ref la, .ref me, .ref li, .int tol, .int su, .int fa]))]) (tc := []) hG hS hA hK hP hD [2, 3] [0, 1] [] rfl rfl (by decide) (by decide) (by decide) rfl
  refine k_endi (As := [.ref la]) ct (k_runV (As := []) (rest := []) S0 Lv_X7_93 rfl (ci := 2) (q0 := 0) rfl rfl ct (c_Label_size l D la ld lz lzA 0 s.heap.size) hl.1 rfl (Nat.le_of_ble_eq_true rfl) rfl dX7_elements_7 ⟨⟨Nat.le_of_ble_eq_true rfl, Nat.le_of_ble_eq_true rfl⟩, Nat.le_of_ble_eq_true rfl, Nat.le_of_ble_eq_true rfl⟩) rfl rfl (fun r_1 _ H locs hw_2 hP hD hK hS => ?_)
  have hK : va_K D vwCl [] s := hK
  have hP : va_P D vwCl [(w, .inr (7, [.ref st, .ref hi, .ref re, .ref fo, .ref bu, .ref pa])), (st, .inr (6, [.ref la, .ref me, .ref li, .int tol, .int su, .int fa])), (la, .inr (2, [.ref ld, .ref lz])), (lz, .inr (4, [.ref lzA, .int 0]))] H := hP
  have hD : va_D A [(w, .inr (7, [.ref st, .ref hi, .ref re, .ref fo, .ref bu, .ref pa])), (st, .inr (6, [.ref la, .ref me, .ref li, .int tol, .int su, .int fa])), (la, .inr (2, [.ref ld, .ref lz])), (lz, .inr (4, [.ref lzA, .int 0]))] := hD
  have hw_2 : r_1 = 0 := hw_2
  have hw_2 := hw_2.symm
  subst hw_2
  refine k_nrm (y := 0) rfl ?_
  have hP9 : va_P D vwCl [(w, .inr (7, [.ref st, .ref hi, .ref re, .ref fo, .ref bu, .ref pa])), (st, .inr (6, [.ref la, .ref me, .ref li, .int tol, .int su, .int fa])), (la, .inr (2, [.ref ld, .ref lz])), (lz, .inr (4, [.ref lzA, .int 0]))] H := hP.sub [0, 1, 2, 3] rfl
  have hD9 : va_D A [(w, .inr (7, [.ref st, .ref hi, .ref re, .ref fo, .ref bu, .ref pa])), (st, .inr (6, [.ref la, .ref me, .ref li, .int tol, .int su, .int fa])), (la, .inr (2, [.ref ld, .ref lz])), (lz, .inr (4, [.ref lzA, .int 0]))] := hD.sub [0, 1, 2, 3] (by decide) rfl
  have hK9 : va_K D vwCl [] s := hK.sub [] rfl
  exact W.iret (v := 0) hx hb hr (fun t ht9 hW9 => ⟨⟨0, (), rfl, by first | rfl | trivial | (simp only [if_true, if_false, reduceIte, and_self]; done) | simp_all, ⟨by rw [ht9]; exact hP9, va_K.moved hW9.alike hK9, hD9⟩⟩, hS.F ht9⟩) hS.2.2 dX7_elements_10
set_option maxHeartbeats 4000000 in
set_option maxRecDepth 100000 in
theorem c_W_times (l : Launch) (D : va_G) (w : Nat) (st : Nat) (hi : Nat) (re : Nat) (fo : Nat) (bu : Nat) (pa : Nat) (la : Nat) (me : Nat) (li : Nat) (tol : Int32) (su : Int32) (fa : Int32) (meA : Nat) (sz : Nat) : k_Mi (S := Unit) l D yX7_times cX7_times 1 (some .int) 1 0 0 20 [.ref w] [(w, .inr (7, [.ref st, .ref hi, .ref re, .ref fo, .ref bu, .ref pa])), (st, .inr (6, [.ref la, .ref me, .ref li, .int tol, .int su, .int fa])), (me, .inr (4, [.ref meA, .int 0]))] [] (fun (r : Int32) (_ : Unit) => r = 0) (fun _ => [(w, .inr (7, [.ref st, .ref hi, .ref re, .ref fo, .ref bu, .ref pa])), (st, .inr (6, [.ref la, .ref me, .ref li, .int tol, .int su, .int fa])), (me, .inr (4, [.ref meA, .int 0]))]) (fun _ => []) sz := by
  refine Met.ofW (cc := cX7_times) (maxL := 1) (ret := (some .int)) (by decide) rfl ?_
  intro p e s m args below meth c s₁ B hml hv
  obtain ⟨rfl, hsz, hP, hK, hD0, hG⟩ := hv
  have hx := B.exec
  have hb := B.bytes
  have hr := B.returns
  have ht : ∀ v9 ∈ wsA, v9.before ([.ref w] : List Value).toArray s = true := fun v9 h9 => atoms_spec (ws := k_ws yX7_times cX7_times 1 (some .int)) B.pre v9 (List.mem_cons_of_mem _ h9)
  have hown : s.vm.findClass RX7 = some m.cls := findClass_of_methodNamed B.named
  have S0 : k_C p s m ([.ref w] : List Value).toArray c cX7_times 1 RX7 := ⟨hx, hb, hml, hown, ht⟩
  have hlocks := B.notSynchronized
  subst hsz
  have hD := hD0.self (sz := s.heap.size)
  generalize hAe : va_A [(w, .inr (7, [.ref st, .ref hi, .ref re, .ref fo, .ref bu, .ref pa])), (st, .inr (6, [.ref la, .ref me, .ref li, .int tol, .int su, .int fa])), (me, .inr (4, [.ref meA, .int 0]))] s.heap.size = A at hD hG ⊢
  have hA : ∀ q : Nat, s.heap.size ≤ q → A q := fun q h => by rw [← hAe]; exact Or.inr h
  have hS : va_S A s.heap s.heap [] := va_S.rf
  have hl := lv_entry ([.ref w]) (n := 1) (Nat.le_of_ble_eq_true rfl)
  rw [lg_entry_eq]
  generalize (lg_sl ([.ref w]) ++ List.replicate (1 - (lg_sl ([.ref w])).length) Slot.unset).toArray = ls at hl ⊢
  have hl : lv_has ls 1 [(0, .ref w)] := hl
  have hP : va_P D vwCl [(w, .inr (7, [.ref st, .ref hi, .ref re, .ref fo, .ref bu, .ref pa])), (st, .inr (6, [.ref la, .ref me, .ref li, .int tol, .int su, .int fa])), (me, .inr (4, [.ref meA, .int 0]))] s.heap := hP
  refine lv_aload_n hx hb dX7_times_0 rfl (lv_at hl 0 rfl) ?_
  refine va_get (D := D) (ci := 7) (v := .ref st) (C := RX7) (T := TX7) (N := 6) hx hb ht inA_X7 hown hK hP 0 rfl rfl 0 (by decide) (ht _ lf_X7_10) (fun _ h9 => h9) rfl dX7_times_1 ?_
  refine va_get (D := D) (ci := 6) (v := .ref me) (C := RX6) (T := TX6) (N := 6) hx hb ht inA_X6 hown hK hP 1 rfl rfl 1 (by decide) (ht _ lf_X7_112) (fun _ h9 => h9) rfl dX7_times_4 ?_
  have ct := k_cut_of (wc := [(me, .inr (4, [.ref meA, .int 0]))]) (wr := [(w, .inr (7, [.ref st, .ref hi, .ref re, .ref fo, .ref bu, .ref pa])), (st, .inr (6, [.ref la, .ref me, .ref li, .int tol, .int su, .int fa]))]) (tc := []) hG hS hA hK hP hD [2] [0, 1] [] rfl rfl (by decide) (by decide) (by decide) rfl
  refine k_endi (As := [.ref me]) ct (k_runV (As := []) (rest := []) S0 Lv_X7_136 rfl (ci := 4) (q0 := 0) rfl rfl ct (c_Row_size l D me meA 0 s.heap.size) hl.1 rfl (Nat.le_of_ble_eq_true rfl) rfl dX7_times_7 ⟨⟨Nat.le_of_ble_eq_true rfl, Nat.le_of_ble_eq_true rfl⟩, Nat.le_of_ble_eq_true rfl, Nat.le_of_ble_eq_true rfl⟩) rfl rfl (fun r_1 _ H locs hw_2 hP hD hK hS => ?_)
  have hK : va_K D vwCl [] s := hK
  have hP : va_P D vwCl [(w, .inr (7, [.ref st, .ref hi, .ref re, .ref fo, .ref bu, .ref pa])), (st, .inr (6, [.ref la, .ref me, .ref li, .int tol, .int su, .int fa])), (me, .inr (4, [.ref meA, .int 0]))] H := hP
  have hD : va_D A [(w, .inr (7, [.ref st, .ref hi, .ref re, .ref fo, .ref bu, .ref pa])), (st, .inr (6, [.ref la, .ref me, .ref li, .int tol, .int su, .int fa])), (me, .inr (4, [.ref meA, .int 0]))] := hD
  have hw_2 : r_1 = 0 := hw_2
  have hw_2 := hw_2.symm
  subst hw_2
  refine k_nrm (y := 0) rfl ?_
  have hP9 : va_P D vwCl [(w, .inr (7, [.ref st, .ref hi, .ref re, .ref fo, .ref bu, .ref pa])), (st, .inr (6, [.ref la, .ref me, .ref li, .int tol, .int su, .int fa])), (me, .inr (4, [.ref meA, .int 0]))] H := hP.sub [0, 1, 2] rfl
  have hD9 : va_D A [(w, .inr (7, [.ref st, .ref hi, .ref re, .ref fo, .ref bu, .ref pa])), (st, .inr (6, [.ref la, .ref me, .ref li, .int tol, .int su, .int fa])), (me, .inr (4, [.ref meA, .int 0]))] := hD.sub [0, 1, 2] (by decide) rfl
  have hK9 : va_K D vwCl [] s := hK.sub [] rfl
  exact W.iret (v := 0) hx hb hr (fun t ht9 hW9 => ⟨⟨0, (), rfl, by first | rfl | trivial | (simp only [if_true, if_false, reduceIte, and_self]; done) | simp_all, ⟨by rw [ht9]; exact hP9, va_K.moved hW9.alike hK9, hD9⟩⟩, hS.F ht9⟩) hS.2.2 dX7_times_10
set_option maxHeartbeats 4000000 in
set_option maxRecDepth 100000 in
theorem c_W_codes (l : Launch) (D : va_G) (w : Nat) (st : Nat) (hi : Nat) (re : Nat) (fo : Nat) (bu : Nat) (pa : Nat) (la : Nat) (me : Nat) (li : Nat) (tol : Int32) (su : Int32) (fa : Int32) (ln : Nat) (ll : Nat) (lc : Nat) (lnA : Nat) (sz : Nat) : k_Mi (S := Unit) l D yX7_codes cX7_codes 1 (some .int) 1 0 0 20 [.ref w] [(w, .inr (7, [.ref st, .ref hi, .ref re, .ref fo, .ref bu, .ref pa])), (st, .inr (6, [.ref la, .ref me, .ref li, .int tol, .int su, .int fa])), (li, .inr (0, [.ref ln, .ref ll, .ref lc])), (ln, .inr (4, [.ref lnA, .int 0]))] [] (fun (r : Int32) (_ : Unit) => r = 0) (fun _ => [(w, .inr (7, [.ref st, .ref hi, .ref re, .ref fo, .ref bu, .ref pa])), (st, .inr (6, [.ref la, .ref me, .ref li, .int tol, .int su, .int fa])), (li, .inr (0, [.ref ln, .ref ll, .ref lc])), (ln, .inr (4, [.ref lnA, .int 0]))]) (fun _ => []) sz := by
  refine Met.ofW (cc := cX7_codes) (maxL := 1) (ret := (some .int)) (by decide) rfl ?_
  intro p e s m args below meth c s₁ B hml hv
  obtain ⟨rfl, hsz, hP, hK, hD0, hG⟩ := hv
  have hx := B.exec
  have hb := B.bytes
  have hr := B.returns
  have ht : ∀ v9 ∈ wsA, v9.before ([.ref w] : List Value).toArray s = true := fun v9 h9 => atoms_spec (ws := k_ws yX7_codes cX7_codes 1 (some .int)) B.pre v9 (List.mem_cons_of_mem _ h9)
  have hown : s.vm.findClass RX7 = some m.cls := findClass_of_methodNamed B.named
  have S0 : k_C p s m ([.ref w] : List Value).toArray c cX7_codes 1 RX7 := ⟨hx, hb, hml, hown, ht⟩
  have hlocks := B.notSynchronized
  subst hsz
  have hD := hD0.self (sz := s.heap.size)
  generalize hAe : va_A [(w, .inr (7, [.ref st, .ref hi, .ref re, .ref fo, .ref bu, .ref pa])), (st, .inr (6, [.ref la, .ref me, .ref li, .int tol, .int su, .int fa])), (li, .inr (0, [.ref ln, .ref ll, .ref lc])), (ln, .inr (4, [.ref lnA, .int 0]))] s.heap.size = A at hD hG ⊢
  have hA : ∀ q : Nat, s.heap.size ≤ q → A q := fun q h => by rw [← hAe]; exact Or.inr h
  have hS : va_S A s.heap s.heap [] := va_S.rf
  have hl := lv_entry ([.ref w]) (n := 1) (Nat.le_of_ble_eq_true rfl)
  rw [lg_entry_eq]
  generalize (lg_sl ([.ref w]) ++ List.replicate (1 - (lg_sl ([.ref w])).length) Slot.unset).toArray = ls at hl ⊢
  have hl : lv_has ls 1 [(0, .ref w)] := hl
  have hP : va_P D vwCl [(w, .inr (7, [.ref st, .ref hi, .ref re, .ref fo, .ref bu, .ref pa])), (st, .inr (6, [.ref la, .ref me, .ref li, .int tol, .int su, .int fa])), (li, .inr (0, [.ref ln, .ref ll, .ref lc])), (ln, .inr (4, [.ref lnA, .int 0]))] s.heap := hP
  refine lv_aload_n hx hb dX7_codes_0 rfl (lv_at hl 0 rfl) ?_
  refine va_get (D := D) (ci := 7) (v := .ref st) (C := RX7) (T := TX7) (N := 6) hx hb ht inA_X7 hown hK hP 0 rfl rfl 0 (by decide) (ht _ lf_X7_10) (fun _ h9 => h9) rfl dX7_codes_1 ?_
  refine va_get (D := D) (ci := 6) (v := .ref li) (C := RX6) (T := TX6) (N := 6) hx hb ht inA_X6 hown hK hP 1 rfl rfl 2 (by decide) (ht _ lf_X7_171) (fun _ h9 => h9) rfl dX7_codes_4 ?_
  refine va_get (D := D) (ci := 0) (v := .ref ln) (C := RX0) (T := TX0) (N := 3) hx hb ht inA_X0 hown hK hP 2 rfl rfl 0 (by decide) (ht _ lf_X7_175) (fun _ h9 => h9) rfl dX7_codes_7 ?_
  have ct := k_cut_of (wc := [(ln, .inr (4, [.ref lnA, .int 0]))]) (wr := [(w, .inr (7, [.ref st, .ref hi, .ref re, .ref fo, .ref bu, .ref pa])), (st, .inr (6, [.ref la, .ref me, .ref li, .int tol, .int su, .int fa])), (li, .inr (0, [.ref ln, .ref ll, .ref lc]))]) (tc := []) hG hS hA hK hP hD [3] [0, 1, 2] [] rfl rfl (by decide) (by decide) (by decide) rfl
  refine k_endi (As := [.ref ln]) ct (k_runV (As := []) (rest := []) S0 Lv_X7_136 rfl (ci := 4) (q0 := 0) rfl rfl ct (c_Row_size l D ln lnA 0 s.heap.size) hl.1 rfl (Nat.le_of_ble_eq_true rfl) rfl dX7_codes_10 ⟨⟨Nat.le_of_ble_eq_true rfl, Nat.le_of_ble_eq_true rfl⟩, Nat.le_of_ble_eq_true rfl, Nat.le_of_ble_eq_true rfl⟩) rfl rfl (fun r_1 _ H locs hw_2 hP hD hK hS => ?_)
  have hK : va_K D vwCl [] s := hK
  have hP : va_P D vwCl [(w, .inr (7, [.ref st, .ref hi, .ref re, .ref fo, .ref bu, .ref pa])), (st, .inr (6, [.ref la, .ref me, .ref li, .int tol, .int su, .int fa])), (li, .inr (0, [.ref ln, .ref ll, .ref lc])), (ln, .inr (4, [.ref lnA, .int 0]))] H := hP
  have hD : va_D A [(w, .inr (7, [.ref st, .ref hi, .ref re, .ref fo, .ref bu, .ref pa])), (st, .inr (6, [.ref la, .ref me, .ref li, .int tol, .int su, .int fa])), (li, .inr (0, [.ref ln, .ref ll, .ref lc])), (ln, .inr (4, [.ref lnA, .int 0]))] := hD
  have hw_2 : r_1 = 0 := hw_2
  have hw_2 := hw_2.symm
  subst hw_2
  refine k_nrm (y := 0) rfl ?_
  have hP9 : va_P D vwCl [(w, .inr (7, [.ref st, .ref hi, .ref re, .ref fo, .ref bu, .ref pa])), (st, .inr (6, [.ref la, .ref me, .ref li, .int tol, .int su, .int fa])), (li, .inr (0, [.ref ln, .ref ll, .ref lc])), (ln, .inr (4, [.ref lnA, .int 0]))] H := hP.sub [0, 1, 2, 3] rfl
  have hD9 : va_D A [(w, .inr (7, [.ref st, .ref hi, .ref re, .ref fo, .ref bu, .ref pa])), (st, .inr (6, [.ref la, .ref me, .ref li, .int tol, .int su, .int fa])), (li, .inr (0, [.ref ln, .ref ll, .ref lc])), (ln, .inr (4, [.ref lnA, .int 0]))] := hD.sub [0, 1, 2, 3] (by decide) rfl
  have hK9 : va_K D vwCl [] s := hK.sub [] rfl
  exact W.iret (v := 0) hx hb hr (fun t ht9 hW9 => ⟨⟨0, (), rfl, by first | rfl | trivial | (simp only [if_true, if_false, reduceIte, and_self]; done) | simp_all, ⟨by rw [ht9]; exact hP9, va_K.moved hW9.alike hK9, hD9⟩⟩, hS.F ht9⟩) hS.2.2 dX7_codes_13
set_option maxHeartbeats 4000000 in
set_option maxRecDepth 100000 in
theorem c_W_successes (l : Launch) (D : va_G) (w : Nat) (st : Nat) (hi : Nat) (re : Nat) (fo : Nat) (bu : Nat) (pa : Nat) (la : Nat) (me : Nat) (li : Nat) (tol : Int32) (su : Int32) (fa : Int32) (sz : Nat) : k_Mi (S := Unit) l D yX7_successes cX7_successes 1 (some .int) 0 0 0 0 [.ref w] [(w, .inr (7, [.ref st, .ref hi, .ref re, .ref fo, .ref bu, .ref pa])), (st, .inr (6, [.ref la, .ref me, .ref li, .int tol, .int su, .int fa]))] [] (fun (r : Int32) (_ : Unit) => r = su) (fun _ => [(w, .inr (7, [.ref st, .ref hi, .ref re, .ref fo, .ref bu, .ref pa])), (st, .inr (6, [.ref la, .ref me, .ref li, .int tol, .int su, .int fa]))]) (fun _ => []) sz := by
  refine Met.ofW (cc := cX7_successes) (maxL := 1) (ret := (some .int)) (by decide) rfl ?_
  intro p e s m args below meth c s₁ B hml hv
  obtain ⟨rfl, hsz, hP, hK, hD0, hG⟩ := hv
  have hx := B.exec
  have hb := B.bytes
  have hr := B.returns
  have ht : ∀ v9 ∈ wsA, v9.before ([.ref w] : List Value).toArray s = true := fun v9 h9 => atoms_spec (ws := k_ws yX7_successes cX7_successes 1 (some .int)) B.pre v9 (List.mem_cons_of_mem _ h9)
  have hown : s.vm.findClass RX7 = some m.cls := findClass_of_methodNamed B.named
  have S0 : k_C p s m ([.ref w] : List Value).toArray c cX7_successes 1 RX7 := ⟨hx, hb, hml, hown, ht⟩
  have hlocks := B.notSynchronized
  subst hsz
  have hD := hD0.self (sz := s.heap.size)
  generalize hAe : va_A [(w, .inr (7, [.ref st, .ref hi, .ref re, .ref fo, .ref bu, .ref pa])), (st, .inr (6, [.ref la, .ref me, .ref li, .int tol, .int su, .int fa]))] s.heap.size = A at hD hG ⊢
  have hA : ∀ q : Nat, s.heap.size ≤ q → A q := fun q h => by rw [← hAe]; exact Or.inr h
  have hS : va_S A s.heap s.heap [] := va_S.rf
  have hl := lv_entry ([.ref w]) (n := 1) (Nat.le_of_ble_eq_true rfl)
  rw [lg_entry_eq]
  generalize (lg_sl ([.ref w]) ++ List.replicate (1 - (lg_sl ([.ref w])).length) Slot.unset).toArray = ls at hl ⊢
  have hl : lv_has ls 1 [(0, .ref w)] := hl
  have hP : va_P D vwCl [(w, .inr (7, [.ref st, .ref hi, .ref re, .ref fo, .ref bu, .ref pa])), (st, .inr (6, [.ref la, .ref me, .ref li, .int tol, .int su, .int fa]))] s.heap := hP
  refine lv_aload_n hx hb dX7_successes_0 rfl (lv_at hl 0 rfl) ?_
  refine va_get (D := D) (ci := 7) (v := .ref st) (C := RX7) (T := TX7) (N := 6) hx hb ht inA_X7 hown hK hP 0 rfl rfl 0 (by decide) (ht _ lf_X7_10) (fun _ h9 => h9) rfl dX7_successes_1 ?_
  refine va_get (D := D) (ci := 6) (v := .int su) (C := RX6) (T := TX6) (N := 6) hx hb ht inA_X6 hown hK hP 1 rfl rfl 4 (by decide) (ht _ lf_X7_189) (fun _ h9 => h9) rfl dX7_successes_4 ?_
  have hP9 : va_P D vwCl [(w, .inr (7, [.ref st, .ref hi, .ref re, .ref fo, .ref bu, .ref pa])), (st, .inr (6, [.ref la, .ref me, .ref li, .int tol, .int su, .int fa]))] s.heap := hP.sub [0, 1] rfl
  have hD9 : va_D A [(w, .inr (7, [.ref st, .ref hi, .ref re, .ref fo, .ref bu, .ref pa])), (st, .inr (6, [.ref la, .ref me, .ref li, .int tol, .int su, .int fa]))] := hD.sub [0, 1] (by decide) rfl
  have hK9 : va_K D vwCl [] s := hK.sub [] rfl
  exact W.iret (v := su) hx hb hr (fun t ht9 hW9 => ⟨⟨su, (), rfl, by first | rfl | trivial | (simp only [if_true, if_false, reduceIte, and_self]; done) | simp_all, ⟨by rw [ht9]; exact hP9, va_K.moved hW9.alike hK9, hD9⟩⟩, hS.F ht9⟩) hS.2.2 dX7_successes_7
set_option maxHeartbeats 4000000 in
set_option maxRecDepth 100000 in
theorem c_W_failures (l : Launch) (D : va_G) (w : Nat) (st : Nat) (hi : Nat) (re : Nat) (fo : Nat) (bu : Nat) (pa : Nat) (la : Nat) (me : Nat) (li : Nat) (tol : Int32) (su : Int32) (fa : Int32) (sz : Nat) : k_Mi (S := Unit) l D yX7_failures cX7_failures 1 (some .int) 0 0 0 0 [.ref w] [(w, .inr (7, [.ref st, .ref hi, .ref re, .ref fo, .ref bu, .ref pa])), (st, .inr (6, [.ref la, .ref me, .ref li, .int tol, .int su, .int fa]))] [] (fun (r : Int32) (_ : Unit) => r = fa) (fun _ => [(w, .inr (7, [.ref st, .ref hi, .ref re, .ref fo, .ref bu, .ref pa])), (st, .inr (6, [.ref la, .ref me, .ref li, .int tol, .int su, .int fa]))]) (fun _ => []) sz := by
  refine Met.ofW (cc := cX7_failures) (maxL := 1) (ret := (some .int)) (by decide) rfl ?_
  intro p e s m args below meth c s₁ B hml hv
  obtain ⟨rfl, hsz, hP, hK, hD0, hG⟩ := hv
  have hx := B.exec
  have hb := B.bytes
  have hr := B.returns
  have ht : ∀ v9 ∈ wsA, v9.before ([.ref w] : List Value).toArray s = true := fun v9 h9 => atoms_spec (ws := k_ws yX7_failures cX7_failures 1 (some .int)) B.pre v9 (List.mem_cons_of_mem _ h9)
  have hown : s.vm.findClass RX7 = some m.cls := findClass_of_methodNamed B.named
  have S0 : k_C p s m ([.ref w] : List Value).toArray c cX7_failures 1 RX7 := ⟨hx, hb, hml, hown, ht⟩
  have hlocks := B.notSynchronized
  subst hsz
  have hD := hD0.self (sz := s.heap.size)
  generalize hAe : va_A [(w, .inr (7, [.ref st, .ref hi, .ref re, .ref fo, .ref bu, .ref pa])), (st, .inr (6, [.ref la, .ref me, .ref li, .int tol, .int su, .int fa]))] s.heap.size = A at hD hG ⊢
  have hA : ∀ q : Nat, s.heap.size ≤ q → A q := fun q h => by rw [← hAe]; exact Or.inr h
  have hS : va_S A s.heap s.heap [] := va_S.rf
  have hl := lv_entry ([.ref w]) (n := 1) (Nat.le_of_ble_eq_true rfl)
  rw [lg_entry_eq]
  generalize (lg_sl ([.ref w]) ++ List.replicate (1 - (lg_sl ([.ref w])).length) Slot.unset).toArray = ls at hl ⊢
  have hl : lv_has ls 1 [(0, .ref w)] := hl
  have hP : va_P D vwCl [(w, .inr (7, [.ref st, .ref hi, .ref re, .ref fo, .ref bu, .ref pa])), (st, .inr (6, [.ref la, .ref me, .ref li, .int tol, .int su, .int fa]))] s.heap := hP
  refine lv_aload_n hx hb dX7_failures_0 rfl (lv_at hl 0 rfl) ?_
  refine va_get (D := D) (ci := 7) (v := .ref st) (C := RX7) (T := TX7) (N := 6) hx hb ht inA_X7 hown hK hP 0 rfl rfl 0 (by decide) (ht _ lf_X7_10) (fun _ h9 => h9) rfl dX7_failures_1 ?_
  refine va_get (D := D) (ci := 6) (v := .int fa) (C := RX6) (T := TX6) (N := 6) hx hb ht inA_X6 hown hK hP 1 rfl rfl 5 (by decide) (ht _ lf_X7_192) (fun _ h9 => h9) rfl dX7_failures_4 ?_
  have hP9 : va_P D vwCl [(w, .inr (7, [.ref st, .ref hi, .ref re, .ref fo, .ref bu, .ref pa])), (st, .inr (6, [.ref la, .ref me, .ref li, .int tol, .int su, .int fa]))] s.heap := hP.sub [0, 1] rfl
  have hD9 : va_D A [(w, .inr (7, [.ref st, .ref hi, .ref re, .ref fo, .ref bu, .ref pa])), (st, .inr (6, [.ref la, .ref me, .ref li, .int tol, .int su, .int fa]))] := hD.sub [0, 1] (by decide) rfl
  have hK9 : va_K D vwCl [] s := hK.sub [] rfl
  exact W.iret (v := fa) hx hb hr (fun t ht9 hW9 => ⟨⟨fa, (), rfl, by first | rfl | trivial | (simp only [if_true, if_false, reduceIte, and_self]; done) | simp_all, ⟨by rw [ht9]; exact hP9, va_K.moved hW9.alike hK9, hD9⟩⟩, hS.F ht9⟩) hS.2.2 dX7_failures_7
set_option maxHeartbeats 4000000 in
set_option maxRecDepth 100000 in
theorem c_W_saved (l : Launch) (D : va_G) (w : Nat) (st : Nat) (hi : Nat) (re : Nat) (fo : Nat) (bu : Nat) (pa : Nat) (ri : Nat) (nx : Int32) (kp : Int32) (sz : Nat) : k_Mi (S := Unit) l D yX7_savedStates cX7_savedStates 1 (some .int) 1 0 0 20 [.ref w] [(w, .inr (7, [.ref st, .ref hi, .ref re, .ref fo, .ref bu, .ref pa])), (hi, .inr (5, [.ref ri, .int nx, .int kp]))] [] (fun (r : Int32) (_ : Unit) => r = kp) (fun _ => [(w, .inr (7, [.ref st, .ref hi, .ref re, .ref fo, .ref bu, .ref pa])), (hi, .inr (5, [.ref ri, .int nx, .int kp]))]) (fun _ => []) sz := by
  refine Met.ofW (cc := cX7_savedStates) (maxL := 1) (ret := (some .int)) (by decide) rfl ?_
  intro p e s m args below meth c s₁ B hml hv
  obtain ⟨rfl, hsz, hP, hK, hD0, hG⟩ := hv
  have hx := B.exec
  have hb := B.bytes
  have hr := B.returns
  have ht : ∀ v9 ∈ wsA, v9.before ([.ref w] : List Value).toArray s = true := fun v9 h9 => atoms_spec (ws := k_ws yX7_savedStates cX7_savedStates 1 (some .int)) B.pre v9 (List.mem_cons_of_mem _ h9)
  have hown : s.vm.findClass RX7 = some m.cls := findClass_of_methodNamed B.named
  have S0 : k_C p s m ([.ref w] : List Value).toArray c cX7_savedStates 1 RX7 := ⟨hx, hb, hml, hown, ht⟩
  have hlocks := B.notSynchronized
  subst hsz
  have hD := hD0.self (sz := s.heap.size)
  generalize hAe : va_A [(w, .inr (7, [.ref st, .ref hi, .ref re, .ref fo, .ref bu, .ref pa])), (hi, .inr (5, [.ref ri, .int nx, .int kp]))] s.heap.size = A at hD hG ⊢
  have hA : ∀ q : Nat, s.heap.size ≤ q → A q := fun q h => by rw [← hAe]; exact Or.inr h
  have hS : va_S A s.heap s.heap [] := va_S.rf
  have hl := lv_entry ([.ref w]) (n := 1) (Nat.le_of_ble_eq_true rfl)
  rw [lg_entry_eq]
  generalize (lg_sl ([.ref w]) ++ List.replicate (1 - (lg_sl ([.ref w])).length) Slot.unset).toArray = ls at hl ⊢
  have hl : lv_has ls 1 [(0, .ref w)] := hl
  have hP : va_P D vwCl [(w, .inr (7, [.ref st, .ref hi, .ref re, .ref fo, .ref bu, .ref pa])), (hi, .inr (5, [.ref ri, .int nx, .int kp]))] s.heap := hP
  refine lv_aload_n hx hb dX7_savedStates_0 rfl (lv_at hl 0 rfl) ?_
  refine va_get (D := D) (ci := 7) (v := .ref hi) (C := RX7) (T := TX7) (N := 6) hx hb ht inA_X7 hown hK hP 0 rfl rfl 1 (by decide) (ht _ lf_X7_19) (fun _ h9 => h9) rfl dX7_savedStates_1 ?_
  have ct := k_cut_of (wc := [(hi, .inr (5, [.ref ri, .int nx, .int kp]))]) (wr := [(w, .inr (7, [.ref st, .ref hi, .ref re, .ref fo, .ref bu, .ref pa]))]) (tc := []) hG hS hA hK hP hD [1] [0] [] rfl rfl (by decide) (by decide) (by decide) rfl
  refine k_endi (As := [.ref hi]) ct (k_runV (As := []) (rest := []) S0 Lv_X7_223 rfl (ci := 5) (q0 := 0) rfl rfl ct (c_Saved_size l D hi ri nx kp s.heap.size) hl.1 rfl (Nat.le_of_ble_eq_true rfl) rfl dX7_savedStates_4 ⟨⟨Nat.le_of_ble_eq_true rfl, Nat.le_of_ble_eq_true rfl⟩, Nat.le_of_ble_eq_true rfl, Nat.le_of_ble_eq_true rfl⟩) rfl rfl (fun r_1 _ H locs hw_2 hP hD hK hS => ?_)
  have hK : va_K D vwCl [] s := hK
  have hP : va_P D vwCl [(w, .inr (7, [.ref st, .ref hi, .ref re, .ref fo, .ref bu, .ref pa])), (hi, .inr (5, [.ref ri, .int nx, .int kp]))] H := hP
  have hD : va_D A [(w, .inr (7, [.ref st, .ref hi, .ref re, .ref fo, .ref bu, .ref pa])), (hi, .inr (5, [.ref ri, .int nx, .int kp]))] := hD
  have hw_2 : r_1 = kp := hw_2
  have hw_2 := hw_2.symm
  subst hw_2
  refine k_nrm (y := kp) rfl ?_
  have hP9 : va_P D vwCl [(w, .inr (7, [.ref st, .ref hi, .ref re, .ref fo, .ref bu, .ref pa])), (hi, .inr (5, [.ref ri, .int nx, .int kp]))] H := hP.sub [0, 1] rfl
  have hD9 : va_D A [(w, .inr (7, [.ref st, .ref hi, .ref re, .ref fo, .ref bu, .ref pa])), (hi, .inr (5, [.ref ri, .int nx, .int kp]))] := hD.sub [0, 1] (by decide) rfl
  have hK9 : va_K D vwCl [] s := hK.sub [] rfl
  exact W.iret (v := kp) hx hb hr (fun t ht9 hW9 => ⟨⟨kp, (), rfl, by first | rfl | trivial | (simp only [if_true, if_false, reduceIte, and_self]; done) | simp_all, ⟨by rw [ht9]; exact hP9, va_K.moved hW9.alike hK9, hD9⟩⟩, hS.F ht9⟩) hS.2.2 dX7_savedStates_7
set_option maxHeartbeats 4000000 in
set_option maxRecDepth 100000 in
theorem c_W_result (l : Launch) (D : va_G) (w : Nat) (st : Nat) (hi : Nat) (re : Nat) (fo : Nat) (bu : Nat) (pa : Nat) (la : Nat) (me : Nat) (li : Nat) (tol : Int32) (su : Int32) (fa : Int32) (meA : Nat) (rd : Nat) (nd : Int32) (rl : Nat) (ldi : Int32) (sot : Int32) (tie : Int32) (ff : Int32) (ft : Int32) (rdA : Nat) (rdN : Int32) (rlA : Nat) (rlN : Int32) (sz : Nat) : k_Mi (S := Unit) l D yX7_result cX7_result 1 (some .int) 4 0 0 93 [.ref w] [(w, .inr (7, [.ref st, .ref hi, .ref re, .ref fo, .ref bu, .ref pa])), (st, .inr (6, [.ref la, .ref me, .ref li, .int tol, .int su, .int fa])), (me, .inr (4, [.ref meA, .int 0])), (re, .inr (3, [.ref rd, .int nd, .ref rl, .int ldi, .int sot, .int tie, .int ff, .int ft])), (rd, .inr (4, [.ref rdA, .int rdN])), (rl, .inr (4, [.ref rlA, .int rlN]))] [] (fun (r : Int32) (_ : Unit) => r = 1) (fun _ => [(w, .inr (7, [.ref st, .ref hi, .ref re, .ref fo, .ref bu, .ref pa])), (st, .inr (6, [.ref la, .ref me, .ref li, .int tol, .int su, .int fa])), (me, .inr (4, [.ref meA, .int 0])), (re, .inr (3, [.ref rd, .int nd, .ref rl, .int ldi, .int sot, .int tie, .int 0, .int 0])), (rd, .inr (4, [.ref rdA, .int 0])), (rl, .inr (4, [.ref rlA, .int 0]))]) (fun _ => []) sz := by
  refine Met.ofW (cc := cX7_result) (maxL := 1) (ret := (some .int)) (by decide) rfl ?_
  intro p e s m args below meth c s₁ B hml hv
  obtain ⟨rfl, hsz, hP, hK, hD0, hG⟩ := hv
  have hx := B.exec
  have hb := B.bytes
  have hr := B.returns
  have ht : ∀ v9 ∈ wsA, v9.before ([.ref w] : List Value).toArray s = true := fun v9 h9 => atoms_spec (ws := k_ws yX7_result cX7_result 1 (some .int)) B.pre v9 (List.mem_cons_of_mem _ h9)
  have hown : s.vm.findClass RX7 = some m.cls := findClass_of_methodNamed B.named
  have S0 : k_C p s m ([.ref w] : List Value).toArray c cX7_result 1 RX7 := ⟨hx, hb, hml, hown, ht⟩
  have hlocks := B.notSynchronized
  subst hsz
  have hD := hD0.self (sz := s.heap.size)
  generalize hAe : va_A [(w, .inr (7, [.ref st, .ref hi, .ref re, .ref fo, .ref bu, .ref pa])), (st, .inr (6, [.ref la, .ref me, .ref li, .int tol, .int su, .int fa])), (me, .inr (4, [.ref meA, .int 0])), (re, .inr (3, [.ref rd, .int nd, .ref rl, .int ldi, .int sot, .int tie, .int ff, .int ft])), (rd, .inr (4, [.ref rdA, .int rdN])), (rl, .inr (4, [.ref rlA, .int rlN]))] s.heap.size = A at hD hG ⊢
  have hA : ∀ q : Nat, s.heap.size ≤ q → A q := fun q h => by rw [← hAe]; exact Or.inr h
  have hS : va_S A s.heap s.heap [] := va_S.rf
  have hl := lv_entry ([.ref w]) (n := 1) (Nat.le_of_ble_eq_true rfl)
  rw [lg_entry_eq]
  generalize (lg_sl ([.ref w]) ++ List.replicate (1 - (lg_sl ([.ref w])).length) Slot.unset).toArray = ls at hl ⊢
  have hl : lv_has ls 1 [(0, .ref w)] := hl
  have hP : va_P D vwCl [(w, .inr (7, [.ref st, .ref hi, .ref re, .ref fo, .ref bu, .ref pa])), (st, .inr (6, [.ref la, .ref me, .ref li, .int tol, .int su, .int fa])), (me, .inr (4, [.ref meA, .int 0])), (re, .inr (3, [.ref rd, .int nd, .ref rl, .int ldi, .int sot, .int tie, .int ff, .int ft])), (rd, .inr (4, [.ref rdA, .int rdN])), (rl, .inr (4, [.ref rlA, .int rlN]))] s.heap := hP
  refine lv_aload_n hx hb dX7_result_0 rfl (lv_at hl 0 rfl) ?_
  refine va_get (D := D) (ci := 7) (v := .ref re) (C := RX7) (T := TX7) (N := 6) hx hb ht inA_X7 hown hK hP 0 rfl rfl 2 (by decide) (ht _ lf_X7_26) (fun _ h9 => h9) rfl dX7_result_1 ?_
  refine lv_aload_n hx hb dX7_result_4 rfl (lv_at hl 0 rfl) ?_
  refine va_get (D := D) (ci := 7) (v := .ref st) (C := RX7) (T := TX7) (N := 6) hx hb ht inA_X7 hown hK hP 0 rfl rfl 0 (by decide) (ht _ lf_X7_10) (fun _ h9 => h9) rfl dX7_result_5 ?_
  refine va_get (D := D) (ci := 6) (v := .ref me) (C := RX6) (T := TX6) (N := 6) hx hb ht inA_X6 hown hK hP 1 rfl rfl 1 (by decide) (ht _ lf_X7_112) (fun _ h9 => h9) rfl dX7_result_8 ?_
  refine lv_aload_n hx hb dX7_result_11 rfl (lv_at hl 0 rfl) ?_
  refine va_get (D := D) (ci := 7) (v := .ref st) (C := RX7) (T := TX7) (N := 6) hx hb ht inA_X7 hown hK hP 0 rfl rfl 0 (by decide) (ht _ lf_X7_10) (fun _ h9 => h9) rfl dX7_result_12 ?_
  refine va_get (D := D) (ci := 6) (v := .int tol) (C := RX6) (T := TX6) (N := 6) hx hb ht inA_X6 hown hK hP 1 rfl rfl 3 (by decide) (ht _ lf_X7_144) (fun _ h9 => h9) rfl dX7_result_15 ?_
  have ct := k_cut_of (wc := [(re, .inr (3, [.ref rd, .int nd, .ref rl, .int ldi, .int sot, .int tie, .int ff, .int ft])), (rd, .inr (4, [.ref rdA, .int rdN])), (rl, .inr (4, [.ref rlA, .int rlN])), (me, .inr (4, [.ref meA, .int 0]))]) (wr := [(w, .inr (7, [.ref st, .ref hi, .ref re, .ref fo, .ref bu, .ref pa])), (st, .inr (6, [.ref la, .ref me, .ref li, .int tol, .int su, .int fa]))]) (tc := []) hG hS hA hK hP hD [3, 4, 5, 2] [0, 1] [] rfl rfl (by decide) (by decide) (by decide) rfl
  refine k_endi (As := [.ref re, .ref me, .int tol]) ct (k_runV (As := [.ref me, .int tol]) (rest := []) S0 Lv_X7_148 rfl (ci := 3) (q0 := 0) rfl rfl ct (c_resultOf0 l D re rd nd rl ldi sot tie ff ft rdA rdN rlA rlN me meA tol s.heap.size) hl.1 rfl (Nat.le_of_ble_eq_true rfl) rfl dX7_result_18 ⟨⟨Nat.le_of_ble_eq_true rfl, Nat.le_of_ble_eq_true rfl⟩, Nat.le_of_ble_eq_true rfl, Nat.le_of_ble_eq_true rfl⟩) rfl rfl (fun r_1 _ H locs hw_2 hP hD hK hS => ?_)
  have hK : va_K D vwCl [] s := hK
  have hP : va_P D vwCl [(w, .inr (7, [.ref st, .ref hi, .ref re, .ref fo, .ref bu, .ref pa])), (st, .inr (6, [.ref la, .ref me, .ref li, .int tol, .int su, .int fa])), (re, .inr (3, [.ref rd, .int nd, .ref rl, .int ldi, .int sot, .int tie, .int 0, .int 0])), (rd, .inr (4, [.ref rdA, .int 0])), (rl, .inr (4, [.ref rlA, .int 0])), (me, .inr (4, [.ref meA, .int 0]))] H := hP
  have hD : va_D A [(w, .inr (7, [.ref st, .ref hi, .ref re, .ref fo, .ref bu, .ref pa])), (st, .inr (6, [.ref la, .ref me, .ref li, .int tol, .int su, .int fa])), (re, .inr (3, [.ref rd, .int nd, .ref rl, .int ldi, .int sot, .int tie, .int 0, .int 0])), (rd, .inr (4, [.ref rdA, .int 0])), (rl, .inr (4, [.ref rlA, .int 0])), (me, .inr (4, [.ref meA, .int 0]))] := hD
  have hw_2 : r_1 = 1 := hw_2
  have hw_2 := hw_2.symm
  subst hw_2
  refine k_nrm (y := 1) rfl ?_
  have hP9 : va_P D vwCl [(w, .inr (7, [.ref st, .ref hi, .ref re, .ref fo, .ref bu, .ref pa])), (st, .inr (6, [.ref la, .ref me, .ref li, .int tol, .int su, .int fa])), (me, .inr (4, [.ref meA, .int 0])), (re, .inr (3, [.ref rd, .int nd, .ref rl, .int ldi, .int sot, .int tie, .int 0, .int 0])), (rd, .inr (4, [.ref rdA, .int 0])), (rl, .inr (4, [.ref rlA, .int 0]))] H := hP.sub [0, 1, 5, 2, 3, 4] rfl
  have hD9 : va_D A [(w, .inr (7, [.ref st, .ref hi, .ref re, .ref fo, .ref bu, .ref pa])), (st, .inr (6, [.ref la, .ref me, .ref li, .int tol, .int su, .int fa])), (me, .inr (4, [.ref meA, .int 0])), (re, .inr (3, [.ref rd, .int nd, .ref rl, .int ldi, .int sot, .int tie, .int 0, .int 0])), (rd, .inr (4, [.ref rdA, .int 0])), (rl, .inr (4, [.ref rlA, .int 0]))] := hD.sub [0, 1, 5, 2, 3, 4] (by decide) rfl
  have hK9 : va_K D vwCl [] s := hK.sub [] rfl
  exact W.iret (v := 1) hx hb hr (fun t ht9 hW9 => ⟨⟨1, (), rfl, by first | rfl | trivial | (simp only [if_true, if_false, reduceIte, and_self]; done) | simp_all, ⟨by rw [ht9]; exact hP9, va_K.moved hW9.alike hK9, hD9⟩⟩, hS.F ht9⟩) hS.2.2 dX7_result_21
set_option maxHeartbeats 4000000 in
set_option maxRecDepth 100000 in
theorem c_W_reason (l : Launch) (D : va_G) (w : Nat) (st : Nat) (hi : Nat) (re : Nat) (fo : Nat) (bu : Nat) (pa : Nat) (la : Nat) (me : Nat) (li : Nat) (tol : Int32) (su : Int32) (fa : Int32) (meA : Nat) (rd : Nat) (nd : Int32) (rl : Nat) (ldi : Int32) (sot : Int32) (tie : Int32) (ff : Int32) (ft : Int32) (rdA : Nat) (rdN : Int32) (rlA : Nat) (rlN : Int32) (b : Int32) (sz : Nat) : k_Mi (S := Unit) l D yX7_reason cX7_reason 2 (some .int) 3 0 0 69 [.ref w, .int b] [(w, .inr (7, [.ref st, .ref hi, .ref re, .ref fo, .ref bu, .ref pa])), (st, .inr (6, [.ref la, .ref me, .ref li, .int tol, .int su, .int fa])), (me, .inr (4, [.ref meA, .int 0])), (re, .inr (3, [.ref rd, .int nd, .ref rl, .int ldi, .int sot, .int tie, .int ff, .int ft])), (rd, .inr (4, [.ref rdA, .int rdN])), (rl, .inr (4, [.ref rlA, .int rlN]))] [] (fun (r : Int32) (_ : Unit) => r = 1) (fun _ => [(w, .inr (7, [.ref st, .ref hi, .ref re, .ref fo, .ref bu, .ref pa])), (st, .inr (6, [.ref la, .ref me, .ref li, .int tol, .int su, .int fa])), (me, .inr (4, [.ref meA, .int 0])), (re, .inr (3, [.ref rd, .int nd, .ref rl, .int ldi, .int sot, .int tie, .int 0, .int 0])), (rd, .inr (4, [.ref rdA, .int 0])), (rl, .inr (4, [.ref rlA, .int 0]))]) (fun _ => []) sz := by
  refine Met.ofW (cc := cX7_reason) (maxL := 2) (ret := (some .int)) (by decide) rfl ?_
  intro p e s m args below meth c s₁ B hml hv
  obtain ⟨rfl, hsz, hP, hK, hD0, hG⟩ := hv
  have hx := B.exec
  have hb := B.bytes
  have hr := B.returns
  have ht : ∀ v9 ∈ wsA, v9.before ([.ref w, .int b] : List Value).toArray s = true := fun v9 h9 => atoms_spec (ws := k_ws yX7_reason cX7_reason 2 (some .int)) B.pre v9 (List.mem_cons_of_mem _ h9)
  have hown : s.vm.findClass RX7 = some m.cls := findClass_of_methodNamed B.named
  have S0 : k_C p s m ([.ref w, .int b] : List Value).toArray c cX7_reason 2 RX7 := ⟨hx, hb, hml, hown, ht⟩
  have hlocks := B.notSynchronized
  subst hsz
  have hD := hD0.self (sz := s.heap.size)
  generalize hAe : va_A [(w, .inr (7, [.ref st, .ref hi, .ref re, .ref fo, .ref bu, .ref pa])), (st, .inr (6, [.ref la, .ref me, .ref li, .int tol, .int su, .int fa])), (me, .inr (4, [.ref meA, .int 0])), (re, .inr (3, [.ref rd, .int nd, .ref rl, .int ldi, .int sot, .int tie, .int ff, .int ft])), (rd, .inr (4, [.ref rdA, .int rdN])), (rl, .inr (4, [.ref rlA, .int rlN]))] s.heap.size = A at hD hG ⊢
  have hA : ∀ q : Nat, s.heap.size ≤ q → A q := fun q h => by rw [← hAe]; exact Or.inr h
  have hS : va_S A s.heap s.heap [] := va_S.rf
  have hl := lv_entry ([.ref w, .int b]) (n := 2) (Nat.le_of_ble_eq_true rfl)
  rw [lg_entry_eq]
  generalize (lg_sl ([.ref w, .int b]) ++ List.replicate (2 - (lg_sl ([.ref w, .int b])).length) Slot.unset).toArray = ls at hl ⊢
  have hl : lv_has ls 2 [(0, .ref w), (1, .int b)] := hl
  have hP : va_P D vwCl [(w, .inr (7, [.ref st, .ref hi, .ref re, .ref fo, .ref bu, .ref pa])), (st, .inr (6, [.ref la, .ref me, .ref li, .int tol, .int su, .int fa])), (me, .inr (4, [.ref meA, .int 0])), (re, .inr (3, [.ref rd, .int nd, .ref rl, .int ldi, .int sot, .int tie, .int ff, .int ft])), (rd, .inr (4, [.ref rdA, .int rdN])), (rl, .inr (4, [.ref rlA, .int rlN]))] s.heap := hP
  refine lv_aload_n hx hb dX7_reason_0 rfl (lv_at hl 0 rfl) ?_
  refine va_get (D := D) (ci := 7) (v := .ref re) (C := RX7) (T := TX7) (N := 6) hx hb ht inA_X7 hown hK hP 0 rfl rfl 2 (by decide) (ht _ lf_X7_26) (fun _ h9 => h9) rfl dX7_reason_1 ?_
  refine lv_aload_n hx hb dX7_reason_4 rfl (lv_at hl 0 rfl) ?_
  refine va_get (D := D) (ci := 7) (v := .ref st) (C := RX7) (T := TX7) (N := 6) hx hb ht inA_X7 hown hK hP 0 rfl rfl 0 (by decide) (ht _ lf_X7_10) (fun _ h9 => h9) rfl dX7_reason_5 ?_
  refine va_get (D := D) (ci := 6) (v := .ref me) (C := RX6) (T := TX6) (N := 6) hx hb ht inA_X6 hown hK hP 1 rfl rfl 1 (by decide) (ht _ lf_X7_112) (fun _ h9 => h9) rfl dX7_reason_8 ?_
  refine lv_iload_n hx hb dX7_reason_11 rfl (lv_at hl 1 rfl) ?_
  refine lv_aload_n hx hb dX7_reason_12 rfl (lv_at hl 0 rfl) ?_
  refine va_get (D := D) (ci := 7) (v := .ref st) (C := RX7) (T := TX7) (N := 6) hx hb ht inA_X7 hown hK hP 0 rfl rfl 0 (by decide) (ht _ lf_X7_10) (fun _ h9 => h9) rfl dX7_reason_13 ?_
  refine va_get (D := D) (ci := 6) (v := .int tol) (C := RX6) (T := TX6) (N := 6) hx hb ht inA_X6 hown hK hP 1 rfl rfl 3 (by decide) (ht _ lf_X7_144) (fun _ h9 => h9) rfl dX7_reason_16 ?_
  have ct := k_cut_of (wc := [(re, .inr (3, [.ref rd, .int nd, .ref rl, .int ldi, .int sot, .int tie, .int ff, .int ft])), (rd, .inr (4, [.ref rdA, .int rdN])), (rl, .inr (4, [.ref rlA, .int rlN])), (me, .inr (4, [.ref meA, .int 0]))]) (wr := [(w, .inr (7, [.ref st, .ref hi, .ref re, .ref fo, .ref bu, .ref pa])), (st, .inr (6, [.ref la, .ref me, .ref li, .int tol, .int su, .int fa]))]) (tc := []) hG hS hA hK hP hD [3, 4, 5, 2] [0, 1] [] rfl rfl (by decide) (by decide) (by decide) rfl
  refine k_endi (As := [.ref re, .ref me, .int b, .int tol]) ct (k_runV (As := [.ref me, .int b, .int tol]) (rest := []) S0 Lv_X7_152 rfl (ci := 3) (q0 := 0) rfl rfl ct (c_failureOf0 l D re rd nd rl ldi sot tie ff ft rdA rdN rlA rlN me meA b tol s.heap.size) hl.1 rfl (Nat.le_of_ble_eq_true rfl) rfl dX7_reason_19 ⟨⟨Nat.le_of_ble_eq_true rfl, Nat.le_of_ble_eq_true rfl⟩, Nat.le_of_ble_eq_true rfl, Nat.le_of_ble_eq_true rfl⟩) rfl rfl (fun r_1 _ H locs hw_2 hP hD hK hS => ?_)
  have hK : va_K D vwCl [] s := hK
  have hP : va_P D vwCl [(w, .inr (7, [.ref st, .ref hi, .ref re, .ref fo, .ref bu, .ref pa])), (st, .inr (6, [.ref la, .ref me, .ref li, .int tol, .int su, .int fa])), (re, .inr (3, [.ref rd, .int nd, .ref rl, .int ldi, .int sot, .int tie, .int 0, .int 0])), (rd, .inr (4, [.ref rdA, .int 0])), (rl, .inr (4, [.ref rlA, .int 0])), (me, .inr (4, [.ref meA, .int 0]))] H := hP
  have hD : va_D A [(w, .inr (7, [.ref st, .ref hi, .ref re, .ref fo, .ref bu, .ref pa])), (st, .inr (6, [.ref la, .ref me, .ref li, .int tol, .int su, .int fa])), (re, .inr (3, [.ref rd, .int nd, .ref rl, .int ldi, .int sot, .int tie, .int 0, .int 0])), (rd, .inr (4, [.ref rdA, .int 0])), (rl, .inr (4, [.ref rlA, .int 0])), (me, .inr (4, [.ref meA, .int 0]))] := hD
  have hw_2 : r_1 = 1 := hw_2
  have hw_2 := hw_2.symm
  subst hw_2
  refine k_nrm (y := 1) rfl ?_
  have hP9 : va_P D vwCl [(w, .inr (7, [.ref st, .ref hi, .ref re, .ref fo, .ref bu, .ref pa])), (st, .inr (6, [.ref la, .ref me, .ref li, .int tol, .int su, .int fa])), (me, .inr (4, [.ref meA, .int 0])), (re, .inr (3, [.ref rd, .int nd, .ref rl, .int ldi, .int sot, .int tie, .int 0, .int 0])), (rd, .inr (4, [.ref rdA, .int 0])), (rl, .inr (4, [.ref rlA, .int 0]))] H := hP.sub [0, 1, 5, 2, 3, 4] rfl
  have hD9 : va_D A [(w, .inr (7, [.ref st, .ref hi, .ref re, .ref fo, .ref bu, .ref pa])), (st, .inr (6, [.ref la, .ref me, .ref li, .int tol, .int su, .int fa])), (me, .inr (4, [.ref meA, .int 0])), (re, .inr (3, [.ref rd, .int nd, .ref rl, .int ldi, .int sot, .int tie, .int 0, .int 0])), (rd, .inr (4, [.ref rdA, .int 0])), (rl, .inr (4, [.ref rlA, .int 0]))] := hD.sub [0, 1, 5, 2, 3, 4] (by decide) rfl
  have hK9 : va_K D vwCl [] s := hK.sub [] rfl
  exact W.iret (v := 1) hx hb hr (fun t ht9 hW9 => ⟨⟨1, (), rfl, by first | rfl | trivial | (simp only [if_true, if_false, reduceIte, and_self]; done) | simp_all, ⟨by rw [ht9]; exact hP9, va_K.moved hW9.alike hK9, hD9⟩⟩, hS.F ht9⟩) hS.2.2 dX7_reason_22
set_option maxHeartbeats 4000000 in
set_option maxRecDepth 100000 in
theorem c_W_least (l : Launch) (D : va_G) (w : Nat) (st : Nat) (hi : Nat) (re : Nat) (fo : Nat) (bu : Nat) (pa : Nat) (la : Nat) (me : Nat) (li : Nat) (tol : Int32) (su : Int32) (fa : Int32) (meA : Nat) (rd : Nat) (nd : Int32) (rl : Nat) (ldi : Int32) (sot : Int32) (tie : Int32) (ff : Int32) (ft : Int32) (rdA : Nat) (rdN : Int32) (rlA : Nat) (rlN : Int32) (sz : Nat) : k_Mi (S := Unit) l D yX7_leastTolerance cX7_leastTolerance 2 (some .int) 4 0 0 93 [.ref w] [(w, .inr (7, [.ref st, .ref hi, .ref re, .ref fo, .ref bu, .ref pa])), (st, .inr (6, [.ref la, .ref me, .ref li, .int tol, .int su, .int fa])), (me, .inr (4, [.ref meA, .int 0])), (re, .inr (3, [.ref rd, .int nd, .ref rl, .int ldi, .int sot, .int tie, .int ff, .int ft])), (rd, .inr (4, [.ref rdA, .int rdN])), (rl, .inr (4, [.ref rlA, .int rlN]))] [] (fun (r : Int32) (_ : Unit) => r = (-1)) (fun _ => [(w, .inr (7, [.ref st, .ref hi, .ref re, .ref fo, .ref bu, .ref pa])), (st, .inr (6, [.ref la, .ref me, .ref li, .int tol, .int su, .int fa])), (me, .inr (4, [.ref meA, .int 0])), (re, .inr (3, [.ref rd, .int nd, .ref rl, .int ldi, .int sot, .int tie, .int 0, .int 0])), (rd, .inr (4, [.ref rdA, .int 0])), (rl, .inr (4, [.ref rlA, .int 0]))]) (fun _ => []) sz := by
  refine Met.ofW (cc := cX7_leastTolerance) (maxL := 2) (ret := (some .int)) (by decide) rfl ?_
  intro p e s m args below meth c s₁ B hml hv
  obtain ⟨rfl, hsz, hP, hK, hD0, hG⟩ := hv
  have hx := B.exec
  have hb := B.bytes
  have hr := B.returns
  have ht : ∀ v9 ∈ wsA, v9.before ([.ref w] : List Value).toArray s = true := fun v9 h9 => atoms_spec (ws := k_ws yX7_leastTolerance cX7_leastTolerance 2 (some .int)) B.pre v9 (List.mem_cons_of_mem _ h9)
  have hown : s.vm.findClass RX7 = some m.cls := findClass_of_methodNamed B.named
  have S0 : k_C p s m ([.ref w] : List Value).toArray c cX7_leastTolerance 2 RX7 := ⟨hx, hb, hml, hown, ht⟩
  have hlocks := B.notSynchronized
  subst hsz
  have hD := hD0.self (sz := s.heap.size)
  generalize hAe : va_A [(w, .inr (7, [.ref st, .ref hi, .ref re, .ref fo, .ref bu, .ref pa])), (st, .inr (6, [.ref la, .ref me, .ref li, .int tol, .int su, .int fa])), (me, .inr (4, [.ref meA, .int 0])), (re, .inr (3, [.ref rd, .int nd, .ref rl, .int ldi, .int sot, .int tie, .int ff, .int ft])), (rd, .inr (4, [.ref rdA, .int rdN])), (rl, .inr (4, [.ref rlA, .int rlN]))] s.heap.size = A at hD hG ⊢
  have hA : ∀ q : Nat, s.heap.size ≤ q → A q := fun q h => by rw [← hAe]; exact Or.inr h
  have hS : va_S A s.heap s.heap [] := va_S.rf
  have hl := lv_entry ([.ref w]) (n := 2) (Nat.le_of_ble_eq_true rfl)
  rw [lg_entry_eq]
  generalize (lg_sl ([.ref w]) ++ List.replicate (2 - (lg_sl ([.ref w])).length) Slot.unset).toArray = ls at hl ⊢
  have hl : lv_has ls 2 [(0, .ref w)] := hl
  have hP : va_P D vwCl [(w, .inr (7, [.ref st, .ref hi, .ref re, .ref fo, .ref bu, .ref pa])), (st, .inr (6, [.ref la, .ref me, .ref li, .int tol, .int su, .int fa])), (me, .inr (4, [.ref meA, .int 0])), (re, .inr (3, [.ref rd, .int nd, .ref rl, .int ldi, .int sot, .int tie, .int ff, .int ft])), (rd, .inr (4, [.ref rdA, .int rdN])), (rl, .inr (4, [.ref rlA, .int rlN]))] s.heap := hP
  refine lv_iconst (v := 1) hx hb dX7_leastTolerance_0 (by decide) ?_
  refine lv_istore_n (lv' := [(1, .int 1), (0, .ref w)]) hx hb dX7_leastTolerance_1 rfl hl (by decide) rfl (fun ls hl => ?_)
  refine lv_iload_n hx hb dX7_leastTolerance_2 rfl (lv_at hl 0 rfl) ?_
  refine lv_bipush (v := 8) hx hb dX7_leastTolerance_3 (by decide) ?_
  refine lv_icmp_gt (tgt := 37) hx hb dX7_leastTolerance_5 (by decide) (fun c9 => absurd c9 (by decide)) (fun _ => ?_)
  refine lv_aload_n hx hb dX7_leastTolerance_8 rfl (lv_at hl 1 rfl) ?_
  refine va_get (D := D) (ci := 7) (v := .ref re) (C := RX7) (T := TX7) (N := 6) hx hb ht inA_X7 hown hK hP 0 rfl rfl 2 (by decide) (ht _ lf_X7_26) (fun _ h9 => h9) rfl dX7_leastTolerance_9 ?_
  refine lv_aload_n hx hb dX7_leastTolerance_12 rfl (lv_at hl 1 rfl) ?_
  refine va_get (D := D) (ci := 7) (v := .ref st) (C := RX7) (T := TX7) (N := 6) hx hb ht inA_X7 hown hK hP 0 rfl rfl 0 (by decide) (ht _ lf_X7_10) (fun _ h9 => h9) rfl dX7_leastTolerance_13 ?_
  refine va_get (D := D) (ci := 6) (v := .ref me) (C := RX6) (T := TX6) (N := 6) hx hb ht inA_X6 hown hK hP 1 rfl rfl 1 (by decide) (ht _ lf_X7_112) (fun _ h9 => h9) rfl dX7_leastTolerance_16 ?_
  refine lv_iload_n hx hb dX7_leastTolerance_19 rfl (lv_at hl 0 rfl) ?_
  have ct := k_cut_of (wc := [(re, .inr (3, [.ref rd, .int nd, .ref rl, .int ldi, .int sot, .int tie, .int ff, .int ft])), (rd, .inr (4, [.ref rdA, .int rdN])), (rl, .inr (4, [.ref rlA, .int rlN])), (me, .inr (4, [.ref meA, .int 0]))]) (wr := [(w, .inr (7, [.ref st, .ref hi, .ref re, .ref fo, .ref bu, .ref pa])), (st, .inr (6, [.ref la, .ref me, .ref li, .int tol, .int su, .int fa]))]) (tc := []) hG hS hA hK hP hD [3, 4, 5, 2] [0, 1] [] rfl rfl (by decide) (by decide) (by decide) rfl
  refine k_endi (As := [.ref re, .ref me, .int 1]) ct (k_runV (As := [.ref me, .int 1]) (rest := []) S0 Lv_X7_148 rfl (ci := 3) (q0 := 0) rfl rfl ct (c_resultOf0 l D re rd nd rl ldi sot tie ff ft rdA rdN rlA rlN me meA 1 s.heap.size) hl.1 rfl (Nat.le_of_ble_eq_true rfl) rfl dX7_leastTolerance_20 ⟨⟨Nat.le_of_ble_eq_true rfl, Nat.le_of_ble_eq_true rfl⟩, Nat.le_of_ble_eq_true rfl, Nat.le_of_ble_eq_true rfl⟩) rfl rfl (fun r_1 _ H locs hw_2 hP hD hK hS => ?_)
  have hK : va_K D vwCl [] s := hK
  have hP : va_P D vwCl [(w, .inr (7, [.ref st, .ref hi, .ref re, .ref fo, .ref bu, .ref pa])), (st, .inr (6, [.ref la, .ref me, .ref li, .int tol, .int su, .int fa])), (re, .inr (3, [.ref rd, .int nd, .ref rl, .int ldi, .int sot, .int tie, .int 0, .int 0])), (rd, .inr (4, [.ref rdA, .int 0])), (rl, .inr (4, [.ref rlA, .int 0])), (me, .inr (4, [.ref meA, .int 0]))] H := hP
  have hD : va_D A [(w, .inr (7, [.ref st, .ref hi, .ref re, .ref fo, .ref bu, .ref pa])), (st, .inr (6, [.ref la, .ref me, .ref li, .int tol, .int su, .int fa])), (re, .inr (3, [.ref rd, .int nd, .ref rl, .int ldi, .int sot, .int tie, .int 0, .int 0])), (rd, .inr (4, [.ref rdA, .int 0])), (rl, .inr (4, [.ref rlA, .int 0])), (me, .inr (4, [.ref meA, .int 0]))] := hD
  have hw_2 : r_1 = 1 := hw_2
  have hw_2 := hw_2.symm
  subst hw_2
  refine k_nrm (y := 1) rfl ?_
  have ct := k_cut_of (wc := []) (wr := [(w, .inr (7, [.ref st, .ref hi, .ref re, .ref fo, .ref bu, .ref pa])), (st, .inr (6, [.ref la, .ref me, .ref li, .int tol, .int su, .int fa])), (re, .inr (3, [.ref rd, .int nd, .ref rl, .int ldi, .int sot, .int tie, .int 0, .int 0])), (rd, .inr (4, [.ref rdA, .int 0])), (rl, .inr (4, [.ref rlA, .int 0])), (me, .inr (4, [.ref meA, .int 0]))]) (tc := []) hG hS hA hK hP hD [] [0, 1, 2, 3, 4, 5] [] rfl rfl (by decide) (by decide) (by decide) rfl
  refine k_endi (As := [.int 1]) ct (k_runS (As := [.int 1]) (rest := []) S0 Ls_X7_158 ct (c_hasSucceeded1 l D H.size) hl.1 rfl (Nat.le_of_ble_eq_true rfl) rfl dX7_leastTolerance_23 ⟨⟨Nat.le_of_ble_eq_true rfl, Nat.le_of_ble_eq_true rfl⟩, Nat.le_of_ble_eq_true rfl, Nat.le_of_ble_eq_true rfl⟩) rfl rfl (fun r_3 _ H locs hw_4 hP hD hK hS => ?_)
  have hK : va_K D vwCl [] s := hK
  have hP : va_P D vwCl [(w, .inr (7, [.ref st, .ref hi, .ref re, .ref fo, .ref bu, .ref pa])), (st, .inr (6, [.ref la, .ref me, .ref li, .int tol, .int su, .int fa])), (re, .inr (3, [.ref rd, .int nd, .ref rl, .int ldi, .int sot, .int tie, .int 0, .int 0])), (rd, .inr (4, [.ref rdA, .int 0])), (rl, .inr (4, [.ref rlA, .int 0])), (me, .inr (4, [.ref meA, .int 0]))] H := hP
  have hD : va_D A [(w, .inr (7, [.ref st, .ref hi, .ref re, .ref fo, .ref bu, .ref pa])), (st, .inr (6, [.ref la, .ref me, .ref li, .int tol, .int su, .int fa])), (re, .inr (3, [.ref rd, .int nd, .ref rl, .int ldi, .int sot, .int tie, .int 0, .int 0])), (rd, .inr (4, [.ref rdA, .int 0])), (rl, .inr (4, [.ref rlA, .int 0])), (me, .inr (4, [.ref meA, .int 0]))] := hD
  have hw_4 : r_3 = 0 := hw_4
  have hw_4 := hw_4.symm
  subst hw_4
  refine k_nrm (y := 0) rfl ?_
  refine lv_if_eq (tgt := 31) hx hb dX7_leastTolerance_26 (by decide) (fun _ => ?_) (fun c9 => absurd (by decide) c9)
  refine lv_iinc (v := 2) (lv' := [(1, .int 2), (0, .ref w)]) hx hb dX7_leastTolerance_31 hl (k := 0) rfl (by decide) (by decide) rfl (fun ls hl => ?_)
  refine lv_goto (tgt := 2) hx hb dX7_leastTolerance_34 (by decide) ?_
  refine lv_iload_n hx hb dX7_leastTolerance_2 rfl (lv_at hl 0 rfl) ?_
  refine lv_bipush (v := 8) hx hb dX7_leastTolerance_3 (by decide) ?_
  refine lv_icmp_gt (tgt := 37) hx hb dX7_leastTolerance_5 (by decide) (fun c9 => absurd c9 (by decide)) (fun _ => ?_)
  refine lv_aload_n hx hb dX7_leastTolerance_8 rfl (lv_at hl 1 rfl) ?_
  refine va_get (D := D) (ci := 7) (v := .ref re) (C := RX7) (T := TX7) (N := 6) hx hb ht inA_X7 hown hK hP 0 rfl rfl 2 (by decide) (ht _ lf_X7_26) (fun _ h9 => h9) rfl dX7_leastTolerance_9 ?_
  refine lv_aload_n hx hb dX7_leastTolerance_12 rfl (lv_at hl 1 rfl) ?_
  refine va_get (D := D) (ci := 7) (v := .ref st) (C := RX7) (T := TX7) (N := 6) hx hb ht inA_X7 hown hK hP 0 rfl rfl 0 (by decide) (ht _ lf_X7_10) (fun _ h9 => h9) rfl dX7_leastTolerance_13 ?_
  refine va_get (D := D) (ci := 6) (v := .ref me) (C := RX6) (T := TX6) (N := 6) hx hb ht inA_X6 hown hK hP 1 rfl rfl 1 (by decide) (ht _ lf_X7_112) (fun _ h9 => h9) rfl dX7_leastTolerance_16 ?_
  refine lv_iload_n hx hb dX7_leastTolerance_19 rfl (lv_at hl 0 rfl) ?_
  have ct := k_cut_of (wc := [(re, .inr (3, [.ref rd, .int nd, .ref rl, .int ldi, .int sot, .int tie, .int 0, .int 0])), (rd, .inr (4, [.ref rdA, .int 0])), (rl, .inr (4, [.ref rlA, .int 0])), (me, .inr (4, [.ref meA, .int 0]))]) (wr := [(w, .inr (7, [.ref st, .ref hi, .ref re, .ref fo, .ref bu, .ref pa])), (st, .inr (6, [.ref la, .ref me, .ref li, .int tol, .int su, .int fa]))]) (tc := []) hG hS hA hK hP hD [2, 3, 4, 5] [0, 1] [] rfl rfl (by decide) (by decide) (by decide) rfl
  refine k_endi (As := [.ref re, .ref me, .int 2]) ct (k_runV (As := [.ref me, .int 2]) (rest := []) S0 Lv_X7_148 rfl (ci := 3) (q0 := 0) rfl rfl ct (c_resultOf0 l D re rd nd rl ldi sot tie 0 0 rdA 0 rlA 0 me meA 2 H.size) hl.1 rfl (Nat.le_of_ble_eq_true rfl) rfl dX7_leastTolerance_20 ⟨⟨Nat.le_of_ble_eq_true rfl, Nat.le_of_ble_eq_true rfl⟩, Nat.le_of_ble_eq_true rfl, Nat.le_of_ble_eq_true rfl⟩) rfl rfl (fun r_5 _ H locs hw_6 hP hD hK hS => ?_)
  have hK : va_K D vwCl [] s := hK
  have hP : va_P D vwCl [(w, .inr (7, [.ref st, .ref hi, .ref re, .ref fo, .ref bu, .ref pa])), (st, .inr (6, [.ref la, .ref me, .ref li, .int tol, .int su, .int fa])), (re, .inr (3, [.ref rd, .int nd, .ref rl, .int ldi, .int sot, .int tie, .int 0, .int 0])), (rd, .inr (4, [.ref rdA, .int 0])), (rl, .inr (4, [.ref rlA, .int 0])), (me, .inr (4, [.ref meA, .int 0]))] H := hP
  have hD : va_D A [(w, .inr (7, [.ref st, .ref hi, .ref re, .ref fo, .ref bu, .ref pa])), (st, .inr (6, [.ref la, .ref me, .ref li, .int tol, .int su, .int fa])), (re, .inr (3, [.ref rd, .int nd, .ref rl, .int ldi, .int sot, .int tie, .int 0, .int 0])), (rd, .inr (4, [.ref rdA, .int 0])), (rl, .inr (4, [.ref rlA, .int 0])), (me, .inr (4, [.ref meA, .int 0]))] := hD
  have hw_6 : r_5 = 1 := hw_6
  have hw_6 := hw_6.symm
  subst hw_6
  refine k_nrm (y := 1) rfl ?_
  have ct := k_cut_of (wc := []) (wr := [(w, .inr (7, [.ref st, .ref hi, .ref re, .ref fo, .ref bu, .ref pa])), (st, .inr (6, [.ref la, .ref me, .ref li, .int tol, .int su, .int fa])), (re, .inr (3, [.ref rd, .int nd, .ref rl, .int ldi, .int sot, .int tie, .int 0, .int 0])), (rd, .inr (4, [.ref rdA, .int 0])), (rl, .inr (4, [.ref rlA, .int 0])), (me, .inr (4, [.ref meA, .int 0]))]) (tc := []) hG hS hA hK hP hD [] [0, 1, 2, 3, 4, 5] [] rfl rfl (by decide) (by decide) (by decide) rfl
  refine k_endi (As := [.int 1]) ct (k_runS (As := [.int 1]) (rest := []) S0 Ls_X7_158 ct (c_hasSucceeded1 l D H.size) hl.1 rfl (Nat.le_of_ble_eq_true rfl) rfl dX7_leastTolerance_23 ⟨⟨Nat.le_of_ble_eq_true rfl, Nat.le_of_ble_eq_true rfl⟩, Nat.le_of_ble_eq_true rfl, Nat.le_of_ble_eq_true rfl⟩) rfl rfl (fun r_7 _ H locs hw_8 hP hD hK hS => ?_)
  have hK : va_K D vwCl [] s := hK
  have hP : va_P D vwCl [(w, .inr (7, [.ref st, .ref hi, .ref re, .ref fo, .ref bu, .ref pa])), (st, .inr (6, [.ref la, .ref me, .ref li, .int tol, .int su, .int fa])), (re, .inr (3, [.ref rd, .int nd, .ref rl, .int ldi, .int sot, .int tie, .int 0, .int 0])), (rd, .inr (4, [.ref rdA, .int 0])), (rl, .inr (4, [.ref rlA, .int 0])), (me, .inr (4, [.ref meA, .int 0]))] H := hP
  have hD : va_D A [(w, .inr (7, [.ref st, .ref hi, .ref re, .ref fo, .ref bu, .ref pa])), (st, .inr (6, [.ref la, .ref me, .ref li, .int tol, .int su, .int fa])), (re, .inr (3, [.ref rd, .int nd, .ref rl, .int ldi, .int sot, .int tie, .int 0, .int 0])), (rd, .inr (4, [.ref rdA, .int 0])), (rl, .inr (4, [.ref rlA, .int 0])), (me, .inr (4, [.ref meA, .int 0]))] := hD
  have hw_8 : r_7 = 0 := hw_8
  have hw_8 := hw_8.symm
  subst hw_8
  refine k_nrm (y := 0) rfl ?_
  refine lv_if_eq (tgt := 31) hx hb dX7_leastTolerance_26 (by decide) (fun _ => ?_) (fun c9 => absurd (by decide) c9)
  refine lv_iinc (v := 3) (lv' := [(1, .int 3), (0, .ref w)]) hx hb dX7_leastTolerance_31 hl (k := 0) rfl (by decide) (by decide) rfl (fun ls hl => ?_)
  refine lv_goto (tgt := 2) hx hb dX7_leastTolerance_34 (by decide) ?_
  refine lv_iload_n hx hb dX7_leastTolerance_2 rfl (lv_at hl 0 rfl) ?_
  refine lv_bipush (v := 8) hx hb dX7_leastTolerance_3 (by decide) ?_
  refine lv_icmp_gt (tgt := 37) hx hb dX7_leastTolerance_5 (by decide) (fun c9 => absurd c9 (by decide)) (fun _ => ?_)
  refine lv_aload_n hx hb dX7_leastTolerance_8 rfl (lv_at hl 1 rfl) ?_
  refine va_get (D := D) (ci := 7) (v := .ref re) (C := RX7) (T := TX7) (N := 6) hx hb ht inA_X7 hown hK hP 0 rfl rfl 2 (by decide) (ht _ lf_X7_26) (fun _ h9 => h9) rfl dX7_leastTolerance_9 ?_
  refine lv_aload_n hx hb dX7_leastTolerance_12 rfl (lv_at hl 1 rfl) ?_
  refine va_get (D := D) (ci := 7) (v := .ref st) (C := RX7) (T := TX7) (N := 6) hx hb ht inA_X7 hown hK hP 0 rfl rfl 0 (by decide) (ht _ lf_X7_10) (fun _ h9 => h9) rfl dX7_leastTolerance_13 ?_
  refine va_get (D := D) (ci := 6) (v := .ref me) (C := RX6) (T := TX6) (N := 6) hx hb ht inA_X6 hown hK hP 1 rfl rfl 1 (by decide) (ht _ lf_X7_112) (fun _ h9 => h9) rfl dX7_leastTolerance_16 ?_
  refine lv_iload_n hx hb dX7_leastTolerance_19 rfl (lv_at hl 0 rfl) ?_
  have ct := k_cut_of (wc := [(re, .inr (3, [.ref rd, .int nd, .ref rl, .int ldi, .int sot, .int tie, .int 0, .int 0])), (rd, .inr (4, [.ref rdA, .int 0])), (rl, .inr (4, [.ref rlA, .int 0])), (me, .inr (4, [.ref meA, .int 0]))]) (wr := [(w, .inr (7, [.ref st, .ref hi, .ref re, .ref fo, .ref bu, .ref pa])), (st, .inr (6, [.ref la, .ref me, .ref li, .int tol, .int su, .int fa]))]) (tc := []) hG hS hA hK hP hD [2, 3, 4, 5] [0, 1] [] rfl rfl (by decide) (by decide) (by decide) rfl
  refine k_endi (As := [.ref re, .ref me, .int 3]) ct (k_runV (As := [.ref me, .int 3]) (rest := []) S0 Lv_X7_148 rfl (ci := 3) (q0 := 0) rfl rfl ct (c_resultOf0 l D re rd nd rl ldi sot tie 0 0 rdA 0 rlA 0 me meA 3 H.size) hl.1 rfl (Nat.le_of_ble_eq_true rfl) rfl dX7_leastTolerance_20 ⟨⟨Nat.le_of_ble_eq_true rfl, Nat.le_of_ble_eq_true rfl⟩, Nat.le_of_ble_eq_true rfl, Nat.le_of_ble_eq_true rfl⟩) rfl rfl (fun r_9 _ H locs hw_10 hP hD hK hS => ?_)
  have hK : va_K D vwCl [] s := hK
  have hP : va_P D vwCl [(w, .inr (7, [.ref st, .ref hi, .ref re, .ref fo, .ref bu, .ref pa])), (st, .inr (6, [.ref la, .ref me, .ref li, .int tol, .int su, .int fa])), (re, .inr (3, [.ref rd, .int nd, .ref rl, .int ldi, .int sot, .int tie, .int 0, .int 0])), (rd, .inr (4, [.ref rdA, .int 0])), (rl, .inr (4, [.ref rlA, .int 0])), (me, .inr (4, [.ref meA, .int 0]))] H := hP
  have hD : va_D A [(w, .inr (7, [.ref st, .ref hi, .ref re, .ref fo, .ref bu, .ref pa])), (st, .inr (6, [.ref la, .ref me, .ref li, .int tol, .int su, .int fa])), (re, .inr (3, [.ref rd, .int nd, .ref rl, .int ldi, .int sot, .int tie, .int 0, .int 0])), (rd, .inr (4, [.ref rdA, .int 0])), (rl, .inr (4, [.ref rlA, .int 0])), (me, .inr (4, [.ref meA, .int 0]))] := hD
  have hw_10 : r_9 = 1 := hw_10
  have hw_10 := hw_10.symm
  subst hw_10
  refine k_nrm (y := 1) rfl ?_
  have ct := k_cut_of (wc := []) (wr := [(w, .inr (7, [.ref st, .ref hi, .ref re, .ref fo, .ref bu, .ref pa])), (st, .inr (6, [.ref la, .ref me, .ref li, .int tol, .int su, .int fa])), (re, .inr (3, [.ref rd, .int nd, .ref rl, .int ldi, .int sot, .int tie, .int 0, .int 0])), (rd, .inr (4, [.ref rdA, .int 0])), (rl, .inr (4, [.ref rlA, .int 0])), (me, .inr (4, [.ref meA, .int 0]))]) (tc := []) hG hS hA hK hP hD [] [0, 1, 2, 3, 4, 5] [] rfl rfl (by decide) (by decide) (by decide) rfl
  refine k_endi (As := [.int 1]) ct (k_runS (As := [.int 1]) (rest := []) S0 Ls_X7_158 ct (c_hasSucceeded1 l D H.size) hl.1 rfl (Nat.le_of_ble_eq_true rfl) rfl dX7_leastTolerance_23 ⟨⟨Nat.le_of_ble_eq_true rfl, Nat.le_of_ble_eq_true rfl⟩, Nat.le_of_ble_eq_true rfl, Nat.le_of_ble_eq_true rfl⟩) rfl rfl (fun r_11 _ H locs hw_12 hP hD hK hS => ?_)
  have hK : va_K D vwCl [] s := hK
  have hP : va_P D vwCl [(w, .inr (7, [.ref st, .ref hi, .ref re, .ref fo, .ref bu, .ref pa])), (st, .inr (6, [.ref la, .ref me, .ref li, .int tol, .int su, .int fa])), (re, .inr (3, [.ref rd, .int nd, .ref rl, .int ldi, .int sot, .int tie, .int 0, .int 0])), (rd, .inr (4, [.ref rdA, .int 0])), (rl, .inr (4, [.ref rlA, .int 0])), (me, .inr (4, [.ref meA, .int 0]))] H := hP
  have hD : va_D A [(w, .inr (7, [.ref st, .ref hi, .ref re, .ref fo, .ref bu, .ref pa])), (st, .inr (6, [.ref la, .ref me, .ref li, .int tol, .int su, .int fa])), (re, .inr (3, [.ref rd, .int nd, .ref rl, .int ldi, .int sot, .int tie, .int 0, .int 0])), (rd, .inr (4, [.ref rdA, .int 0])), (rl, .inr (4, [.ref rlA, .int 0])), (me, .inr (4, [.ref meA, .int 0]))] := hD
  have hw_12 : r_11 = 0 := hw_12
  have hw_12 := hw_12.symm
  subst hw_12
  refine k_nrm (y := 0) rfl ?_
  refine lv_if_eq (tgt := 31) hx hb dX7_leastTolerance_26 (by decide) (fun _ => ?_) (fun c9 => absurd (by decide) c9)
  refine lv_iinc (v := 4) (lv' := [(1, .int 4), (0, .ref w)]) hx hb dX7_leastTolerance_31 hl (k := 0) rfl (by decide) (by decide) rfl (fun ls hl => ?_)
  refine lv_goto (tgt := 2) hx hb dX7_leastTolerance_34 (by decide) ?_
  refine lv_iload_n hx hb dX7_leastTolerance_2 rfl (lv_at hl 0 rfl) ?_
  refine lv_bipush (v := 8) hx hb dX7_leastTolerance_3 (by decide) ?_
  refine lv_icmp_gt (tgt := 37) hx hb dX7_leastTolerance_5 (by decide) (fun c9 => absurd c9 (by decide)) (fun _ => ?_)
  refine lv_aload_n hx hb dX7_leastTolerance_8 rfl (lv_at hl 1 rfl) ?_
  refine va_get (D := D) (ci := 7) (v := .ref re) (C := RX7) (T := TX7) (N := 6) hx hb ht inA_X7 hown hK hP 0 rfl rfl 2 (by decide) (ht _ lf_X7_26) (fun _ h9 => h9) rfl dX7_leastTolerance_9 ?_
  refine lv_aload_n hx hb dX7_leastTolerance_12 rfl (lv_at hl 1 rfl) ?_
  refine va_get (D := D) (ci := 7) (v := .ref st) (C := RX7) (T := TX7) (N := 6) hx hb ht inA_X7 hown hK hP 0 rfl rfl 0 (by decide) (ht _ lf_X7_10) (fun _ h9 => h9) rfl dX7_leastTolerance_13 ?_
  refine va_get (D := D) (ci := 6) (v := .ref me) (C := RX6) (T := TX6) (N := 6) hx hb ht inA_X6 hown hK hP 1 rfl rfl 1 (by decide) (ht _ lf_X7_112) (fun _ h9 => h9) rfl dX7_leastTolerance_16 ?_
  refine lv_iload_n hx hb dX7_leastTolerance_19 rfl (lv_at hl 0 rfl) ?_
  have ct := k_cut_of (wc := [(re, .inr (3, [.ref rd, .int nd, .ref rl, .int ldi, .int sot, .int tie, .int 0, .int 0])), (rd, .inr (4, [.ref rdA, .int 0])), (rl, .inr (4, [.ref rlA, .int 0])), (me, .inr (4, [.ref meA, .int 0]))]) (wr := [(w, .inr (7, [.ref st, .ref hi, .ref re, .ref fo, .ref bu, .ref pa])), (st, .inr (6, [.ref la, .ref me, .ref li, .int tol, .int su, .int fa]))]) (tc := []) hG hS hA hK hP hD [2, 3, 4, 5] [0, 1] [] rfl rfl (by decide) (by decide) (by decide) rfl
  refine k_endi (As := [.ref re, .ref me, .int 4]) ct (k_runV (As := [.ref me, .int 4]) (rest := []) S0 Lv_X7_148 rfl (ci := 3) (q0 := 0) rfl rfl ct (c_resultOf0 l D re rd nd rl ldi sot tie 0 0 rdA 0 rlA 0 me meA 4 H.size) hl.1 rfl (Nat.le_of_ble_eq_true rfl) rfl dX7_leastTolerance_20 ⟨⟨Nat.le_of_ble_eq_true rfl, Nat.le_of_ble_eq_true rfl⟩, Nat.le_of_ble_eq_true rfl, Nat.le_of_ble_eq_true rfl⟩) rfl rfl (fun r_13 _ H locs hw_14 hP hD hK hS => ?_)
  have hK : va_K D vwCl [] s := hK
  have hP : va_P D vwCl [(w, .inr (7, [.ref st, .ref hi, .ref re, .ref fo, .ref bu, .ref pa])), (st, .inr (6, [.ref la, .ref me, .ref li, .int tol, .int su, .int fa])), (re, .inr (3, [.ref rd, .int nd, .ref rl, .int ldi, .int sot, .int tie, .int 0, .int 0])), (rd, .inr (4, [.ref rdA, .int 0])), (rl, .inr (4, [.ref rlA, .int 0])), (me, .inr (4, [.ref meA, .int 0]))] H := hP
  have hD : va_D A [(w, .inr (7, [.ref st, .ref hi, .ref re, .ref fo, .ref bu, .ref pa])), (st, .inr (6, [.ref la, .ref me, .ref li, .int tol, .int su, .int fa])), (re, .inr (3, [.ref rd, .int nd, .ref rl, .int ldi, .int sot, .int tie, .int 0, .int 0])), (rd, .inr (4, [.ref rdA, .int 0])), (rl, .inr (4, [.ref rlA, .int 0])), (me, .inr (4, [.ref meA, .int 0]))] := hD
  have hw_14 : r_13 = 1 := hw_14
  have hw_14 := hw_14.symm
  subst hw_14
  refine k_nrm (y := 1) rfl ?_
  have ct := k_cut_of (wc := []) (wr := [(w, .inr (7, [.ref st, .ref hi, .ref re, .ref fo, .ref bu, .ref pa])), (st, .inr (6, [.ref la, .ref me, .ref li, .int tol, .int su, .int fa])), (re, .inr (3, [.ref rd, .int nd, .ref rl, .int ldi, .int sot, .int tie, .int 0, .int 0])), (rd, .inr (4, [.ref rdA, .int 0])), (rl, .inr (4, [.ref rlA, .int 0])), (me, .inr (4, [.ref meA, .int 0]))]) (tc := []) hG hS hA hK hP hD [] [0, 1, 2, 3, 4, 5] [] rfl rfl (by decide) (by decide) (by decide) rfl
  refine k_endi (As := [.int 1]) ct (k_runS (As := [.int 1]) (rest := []) S0 Ls_X7_158 ct (c_hasSucceeded1 l D H.size) hl.1 rfl (Nat.le_of_ble_eq_true rfl) rfl dX7_leastTolerance_23 ⟨⟨Nat.le_of_ble_eq_true rfl, Nat.le_of_ble_eq_true rfl⟩, Nat.le_of_ble_eq_true rfl, Nat.le_of_ble_eq_true rfl⟩) rfl rfl (fun r_15 _ H locs hw_16 hP hD hK hS => ?_)
  have hK : va_K D vwCl [] s := hK
  have hP : va_P D vwCl [(w, .inr (7, [.ref st, .ref hi, .ref re, .ref fo, .ref bu, .ref pa])), (st, .inr (6, [.ref la, .ref me, .ref li, .int tol, .int su, .int fa])), (re, .inr (3, [.ref rd, .int nd, .ref rl, .int ldi, .int sot, .int tie, .int 0, .int 0])), (rd, .inr (4, [.ref rdA, .int 0])), (rl, .inr (4, [.ref rlA, .int 0])), (me, .inr (4, [.ref meA, .int 0]))] H := hP
  have hD : va_D A [(w, .inr (7, [.ref st, .ref hi, .ref re, .ref fo, .ref bu, .ref pa])), (st, .inr (6, [.ref la, .ref me, .ref li, .int tol, .int su, .int fa])), (re, .inr (3, [.ref rd, .int nd, .ref rl, .int ldi, .int sot, .int tie, .int 0, .int 0])), (rd, .inr (4, [.ref rdA, .int 0])), (rl, .inr (4, [.ref rlA, .int 0])), (me, .inr (4, [.ref meA, .int 0]))] := hD
  have hw_16 : r_15 = 0 := hw_16
  have hw_16 := hw_16.symm
  subst hw_16
  refine k_nrm (y := 0) rfl ?_
  refine lv_if_eq (tgt := 31) hx hb dX7_leastTolerance_26 (by decide) (fun _ => ?_) (fun c9 => absurd (by decide) c9)
  refine lv_iinc (v := 5) (lv' := [(1, .int 5), (0, .ref w)]) hx hb dX7_leastTolerance_31 hl (k := 0) rfl (by decide) (by decide) rfl (fun ls hl => ?_)
  refine lv_goto (tgt := 2) hx hb dX7_leastTolerance_34 (by decide) ?_
  refine lv_iload_n hx hb dX7_leastTolerance_2 rfl (lv_at hl 0 rfl) ?_
  refine lv_bipush (v := 8) hx hb dX7_leastTolerance_3 (by decide) ?_
  refine lv_icmp_gt (tgt := 37) hx hb dX7_leastTolerance_5 (by decide) (fun c9 => absurd c9 (by decide)) (fun _ => ?_)
  refine lv_aload_n hx hb dX7_leastTolerance_8 rfl (lv_at hl 1 rfl) ?_
  refine va_get (D := D) (ci := 7) (v := .ref re) (C := RX7) (T := TX7) (N := 6) hx hb ht inA_X7 hown hK hP 0 rfl rfl 2 (by decide) (ht _ lf_X7_26) (fun _ h9 => h9) rfl dX7_leastTolerance_9 ?_
  refine lv_aload_n hx hb dX7_leastTolerance_12 rfl (lv_at hl 1 rfl) ?_
  refine va_get (D := D) (ci := 7) (v := .ref st) (C := RX7) (T := TX7) (N := 6) hx hb ht inA_X7 hown hK hP 0 rfl rfl 0 (by decide) (ht _ lf_X7_10) (fun _ h9 => h9) rfl dX7_leastTolerance_13 ?_
  refine va_get (D := D) (ci := 6) (v := .ref me) (C := RX6) (T := TX6) (N := 6) hx hb ht inA_X6 hown hK hP 1 rfl rfl 1 (by decide) (ht _ lf_X7_112) (fun _ h9 => h9) rfl dX7_leastTolerance_16 ?_
  refine lv_iload_n hx hb dX7_leastTolerance_19 rfl (lv_at hl 0 rfl) ?_
  have ct := k_cut_of (wc := [(re, .inr (3, [.ref rd, .int nd, .ref rl, .int ldi, .int sot, .int tie, .int 0, .int 0])), (rd, .inr (4, [.ref rdA, .int 0])), (rl, .inr (4, [.ref rlA, .int 0])), (me, .inr (4, [.ref meA, .int 0]))]) (wr := [(w, .inr (7, [.ref st, .ref hi, .ref re, .ref fo, .ref bu, .ref pa])), (st, .inr (6, [.ref la, .ref me, .ref li, .int tol, .int su, .int fa]))]) (tc := []) hG hS hA hK hP hD [2, 3, 4, 5] [0, 1] [] rfl rfl (by decide) (by decide) (by decide) rfl
  refine k_endi (As := [.ref re, .ref me, .int 5]) ct (k_runV (As := [.ref me, .int 5]) (rest := []) S0 Lv_X7_148 rfl (ci := 3) (q0 := 0) rfl rfl ct (c_resultOf0 l D re rd nd rl ldi sot tie 0 0 rdA 0 rlA 0 me meA 5 H.size) hl.1 rfl (Nat.le_of_ble_eq_true rfl) rfl dX7_leastTolerance_20 ⟨⟨Nat.le_of_ble_eq_true rfl, Nat.le_of_ble_eq_true rfl⟩, Nat.le_of_ble_eq_true rfl, Nat.le_of_ble_eq_true rfl⟩) rfl rfl (fun r_17 _ H locs hw_18 hP hD hK hS => ?_)
  have hK : va_K D vwCl [] s := hK
  have hP : va_P D vwCl [(w, .inr (7, [.ref st, .ref hi, .ref re, .ref fo, .ref bu, .ref pa])), (st, .inr (6, [.ref la, .ref me, .ref li, .int tol, .int su, .int fa])), (re, .inr (3, [.ref rd, .int nd, .ref rl, .int ldi, .int sot, .int tie, .int 0, .int 0])), (rd, .inr (4, [.ref rdA, .int 0])), (rl, .inr (4, [.ref rlA, .int 0])), (me, .inr (4, [.ref meA, .int 0]))] H := hP
  have hD : va_D A [(w, .inr (7, [.ref st, .ref hi, .ref re, .ref fo, .ref bu, .ref pa])), (st, .inr (6, [.ref la, .ref me, .ref li, .int tol, .int su, .int fa])), (re, .inr (3, [.ref rd, .int nd, .ref rl, .int ldi, .int sot, .int tie, .int 0, .int 0])), (rd, .inr (4, [.ref rdA, .int 0])), (rl, .inr (4, [.ref rlA, .int 0])), (me, .inr (4, [.ref meA, .int 0]))] := hD
  have hw_18 : r_17 = 1 := hw_18
  have hw_18 := hw_18.symm
  subst hw_18
  refine k_nrm (y := 1) rfl ?_
  have ct := k_cut_of (wc := []) (wr := [(w, .inr (7, [.ref st, .ref hi, .ref re, .ref fo, .ref bu, .ref pa])), (st, .inr (6, [.ref la, .ref me, .ref li, .int tol, .int su, .int fa])), (re, .inr (3, [.ref rd, .int nd, .ref rl, .int ldi, .int sot, .int tie, .int 0, .int 0])), (rd, .inr (4, [.ref rdA, .int 0])), (rl, .inr (4, [.ref rlA, .int 0])), (me, .inr (4, [.ref meA, .int 0]))]) (tc := []) hG hS hA hK hP hD [] [0, 1, 2, 3, 4, 5] [] rfl rfl (by decide) (by decide) (by decide) rfl
  refine k_endi (As := [.int 1]) ct (k_runS (As := [.int 1]) (rest := []) S0 Ls_X7_158 ct (c_hasSucceeded1 l D H.size) hl.1 rfl (Nat.le_of_ble_eq_true rfl) rfl dX7_leastTolerance_23 ⟨⟨Nat.le_of_ble_eq_true rfl, Nat.le_of_ble_eq_true rfl⟩, Nat.le_of_ble_eq_true rfl, Nat.le_of_ble_eq_true rfl⟩) rfl rfl (fun r_19 _ H locs hw_20 hP hD hK hS => ?_)
  have hK : va_K D vwCl [] s := hK
  have hP : va_P D vwCl [(w, .inr (7, [.ref st, .ref hi, .ref re, .ref fo, .ref bu, .ref pa])), (st, .inr (6, [.ref la, .ref me, .ref li, .int tol, .int su, .int fa])), (re, .inr (3, [.ref rd, .int nd, .ref rl, .int ldi, .int sot, .int tie, .int 0, .int 0])), (rd, .inr (4, [.ref rdA, .int 0])), (rl, .inr (4, [.ref rlA, .int 0])), (me, .inr (4, [.ref meA, .int 0]))] H := hP
  have hD : va_D A [(w, .inr (7, [.ref st, .ref hi, .ref re, .ref fo, .ref bu, .ref pa])), (st, .inr (6, [.ref la, .ref me, .ref li, .int tol, .int su, .int fa])), (re, .inr (3, [.ref rd, .int nd, .ref rl, .int ldi, .int sot, .int tie, .int 0, .int 0])), (rd, .inr (4, [.ref rdA, .int 0])), (rl, .inr (4, [.ref rlA, .int 0])), (me, .inr (4, [.ref meA, .int 0]))] := hD
  have hw_20 : r_19 = 0 := hw_20
  have hw_20 := hw_20.symm
  subst hw_20
  refine k_nrm (y := 0) rfl ?_
  refine lv_if_eq (tgt := 31) hx hb dX7_leastTolerance_26 (by decide) (fun _ => ?_) (fun c9 => absurd (by decide) c9)
  refine lv_iinc (v := 6) (lv' := [(1, .int 6), (0, .ref w)]) hx hb dX7_leastTolerance_31 hl (k := 0) rfl (by decide) (by decide) rfl (fun ls hl => ?_)
  refine lv_goto (tgt := 2) hx hb dX7_leastTolerance_34 (by decide) ?_
  refine lv_iload_n hx hb dX7_leastTolerance_2 rfl (lv_at hl 0 rfl) ?_
  refine lv_bipush (v := 8) hx hb dX7_leastTolerance_3 (by decide) ?_
  refine lv_icmp_gt (tgt := 37) hx hb dX7_leastTolerance_5 (by decide) (fun c9 => absurd c9 (by decide)) (fun _ => ?_)
  refine lv_aload_n hx hb dX7_leastTolerance_8 rfl (lv_at hl 1 rfl) ?_
  refine va_get (D := D) (ci := 7) (v := .ref re) (C := RX7) (T := TX7) (N := 6) hx hb ht inA_X7 hown hK hP 0 rfl rfl 2 (by decide) (ht _ lf_X7_26) (fun _ h9 => h9) rfl dX7_leastTolerance_9 ?_
  refine lv_aload_n hx hb dX7_leastTolerance_12 rfl (lv_at hl 1 rfl) ?_
  refine va_get (D := D) (ci := 7) (v := .ref st) (C := RX7) (T := TX7) (N := 6) hx hb ht inA_X7 hown hK hP 0 rfl rfl 0 (by decide) (ht _ lf_X7_10) (fun _ h9 => h9) rfl dX7_leastTolerance_13 ?_
  refine va_get (D := D) (ci := 6) (v := .ref me) (C := RX6) (T := TX6) (N := 6) hx hb ht inA_X6 hown hK hP 1 rfl rfl 1 (by decide) (ht _ lf_X7_112) (fun _ h9 => h9) rfl dX7_leastTolerance_16 ?_
  refine lv_iload_n hx hb dX7_leastTolerance_19 rfl (lv_at hl 0 rfl) ?_
  have ct := k_cut_of (wc := [(re, .inr (3, [.ref rd, .int nd, .ref rl, .int ldi, .int sot, .int tie, .int 0, .int 0])), (rd, .inr (4, [.ref rdA, .int 0])), (rl, .inr (4, [.ref rlA, .int 0])), (me, .inr (4, [.ref meA, .int 0]))]) (wr := [(w, .inr (7, [.ref st, .ref hi, .ref re, .ref fo, .ref bu, .ref pa])), (st, .inr (6, [.ref la, .ref me, .ref li, .int tol, .int su, .int fa]))]) (tc := []) hG hS hA hK hP hD [2, 3, 4, 5] [0, 1] [] rfl rfl (by decide) (by decide) (by decide) rfl
  refine k_endi (As := [.ref re, .ref me, .int 6]) ct (k_runV (As := [.ref me, .int 6]) (rest := []) S0 Lv_X7_148 rfl (ci := 3) (q0 := 0) rfl rfl ct (c_resultOf0 l D re rd nd rl ldi sot tie 0 0 rdA 0 rlA 0 me meA 6 H.size) hl.1 rfl (Nat.le_of_ble_eq_true rfl) rfl dX7_leastTolerance_20 ⟨⟨Nat.le_of_ble_eq_true rfl, Nat.le_of_ble_eq_true rfl⟩, Nat.le_of_ble_eq_true rfl, Nat.le_of_ble_eq_true rfl⟩) rfl rfl (fun r_21 _ H locs hw_22 hP hD hK hS => ?_)
  have hK : va_K D vwCl [] s := hK
  have hP : va_P D vwCl [(w, .inr (7, [.ref st, .ref hi, .ref re, .ref fo, .ref bu, .ref pa])), (st, .inr (6, [.ref la, .ref me, .ref li, .int tol, .int su, .int fa])), (re, .inr (3, [.ref rd, .int nd, .ref rl, .int ldi, .int sot, .int tie, .int 0, .int 0])), (rd, .inr (4, [.ref rdA, .int 0])), (rl, .inr (4, [.ref rlA, .int 0])), (me, .inr (4, [.ref meA, .int 0]))] H := hP
  have hD : va_D A [(w, .inr (7, [.ref st, .ref hi, .ref re, .ref fo, .ref bu, .ref pa])), (st, .inr (6, [.ref la, .ref me, .ref li, .int tol, .int su, .int fa])), (re, .inr (3, [.ref rd, .int nd, .ref rl, .int ldi, .int sot, .int tie, .int 0, .int 0])), (rd, .inr (4, [.ref rdA, .int 0])), (rl, .inr (4, [.ref rlA, .int 0])), (me, .inr (4, [.ref meA, .int 0]))] := hD
  have hw_22 : r_21 = 1 := hw_22
  have hw_22 := hw_22.symm
  subst hw_22
  refine k_nrm (y := 1) rfl ?_
  have ct := k_cut_of (wc := []) (wr := [(w, .inr (7, [.ref st, .ref hi, .ref re, .ref fo, .ref bu, .ref pa])), (st, .inr (6, [.ref la, .ref me, .ref li, .int tol, .int su, .int fa])), (re, .inr (3, [.ref rd, .int nd, .ref rl, .int ldi, .int sot, .int tie, .int 0, .int 0])), (rd, .inr (4, [.ref rdA, .int 0])), (rl, .inr (4, [.ref rlA, .int 0])), (me, .inr (4, [.ref meA, .int 0]))]) (tc := []) hG hS hA hK hP hD [] [0, 1, 2, 3, 4, 5] [] rfl rfl (by decide) (by decide) (by decide) rfl
  refine k_endi (As := [.int 1]) ct (k_runS (As := [.int 1]) (rest := []) S0 Ls_X7_158 ct (c_hasSucceeded1 l D H.size) hl.1 rfl (Nat.le_of_ble_eq_true rfl) rfl dX7_leastTolerance_23 ⟨⟨Nat.le_of_ble_eq_true rfl, Nat.le_of_ble_eq_true rfl⟩, Nat.le_of_ble_eq_true rfl, Nat.le_of_ble_eq_true rfl⟩) rfl rfl (fun r_23 _ H locs hw_24 hP hD hK hS => ?_)
  have hK : va_K D vwCl [] s := hK
  have hP : va_P D vwCl [(w, .inr (7, [.ref st, .ref hi, .ref re, .ref fo, .ref bu, .ref pa])), (st, .inr (6, [.ref la, .ref me, .ref li, .int tol, .int su, .int fa])), (re, .inr (3, [.ref rd, .int nd, .ref rl, .int ldi, .int sot, .int tie, .int 0, .int 0])), (rd, .inr (4, [.ref rdA, .int 0])), (rl, .inr (4, [.ref rlA, .int 0])), (me, .inr (4, [.ref meA, .int 0]))] H := hP
  have hD : va_D A [(w, .inr (7, [.ref st, .ref hi, .ref re, .ref fo, .ref bu, .ref pa])), (st, .inr (6, [.ref la, .ref me, .ref li, .int tol, .int su, .int fa])), (re, .inr (3, [.ref rd, .int nd, .ref rl, .int ldi, .int sot, .int tie, .int 0, .int 0])), (rd, .inr (4, [.ref rdA, .int 0])), (rl, .inr (4, [.ref rlA, .int 0])), (me, .inr (4, [.ref meA, .int 0]))] := hD
  have hw_24 : r_23 = 0 := hw_24
  have hw_24 := hw_24.symm
  subst hw_24
  refine k_nrm (y := 0) rfl ?_
  refine lv_if_eq (tgt := 31) hx hb dX7_leastTolerance_26 (by decide) (fun _ => ?_) (fun c9 => absurd (by decide) c9)
  refine lv_iinc (v := 7) (lv' := [(1, .int 7), (0, .ref w)]) hx hb dX7_leastTolerance_31 hl (k := 0) rfl (by decide) (by decide) rfl (fun ls hl => ?_)
  refine lv_goto (tgt := 2) hx hb dX7_leastTolerance_34 (by decide) ?_
  refine lv_iload_n hx hb dX7_leastTolerance_2 rfl (lv_at hl 0 rfl) ?_
  refine lv_bipush (v := 8) hx hb dX7_leastTolerance_3 (by decide) ?_
  refine lv_icmp_gt (tgt := 37) hx hb dX7_leastTolerance_5 (by decide) (fun c9 => absurd c9 (by decide)) (fun _ => ?_)
  refine lv_aload_n hx hb dX7_leastTolerance_8 rfl (lv_at hl 1 rfl) ?_
  refine va_get (D := D) (ci := 7) (v := .ref re) (C := RX7) (T := TX7) (N := 6) hx hb ht inA_X7 hown hK hP 0 rfl rfl 2 (by decide) (ht _ lf_X7_26) (fun _ h9 => h9) rfl dX7_leastTolerance_9 ?_
  refine lv_aload_n hx hb dX7_leastTolerance_12 rfl (lv_at hl 1 rfl) ?_
  refine va_get (D := D) (ci := 7) (v := .ref st) (C := RX7) (T := TX7) (N := 6) hx hb ht inA_X7 hown hK hP 0 rfl rfl 0 (by decide) (ht _ lf_X7_10) (fun _ h9 => h9) rfl dX7_leastTolerance_13 ?_
  refine va_get (D := D) (ci := 6) (v := .ref me) (C := RX6) (T := TX6) (N := 6) hx hb ht inA_X6 hown hK hP 1 rfl rfl 1 (by decide) (ht _ lf_X7_112) (fun _ h9 => h9) rfl dX7_leastTolerance_16 ?_
  refine lv_iload_n hx hb dX7_leastTolerance_19 rfl (lv_at hl 0 rfl) ?_
  have ct := k_cut_of (wc := [(re, .inr (3, [.ref rd, .int nd, .ref rl, .int ldi, .int sot, .int tie, .int 0, .int 0])), (rd, .inr (4, [.ref rdA, .int 0])), (rl, .inr (4, [.ref rlA, .int 0])), (me, .inr (4, [.ref meA, .int 0]))]) (wr := [(w, .inr (7, [.ref st, .ref hi, .ref re, .ref fo, .ref bu, .ref pa])), (st, .inr (6, [.ref la, .ref me, .ref li, .int tol, .int su, .int fa]))]) (tc := []) hG hS hA hK hP hD [2, 3, 4, 5] [0, 1] [] rfl rfl (by decide) (by decide) (by decide) rfl
  refine k_endi (As := [.ref re, .ref me, .int 7]) ct (k_runV (As := [.ref me, .int 7]) (rest := []) S0 Lv_X7_148 rfl (ci := 3) (q0 := 0) rfl rfl ct (c_resultOf0 l D re rd nd rl ldi sot tie 0 0 rdA 0 rlA 0 me meA 7 H.size) hl.1 rfl (Nat.le_of_ble_eq_true rfl) rfl dX7_leastTolerance_20 ⟨⟨Nat.le_of_ble_eq_true rfl, Nat.le_of_ble_eq_true rfl⟩, Nat.le_of_ble_eq_true rfl, Nat.le_of_ble_eq_true rfl⟩) rfl rfl (fun r_25 _ H locs hw_26 hP hD hK hS => ?_)
  have hK : va_K D vwCl [] s := hK
  have hP : va_P D vwCl [(w, .inr (7, [.ref st, .ref hi, .ref re, .ref fo, .ref bu, .ref pa])), (st, .inr (6, [.ref la, .ref me, .ref li, .int tol, .int su, .int fa])), (re, .inr (3, [.ref rd, .int nd, .ref rl, .int ldi, .int sot, .int tie, .int 0, .int 0])), (rd, .inr (4, [.ref rdA, .int 0])), (rl, .inr (4, [.ref rlA, .int 0])), (me, .inr (4, [.ref meA, .int 0]))] H := hP
  have hD : va_D A [(w, .inr (7, [.ref st, .ref hi, .ref re, .ref fo, .ref bu, .ref pa])), (st, .inr (6, [.ref la, .ref me, .ref li, .int tol, .int su, .int fa])), (re, .inr (3, [.ref rd, .int nd, .ref rl, .int ldi, .int sot, .int tie, .int 0, .int 0])), (rd, .inr (4, [.ref rdA, .int 0])), (rl, .inr (4, [.ref rlA, .int 0])), (me, .inr (4, [.ref meA, .int 0]))] := hD
  have hw_26 : r_25 = 1 := hw_26
  have hw_26 := hw_26.symm
  subst hw_26
  refine k_nrm (y := 1) rfl ?_
  have ct := k_cut_of (wc := []) (wr := [(w, .inr (7, [.ref st, .ref hi, .ref re, .ref fo, .ref bu, .ref pa])), (st, .inr (6, [.ref la, .ref me, .ref li, .int tol, .int su, .int fa])), (re, .inr (3, [.ref rd, .int nd, .ref rl, .int ldi, .int sot, .int tie, .int 0, .int 0])), (rd, .inr (4, [.ref rdA, .int 0])), (rl, .inr (4, [.ref rlA, .int 0])), (me, .inr (4, [.ref meA, .int 0]))]) (tc := []) hG hS hA hK hP hD [] [0, 1, 2, 3, 4, 5] [] rfl rfl (by decide) (by decide) (by decide) rfl
  refine k_endi (As := [.int 1]) ct (k_runS (As := [.int 1]) (rest := []) S0 Ls_X7_158 ct (c_hasSucceeded1 l D H.size) hl.1 rfl (Nat.le_of_ble_eq_true rfl) rfl dX7_leastTolerance_23 ⟨⟨Nat.le_of_ble_eq_true rfl, Nat.le_of_ble_eq_true rfl⟩, Nat.le_of_ble_eq_true rfl, Nat.le_of_ble_eq_true rfl⟩) rfl rfl (fun r_27 _ H locs hw_28 hP hD hK hS => ?_)
  have hK : va_K D vwCl [] s := hK
  have hP : va_P D vwCl [(w, .inr (7, [.ref st, .ref hi, .ref re, .ref fo, .ref bu, .ref pa])), (st, .inr (6, [.ref la, .ref me, .ref li, .int tol, .int su, .int fa])), (re, .inr (3, [.ref rd, .int nd, .ref rl, .int ldi, .int sot, .int tie, .int 0, .int 0])), (rd, .inr (4, [.ref rdA, .int 0])), (rl, .inr (4, [.ref rlA, .int 0])), (me, .inr (4, [.ref meA, .int 0]))] H := hP
  have hD : va_D A [(w, .inr (7, [.ref st, .ref hi, .ref re, .ref fo, .ref bu, .ref pa])), (st, .inr (6, [.ref la, .ref me, .ref li, .int tol, .int su, .int fa])), (re, .inr (3, [.ref rd, .int nd, .ref rl, .int ldi, .int sot, .int tie, .int 0, .int 0])), (rd, .inr (4, [.ref rdA, .int 0])), (rl, .inr (4, [.ref rlA, .int 0])), (me, .inr (4, [.ref meA, .int 0]))] := hD
  have hw_28 : r_27 = 0 := hw_28
  have hw_28 := hw_28.symm
  subst hw_28
  refine k_nrm (y := 0) rfl ?_
  refine lv_if_eq (tgt := 31) hx hb dX7_leastTolerance_26 (by decide) (fun _ => ?_) (fun c9 => absurd (by decide) c9)
  refine lv_iinc (v := 8) (lv' := [(1, .int 8), (0, .ref w)]) hx hb dX7_leastTolerance_31 hl (k := 0) rfl (by decide) (by decide) rfl (fun ls hl => ?_)
  refine lv_goto (tgt := 2) hx hb dX7_leastTolerance_34 (by decide) ?_
  refine lv_iload_n hx hb dX7_leastTolerance_2 rfl (lv_at hl 0 rfl) ?_
  refine lv_bipush (v := 8) hx hb dX7_leastTolerance_3 (by decide) ?_
  refine lv_icmp_gt (tgt := 37) hx hb dX7_leastTolerance_5 (by decide) (fun c9 => absurd c9 (by decide)) (fun _ => ?_)
  refine lv_aload_n hx hb dX7_leastTolerance_8 rfl (lv_at hl 1 rfl) ?_
  refine va_get (D := D) (ci := 7) (v := .ref re) (C := RX7) (T := TX7) (N := 6) hx hb ht inA_X7 hown hK hP 0 rfl rfl 2 (by decide) (ht _ lf_X7_26) (fun _ h9 => h9) rfl dX7_leastTolerance_9 ?_
  refine lv_aload_n hx hb dX7_leastTolerance_12 rfl (lv_at hl 1 rfl) ?_
  refine va_get (D := D) (ci := 7) (v := .ref st) (C := RX7) (T := TX7) (N := 6) hx hb ht inA_X7 hown hK hP 0 rfl rfl 0 (by decide) (ht _ lf_X7_10) (fun _ h9 => h9) rfl dX7_leastTolerance_13 ?_
  refine va_get (D := D) (ci := 6) (v := .ref me) (C := RX6) (T := TX6) (N := 6) hx hb ht inA_X6 hown hK hP 1 rfl rfl 1 (by decide) (ht _ lf_X7_112) (fun _ h9 => h9) rfl dX7_leastTolerance_16 ?_
  refine lv_iload_n hx hb dX7_leastTolerance_19 rfl (lv_at hl 0 rfl) ?_
  have ct := k_cut_of (wc := [(re, .inr (3, [.ref rd, .int nd, .ref rl, .int ldi, .int sot, .int tie, .int 0, .int 0])), (rd, .inr (4, [.ref rdA, .int 0])), (rl, .inr (4, [.ref rlA, .int 0])), (me, .inr (4, [.ref meA, .int 0]))]) (wr := [(w, .inr (7, [.ref st, .ref hi, .ref re, .ref fo, .ref bu, .ref pa])), (st, .inr (6, [.ref la, .ref me, .ref li, .int tol, .int su, .int fa]))]) (tc := []) hG hS hA hK hP hD [2, 3, 4, 5] [0, 1] [] rfl rfl (by decide) (by decide) (by decide) rfl
  refine k_endi (As := [.ref re, .ref me, .int 8]) ct (k_runV (As := [.ref me, .int 8]) (rest := []) S0 Lv_X7_148 rfl (ci := 3) (q0 := 0) rfl rfl ct (c_resultOf0 l D re rd nd rl ldi sot tie 0 0 rdA 0 rlA 0 me meA 8 H.size) hl.1 rfl (Nat.le_of_ble_eq_true rfl) rfl dX7_leastTolerance_20 ⟨⟨Nat.le_of_ble_eq_true rfl, Nat.le_of_ble_eq_true rfl⟩, Nat.le_of_ble_eq_true rfl, Nat.le_of_ble_eq_true rfl⟩) rfl rfl (fun r_29 _ H locs hw_30 hP hD hK hS => ?_)
  have hK : va_K D vwCl [] s := hK
  have hP : va_P D vwCl [(w, .inr (7, [.ref st, .ref hi, .ref re, .ref fo, .ref bu, .ref pa])), (st, .inr (6, [.ref la, .ref me, .ref li, .int tol, .int su, .int fa])), (re, .inr (3, [.ref rd, .int nd, .ref rl, .int ldi, .int sot, .int tie, .int 0, .int 0])), (rd, .inr (4, [.ref rdA, .int 0])), (rl, .inr (4, [.ref rlA, .int 0])), (me, .inr (4, [.ref meA, .int 0]))] H := hP
  have hD : va_D A [(w, .inr (7, [.ref st, .ref hi, .ref re, .ref fo, .ref bu, .ref pa])), (st, .inr (6, [.ref la, .ref me, .ref li, .int tol, .int su, .int fa])), (re, .inr (3, [.ref rd, .int nd, .ref rl, .int ldi, .int sot, .int tie, .int 0, .int 0])), (rd, .inr (4, [.ref rdA, .int 0])), (rl, .inr (4, [.ref rlA, .int 0])), (me, .inr (4, [.ref meA, .int 0]))] := hD
  have hw_30 : r_29 = 1 := hw_30
  have hw_30 := hw_30.symm
  subst hw_30
  refine k_nrm (y := 1) rfl ?_
  have ct := k_cut_of (wc := []) (wr := [(w, .inr (7, [.ref st, .ref hi, .ref re, .ref fo, .ref bu, .ref pa])), (st, .inr (6, [.ref la, .ref me, .ref li, .int tol, .int su, .int fa])), (re, .inr (3, [.ref rd, .int nd, .ref rl, .int ldi, .int sot, .int tie, .int 0, .int 0])), (rd, .inr (4, [.ref rdA, .int 0])), (rl, .inr (4, [.ref rlA, .int 0])), (me, .inr (4, [.ref meA, .int 0]))]) (tc := []) hG hS hA hK hP hD [] [0, 1, 2, 3, 4, 5] [] rfl rfl (by decide) (by decide) (by decide) rfl
  refine k_endi (As := [.int 1]) ct (k_runS (As := [.int 1]) (rest := []) S0 Ls_X7_158 ct (c_hasSucceeded1 l D H.size) hl.1 rfl (Nat.le_of_ble_eq_true rfl) rfl dX7_leastTolerance_23 ⟨⟨Nat.le_of_ble_eq_true rfl, Nat.le_of_ble_eq_true rfl⟩, Nat.le_of_ble_eq_true rfl, Nat.le_of_ble_eq_true rfl⟩) rfl rfl (fun r_31 _ H locs hw_32 hP hD hK hS => ?_)
  have hK : va_K D vwCl [] s := hK
  have hP : va_P D vwCl [(w, .inr (7, [.ref st, .ref hi, .ref re, .ref fo, .ref bu, .ref pa])), (st, .inr (6, [.ref la, .ref me, .ref li, .int tol, .int su, .int fa])), (re, .inr (3, [.ref rd, .int nd, .ref rl, .int ldi, .int sot, .int tie, .int 0, .int 0])), (rd, .inr (4, [.ref rdA, .int 0])), (rl, .inr (4, [.ref rlA, .int 0])), (me, .inr (4, [.ref meA, .int 0]))] H := hP
  have hD : va_D A [(w, .inr (7, [.ref st, .ref hi, .ref re, .ref fo, .ref bu, .ref pa])), (st, .inr (6, [.ref la, .ref me, .ref li, .int tol, .int su, .int fa])), (re, .inr (3, [.ref rd, .int nd, .ref rl, .int ldi, .int sot, .int tie, .int 0, .int 0])), (rd, .inr (4, [.ref rdA, .int 0])), (rl, .inr (4, [.ref rlA, .int 0])), (me, .inr (4, [.ref meA, .int 0]))] := hD
  have hw_32 : r_31 = 0 := hw_32
  have hw_32 := hw_32.symm
  subst hw_32
  refine k_nrm (y := 0) rfl ?_
  refine lv_if_eq (tgt := 31) hx hb dX7_leastTolerance_26 (by decide) (fun _ => ?_) (fun c9 => absurd (by decide) c9)
  refine lv_iinc (v := 9) (lv' := [(1, .int 9), (0, .ref w)]) hx hb dX7_leastTolerance_31 hl (k := 0) rfl (by decide) (by decide) rfl (fun ls hl => ?_)
  refine lv_goto (tgt := 2) hx hb dX7_leastTolerance_34 (by decide) ?_
  refine lv_iload_n hx hb dX7_leastTolerance_2 rfl (lv_at hl 0 rfl) ?_
  refine lv_bipush (v := 8) hx hb dX7_leastTolerance_3 (by decide) ?_
  refine lv_icmp_gt (tgt := 37) hx hb dX7_leastTolerance_5 (by decide) (fun _ => ?_) (fun c9 => absurd (by decide) c9)
  refine lv_iconst (v := (-1)) hx hb dX7_leastTolerance_37 (by decide) ?_
  have hP9 : va_P D vwCl [(w, .inr (7, [.ref st, .ref hi, .ref re, .ref fo, .ref bu, .ref pa])), (st, .inr (6, [.ref la, .ref me, .ref li, .int tol, .int su, .int fa])), (me, .inr (4, [.ref meA, .int 0])), (re, .inr (3, [.ref rd, .int nd, .ref rl, .int ldi, .int sot, .int tie, .int 0, .int 0])), (rd, .inr (4, [.ref rdA, .int 0])), (rl, .inr (4, [.ref rlA, .int 0]))] H := hP.sub [0, 1, 5, 2, 3, 4] rfl
  have hD9 : va_D A [(w, .inr (7, [.ref st, .ref hi, .ref re, .ref fo, .ref bu, .ref pa])), (st, .inr (6, [.ref la, .ref me, .ref li, .int tol, .int su, .int fa])), (me, .inr (4, [.ref meA, .int 0])), (re, .inr (3, [.ref rd, .int nd, .ref rl, .int ldi, .int sot, .int tie, .int 0, .int 0])), (rd, .inr (4, [.ref rdA, .int 0])), (rl, .inr (4, [.ref rlA, .int 0]))] := hD.sub [0, 1, 5, 2, 3, 4] (by decide) rfl
  have hK9 : va_K D vwCl [] s := hK.sub [] rfl
  exact W.iret (v := (-1)) hx hb hr (fun t ht9 hW9 => ⟨⟨(-1), (), rfl, by first | rfl | trivial | (simp only [if_true, if_false, reduceIte, and_self]; done) | simp_all, ⟨by rw [ht9]; exact hP9, va_K.moved hW9.alike hK9, hD9⟩⟩, hS.F ht9⟩) hS.2.2 dX7_leastTolerance_38
set_option maxHeartbeats 4000000 in
set_option maxRecDepth 100000 in
theorem c_W_clearM (l : Launch) (D : va_G) (w : Nat) (st : Nat) (hi : Nat) (re : Nat) (fo : Nat) (bu : Nat) (pa : Nat) (ri : Nat) (KS : ClassId) (rf : Nat → Option Nat) (zst : Nat) (zla : Nat) (zme : Nat) (zli : Nat) (ztol : Int32) (zsu : Int32) (zfa : Int32) (zld : Nat) (zlz : Nat) (zldA : Nat) (zldN : Int32) (zlzA : Nat) (zlzN : Int32) (zmeA : Nat) (zmeN : Int32) (zln : Nat) (zll : Nat) (zlc : Nat) (zlnA : Nat) (zlnN : Int32) (zllA : Nat) (zllN : Int32) (zlcA : Nat) (zlcN : Int32) (la : Nat) (me : Nat) (li : Nat) (tol : Int32) (su : Int32) (fa : Int32) (ld : Nat) (lz : Nat) (ldA : Nat) (lzA : Nat) (meA : Nat) (ln : Nat) (ll : Nat) (lc : Nat) (lnA : Nat) (llA : Nat) (lcA : Nat) (hrf : rf 0 = some zst) (sz : Nat) : k_Mi (S := Unit) l D yX7_clearMeasurement cX7_clearMeasurement 2 (some .int) 6 0 0 126 [.ref w] [(w, .inr (7, [.ref st, .ref hi, .ref re, .ref fo, .ref bu, .ref pa])), (hi, .inr (5, [.ref ri, .int 0, .int 0])), (ri, .inl (KS, 6, .inr (.inr (.inr (.inr rf))))), (zst, .inr (6, [.ref zla, .ref zme, .ref zli, .int ztol, .int zsu, .int zfa])), (zla, .inr (2, [.ref zld, .ref zlz])), (zld, .inr (4, [.ref zldA, .int zldN])), (zlz, .inr (4, [.ref zlzA, .int zlzN])), (zme, .inr (4, [.ref zmeA, .int zmeN])), (zli, .inr (0, [.ref zln, .ref zll, .ref zlc])), (zln, .inr (4, [.ref zlnA, .int zlnN])), (zll, .inr (4, [.ref zllA, .int zllN])), (zlc, .inr (4, [.ref zlcA, .int zlcN])), (st, .inr (6, [.ref la, .ref me, .ref li, .int tol, .int su, .int fa])), (la, .inr (2, [.ref ld, .ref lz])), (ld, .inr (4, [.ref ldA, .int 0])), (lz, .inr (4, [.ref lzA, .int 0])), (me, .inr (4, [.ref meA, .int 0])), (li, .inr (0, [.ref ln, .ref ll, .ref lc])), (ln, .inr (4, [.ref lnA, .int 0])), (ll, .inr (4, [.ref llA, .int 0])), (lc, .inr (4, [.ref lcA, .int 0]))] [(KS, .object "BarcodeWand$State")] (fun (r : Int32) (_ : Unit) => r = 0) (fun _ => [(w, .inr (7, [.ref st, .ref hi, .ref re, .ref fo, .ref bu, .ref pa])), (hi, .inr (5, [.ref ri, .int 1, .int 1])), (ri, .inl (KS, 6, .inr (.inr (.inr (.inr rf))))), (zst, .inr (6, [.ref zla, .ref zme, .ref zli, .int tol, .int su, .int fa])), (zla, .inr (2, [.ref zld, .ref zlz])), (zld, .inr (4, [.ref zldA, .int 0])), (zlz, .inr (4, [.ref zlzA, .int 0])), (zme, .inr (4, [.ref zmeA, .int 0])), (zli, .inr (0, [.ref zln, .ref zll, .ref zlc])), (zln, .inr (4, [.ref zlnA, .int 0])), (zll, .inr (4, [.ref zllA, .int 0])), (zlc, .inr (4, [.ref zlcA, .int 0])), (st, .inr (6, [.ref la, .ref me, .ref li, .int tol, .int su, .int fa])), (la, .inr (2, [.ref ld, .ref lz])), (ld, .inr (4, [.ref ldA, .int 0])), (lz, .inr (4, [.ref lzA, .int 0])), (me, .inr (4, [.ref meA, .int 0])), (li, .inr (0, [.ref ln, .ref ll, .ref lc])), (ln, .inr (4, [.ref lnA, .int 0])), (ll, .inr (4, [.ref llA, .int 0])), (lc, .inr (4, [.ref lcA, .int 0]))]) (fun _ => []) sz := by
  refine Met.ofW (cc := cX7_clearMeasurement) (maxL := 2) (ret := (some .int)) (by decide) rfl ?_
  intro p e s m args below meth c s₁ B hml hv
  obtain ⟨rfl, hsz, hP, hK, hD0, hG⟩ := hv
  have hx := B.exec
  have hb := B.bytes
  have hr := B.returns
  have ht : ∀ v9 ∈ wsA, v9.before ([.ref w] : List Value).toArray s = true := fun v9 h9 => atoms_spec (ws := k_ws yX7_clearMeasurement cX7_clearMeasurement 2 (some .int)) B.pre v9 (List.mem_cons_of_mem _ h9)
  have hown : s.vm.findClass RX7 = some m.cls := findClass_of_methodNamed B.named
  have S0 : k_C p s m ([.ref w] : List Value).toArray c cX7_clearMeasurement 2 RX7 := ⟨hx, hb, hml, hown, ht⟩
  have hlocks := B.notSynchronized
  subst hsz
  have hD := hD0.self (sz := s.heap.size)
  generalize hAe : va_A [(w, .inr (7, [.ref st, .ref hi, .ref re, .ref fo, .ref bu, .ref pa])), (hi, .inr (5, [.ref ri, .int 0, .int 0])), (ri, .inl (KS, 6, .inr (.inr (.inr (.inr rf))))), (zst, .inr (6, [.ref zla, .ref zme, .ref zli, .int ztol, .int zsu, .int zfa])), (zla, .inr (2, [.ref zld, .ref zlz])), (zld, .inr (4, [.ref zldA, .int zldN])), (zlz, .inr (4, [.ref zlzA, .int zlzN])), (zme, .inr (4, [.ref zmeA, .int zmeN])), (zli, .inr (0, [.ref zln, .ref zll, .ref zlc])), (zln, .inr (4, [.ref zlnA, .int zlnN])), (zll, .inr (4, [.ref zllA, .int zllN])), (zlc, .inr (4, [.ref zlcA, .int zlcN])), (st, .inr (6, [.ref la, .ref me, .ref li, .int tol, .int su, .int fa])), (la, .inr (2, [.ref ld, .ref lz])), (ld, .inr (4, [.ref ldA, .int 0])), (lz, .inr (4, [.ref lzA, .int 0])), (me, .inr (4, [.ref meA, .int 0])), (li, .inr (0, [.ref ln, .ref ll, .ref lc])), (ln, .inr (4, [.ref lnA, .int 0])), (ll, .inr (4, [.ref llA, .int 0])), (lc, .inr (4, [.ref lcA, .int 0]))] s.heap.size = A at hD hG ⊢
  have hA : ∀ q : Nat, s.heap.size ≤ q → A q := fun q h => by rw [← hAe]; exact Or.inr h
  have hS : va_S A s.heap s.heap [] := va_S.rf
  have hl := lv_entry ([.ref w]) (n := 2) (Nat.le_of_ble_eq_true rfl)
  rw [lg_entry_eq]
  generalize (lg_sl ([.ref w]) ++ List.replicate (2 - (lg_sl ([.ref w])).length) Slot.unset).toArray = ls at hl ⊢
  have hl : lv_has ls 2 [(0, .ref w)] := hl
  have hP : va_P D vwCl [(w, .inr (7, [.ref st, .ref hi, .ref re, .ref fo, .ref bu, .ref pa])), (hi, .inr (5, [.ref ri, .int 0, .int 0])), (ri, .inl (KS, 6, .inr (.inr (.inr (.inr rf))))), (zst, .inr (6, [.ref zla, .ref zme, .ref zli, .int ztol, .int zsu, .int zfa])), (zla, .inr (2, [.ref zld, .ref zlz])), (zld, .inr (4, [.ref zldA, .int zldN])), (zlz, .inr (4, [.ref zlzA, .int zlzN])), (zme, .inr (4, [.ref zmeA, .int zmeN])), (zli, .inr (0, [.ref zln, .ref zll, .ref zlc])), (zln, .inr (4, [.ref zlnA, .int zlnN])), (zll, .inr (4, [.ref zllA, .int zllN])), (zlc, .inr (4, [.ref zlcA, .int zlcN])), (st, .inr (6, [.ref la, .ref me, .ref li, .int tol, .int su, .int fa])), (la, .inr (2, [.ref ld, .ref lz])), (ld, .inr (4, [.ref ldA, .int 0])), (lz, .inr (4, [.ref lzA, .int 0])), (me, .inr (4, [.ref meA, .int 0])), (li, .inr (0, [.ref ln, .ref ll, .ref lc])), (ln, .inr (4, [.ref lnA, .int 0])), (ll, .inr (4, [.ref llA, .int 0])), (lc, .inr (4, [.ref lcA, .int 0]))] s.heap := hP
  refine lv_aload_n hx hb dX7_clearMeasurement_0 rfl (lv_at hl 0 rfl) ?_
  refine va_get (D := D) (ci := 7) (v := .ref hi) (C := RX7) (T := TX7) (N := 6) hx hb ht inA_X7 hown hK hP 0 rfl rfl 1 (by decide) (ht _ lf_X7_19) (fun _ h9 => h9) rfl dX7_clearMeasurement_1 ?_
  refine lv_aload_n hx hb dX7_clearMeasurement_4 rfl (lv_at hl 0 rfl) ?_
  refine va_get (D := D) (ci := 7) (v := .ref st) (C := RX7) (T := TX7) (N := 6) hx hb ht inA_X7 hown hK hP 0 rfl rfl 0 (by decide) (ht _ lf_X7_10) (fun _ h9 => h9) rfl dX7_clearMeasurement_5 ?_
  have ct := k_cut_of (wc := [(hi, .inr (5, [.ref ri, .int 0, .int 0])), (ri, .inl (KS, 6, .inr (.inr (.inr (.inr rf))))), (zst, .inr (6, [.ref zla, .ref zme, .ref zli, .int ztol, .int zsu, .int zfa])), (zla, .inr (2, [.ref zld, .ref zlz])), (zld, .inr (4, [.ref zldA, .int zldN])), (zlz, .inr (4, [.ref zlzA, .int zlzN])), (zme, .inr (4, [.ref zmeA, .int zmeN])), (zli, .inr (0, [.ref zln, .ref zll, .ref zlc])), (zln, .inr (4, [.ref zlnA, .int zlnN])), (zll, .inr (4, [.ref zllA, .int zllN])), (zlc, .inr (4, [.ref zlcA, .int zlcN])), (st, .inr (6, [.ref la, .ref me, .ref li, .int tol, .int su, .int fa])), (la, .inr (2, [.ref ld, .ref lz])), (ld, .inr (4, [.ref ldA, .int 0])), (lz, .inr (4, [.ref lzA, .int 0])), (me, .inr (4, [.ref meA, .int 0])), (li, .inr (0, [.ref ln, .ref ll, .ref lc])), (ln, .inr (4, [.ref lnA, .int 0])), (ll, .inr (4, [.ref llA, .int 0])), (lc, .inr (4, [.ref lcA, .int 0]))]) (wr := [(w, .inr (7, [.ref st, .ref hi, .ref re, .ref fo, .ref bu, .ref pa]))]) (tc := [(KS, .object "BarcodeWand$State")]) hG hS hA hK hP hD [1, 2, 3, 4, 5, 6, 7, 8, 9, 10, 11, 12, 13, 14, 15, 16, 17, 18, 19, 20] [0] [0] rfl rfl (by decide) (by decide) (by decide) rfl
  refine k_endv (As := [.ref hi, .ref st]) ct (k_runV (As := [.ref st]) (rest := []) S0 Lv_X7_62 rfl (ci := 5) (q0 := 0) rfl rfl ct (c_Saved_save0 l D hi ri KS rf zst zla zme zli ztol zsu zfa zld zlz zldA zldN zlzA zlzN zmeA zmeN zln zll zlc zlnA zlnN zllA zllN zlcA zlcN st la me li tol su fa ld lz ldA lzA meA ln ll lc lnA llA lcA (by assumption) s.heap.size) hl.1 rfl (Nat.le_of_ble_eq_true rfl) rfl dX7_clearMeasurement_8 ⟨⟨Nat.le_of_ble_eq_true rfl, Nat.le_of_ble_eq_true rfl⟩, Nat.le_of_ble_eq_true rfl, Nat.le_of_ble_eq_true rfl⟩) rfl rfl (fun _ _ H locs hw_2 hP hD hK hS => ?_)
  have hK : va_K D vwCl [(KS, .object "BarcodeWand$State")] s := hK
  have hP : va_P D vwCl [(w, .inr (7, [.ref st, .ref hi, .ref re, .ref fo, .ref bu, .ref pa])), (hi, .inr (5, [.ref ri, .int 1, .int 1])), (ri, .inl (KS, 6, .inr (.inr (.inr (.inr rf))))), (zst, .inr (6, [.ref zla, .ref zme, .ref zli, .int tol, .int su, .int fa])), (zla, .inr (2, [.ref zld, .ref zlz])), (zld, .inr (4, [.ref zldA, .int 0])), (zlz, .inr (4, [.ref zlzA, .int 0])), (zme, .inr (4, [.ref zmeA, .int 0])), (zli, .inr (0, [.ref zln, .ref zll, .ref zlc])), (zln, .inr (4, [.ref zlnA, .int 0])), (zll, .inr (4, [.ref zllA, .int 0])), (zlc, .inr (4, [.ref zlcA, .int 0])), (st, .inr (6, [.ref la, .ref me, .ref li, .int tol, .int su, .int fa])), (la, .inr (2, [.ref ld, .ref lz])), (ld, .inr (4, [.ref ldA, .int 0])), (lz, .inr (4, [.ref lzA, .int 0])), (me, .inr (4, [.ref meA, .int 0])), (li, .inr (0, [.ref ln, .ref ll, .ref lc])), (ln, .inr (4, [.ref lnA, .int 0])), (ll, .inr (4, [.ref llA, .int 0])), (lc, .inr (4, [.ref lcA, .int 0]))] H := hP
  have hD : va_D A [(w, .inr (7, [.ref st, .ref hi, .ref re, .ref fo, .ref bu, .ref pa])), (hi, .inr (5, [.ref ri, .int 1, .int 1])), (ri, .inl (KS, 6, .inr (.inr (.inr (.inr rf))))), (zst, .inr (6, [.ref zla, .ref zme, .ref zli, .int tol, .int su, .int fa])), (zla, .inr (2, [.ref zld, .ref zlz])), (zld, .inr (4, [.ref zldA, .int 0])), (zlz, .inr (4, [.ref zlzA, .int 0])), (zme, .inr (4, [.ref zmeA, .int 0])), (zli, .inr (0, [.ref zln, .ref zll, .ref zlc])), (zln, .inr (4, [.ref zlnA, .int 0])), (zll, .inr (4, [.ref zllA, .int 0])), (zlc, .inr (4, [.ref zlcA, .int 0])), (st, .inr (6, [.ref la, .ref me, .ref li, .int tol, .int su, .int fa])), (la, .inr (2, [.ref ld, .ref lz])), (ld, .inr (4, [.ref ldA, .int 0])), (lz, .inr (4, [.ref lzA, .int 0])), (me, .inr (4, [.ref meA, .int 0])), (li, .inr (0, [.ref ln, .ref ll, .ref lc])), (ln, .inr (4, [.ref lnA, .int 0])), (ll, .inr (4, [.ref llA, .int 0])), (lc, .inr (4, [.ref lcA, .int 0]))] := hD
  refine lv_aload_n hx hb dX7_clearMeasurement_11 rfl (lv_at hl 0 rfl) ?_
  refine va_get (D := D) (ci := 7) (v := .ref st) (C := RX7) (T := TX7) (N := 6) hx hb ht inA_X7 hown hK hP 0 rfl rfl 0 (by decide) (ht _ lf_X7_10) (fun _ h9 => h9) rfl dX7_clearMeasurement_12 ?_
  refine va_get (D := D) (ci := 6) (v := .ref me) (C := RX6) (T := TX6) (N := 6) hx hb ht inA_X6 hown hK hP 12 rfl rfl 1 (by decide) (ht _ lf_X7_112) (fun _ h9 => h9) rfl dX7_clearMeasurement_15 ?_
  have ct := k_cut_of (wc := [(me, .inr (4, [.ref meA, .int 0]))]) (wr := [(w, .inr (7, [.ref st, .ref hi, .ref re, .ref fo, .ref bu, .ref pa])), (hi, .inr (5, [.ref ri, .int 1, .int 1])), (ri, .inl (KS, 6, .inr (.inr (.inr (.inr rf))))), (zst, .inr (6, [.ref zla, .ref zme, .ref zli, .int tol, .int su, .int fa])), (zla, .inr (2, [.ref zld, .ref zlz])), (zld, .inr (4, [.ref zldA, .int 0])), (zlz, .inr (4, [.ref zlzA, .int 0])), (zme, .inr (4, [.ref zmeA, .int 0])), (zli, .inr (0, [.ref zln, .ref zll, .ref zlc])), (zln, .inr (4, [.ref zlnA, .int 0])), (zll, .inr (4, [.ref zllA, .int 0])), (zlc, .inr (4, [.ref zlcA, .int 0])), (st, .inr (6, [.ref la, .ref me, .ref li, .int tol, .int su, .int fa])), (la, .inr (2, [.ref ld, .ref lz])), (ld, .inr (4, [.ref ldA, .int 0])), (lz, .inr (4, [.ref lzA, .int 0])), (li, .inr (0, [.ref ln, .ref ll, .ref lc])), (ln, .inr (4, [.ref lnA, .int 0])), (ll, .inr (4, [.ref llA, .int 0])), (lc, .inr (4, [.ref lcA, .int 0]))]) (tc := []) hG hS hA hK hP hD [16] [0, 1, 2, 3, 4, 5, 6, 7, 8, 9, 10, 11, 12, 13, 14, 15, 17, 18, 19, 20] [] rfl rfl (by decide) (by decide) (by decide) rfl
  refine k_endi (As := [.ref me]) ct (k_runV (As := []) (rest := []) S0 Lv_X7_136 rfl (ci := 4) (q0 := 0) rfl rfl ct (c_Row_size l D me meA 0 H.size) hl.1 rfl (Nat.le_of_ble_eq_true rfl) rfl dX7_clearMeasurement_18 ⟨⟨Nat.le_of_ble_eq_true rfl, Nat.le_of_ble_eq_true rfl⟩, Nat.le_of_ble_eq_true rfl, Nat.le_of_ble_eq_true rfl⟩) rfl rfl (fun r_3 _ H locs hw_4 hP hD hK hS => ?_)
  have hK : va_K D vwCl [(KS, .object "BarcodeWand$State")] s := hK
  have hP : va_P D vwCl [(w, .inr (7, [.ref st, .ref hi, .ref re, .ref fo, .ref bu, .ref pa])), (hi, .inr (5, [.ref ri, .int 1, .int 1])), (ri, .inl (KS, 6, .inr (.inr (.inr (.inr rf))))), (zst, .inr (6, [.ref zla, .ref zme, .ref zli, .int tol, .int su, .int fa])), (zla, .inr (2, [.ref zld, .ref zlz])), (zld, .inr (4, [.ref zldA, .int 0])), (zlz, .inr (4, [.ref zlzA, .int 0])), (zme, .inr (4, [.ref zmeA, .int 0])), (zli, .inr (0, [.ref zln, .ref zll, .ref zlc])), (zln, .inr (4, [.ref zlnA, .int 0])), (zll, .inr (4, [.ref zllA, .int 0])), (zlc, .inr (4, [.ref zlcA, .int 0])), (st, .inr (6, [.ref la, .ref me, .ref li, .int tol, .int su, .int fa])), (la, .inr (2, [.ref ld, .ref lz])), (ld, .inr (4, [.ref ldA, .int 0])), (lz, .inr (4, [.ref lzA, .int 0])), (li, .inr (0, [.ref ln, .ref ll, .ref lc])), (ln, .inr (4, [.ref lnA, .int 0])), (ll, .inr (4, [.ref llA, .int 0])), (lc, .inr (4, [.ref lcA, .int 0])), (me, .inr (4, [.ref meA, .int 0]))] H := hP
  have hD : va_D A [(w, .inr (7, [.ref st, .ref hi, .ref re, .ref fo, .ref bu, .ref pa])), (hi, .inr (5, [.ref ri, .int 1, .int 1])), (ri, .inl (KS, 6, .inr (.inr (.inr (.inr rf))))), (zst, .inr (6, [.ref zla, .ref zme, .ref zli, .int tol, .int su, .int fa])), (zla, .inr (2, [.ref zld, .ref zlz])), (zld, .inr (4, [.ref zldA, .int 0])), (zlz, .inr (4, [.ref zlzA, .int 0])), (zme, .inr (4, [.ref zmeA, .int 0])), (zli, .inr (0, [.ref zln, .ref zll, .ref zlc])), (zln, .inr (4, [.ref zlnA, .int 0])), (zll, .inr (4, [.ref zllA, .int 0])), (zlc, .inr (4, [.ref zlcA, .int 0])), (st, .inr (6, [.ref la, .ref me, .ref li, .int tol, .int su, .int fa])), (la, .inr (2, [.ref ld, .ref lz])), (ld, .inr (4, [.ref ldA, .int 0])), (lz, .inr (4, [.ref lzA, .int 0])), (li, .inr (0, [.ref ln, .ref ll, .ref lc])), (ln, .inr (4, [.ref lnA, .int 0])), (ll, .inr (4, [.ref llA, .int 0])), (lc, .inr (4, [.ref lcA, .int 0])), (me, .inr (4, [.ref meA, .int 0]))] := hD
  have hw_4 : r_3 = 0 := hw_4
  have hw_4 := hw_4.symm
  subst hw_4
  refine k_nrm (y := 0) rfl ?_
  refine lv_istore_n (lv' := [(1, .int 0), (0, .ref w)]) hx hb dX7_clearMeasurement_21 rfl hl (by decide) rfl (fun ls hl => ?_)
  refine lv_aload_n hx hb dX7_clearMeasurement_22 rfl (lv_at hl 1 rfl) ?_
  refine va_get (D := D) (ci := 7) (v := .ref st) (C := RX7) (T := TX7) (N := 6) hx hb ht inA_X7 hown hK hP 0 rfl rfl 0 (by decide) (ht _ lf_X7_10) (fun _ h9 => h9) rfl dX7_clearMeasurement_23 ?_
  refine va_get (D := D) (ci := 6) (v := .ref me) (C := RX6) (T := TX6) (N := 6) hx hb ht inA_X6 hown hK hP 12 rfl rfl 1 (by decide) (ht _ lf_X7_112) (fun _ h9 => h9) rfl dX7_clearMeasurement_26 ?_
  have ct := k_cut_of (wc := [(me, .inr (4, [.ref meA, .int 0]))]) (wr := [(w, .inr (7, [.ref st, .ref hi, .ref re, .ref fo, .ref bu, .ref pa])), (hi, .inr (5, [.ref ri, .int 1, .int 1])), (ri, .inl (KS, 6, .inr (.inr (.inr (.inr rf))))), (zst, .inr (6, [.ref zla, .ref zme, .ref zli, .int tol, .int su, .int fa])), (zla, .inr (2, [.ref zld, .ref zlz])), (zld, .inr (4, [.ref zldA, .int 0])), (zlz, .inr (4, [.ref zlzA, .int 0])), (zme, .inr (4, [.ref zmeA, .int 0])), (zli, .inr (0, [.ref zln, .ref zll, .ref zlc])), (zln, .inr (4, [.ref zlnA, .int 0])), (zll, .inr (4, [.ref zllA, .int 0])), (zlc, .inr (4, [.ref zlcA, .int 0])), (st, .inr (6, [.ref la, .ref me, .ref li, .int tol, .int su, .int fa])), (la, .inr (2, [.ref ld, .ref lz])), (ld, .inr (4, [.ref ldA, .int 0])), (lz, .inr (4, [.ref lzA, .int 0])), (li, .inr (0, [.ref ln, .ref ll, .ref lc])), (ln, .inr (4, [.ref lnA, .int 0])), (ll, .inr (4, [.ref llA, .int 0])), (lc, .inr (4, [.ref lcA, .int 0]))]) (tc := []) hG hS hA hK hP hD [20] [0, 1, 2, 3, 4, 5, 6, 7, 8, 9, 10, 11, 12, 13, 14, 15, 16, 17, 18, 19] [] rfl rfl (by decide) (by decide) (by decide) rfl
  refine k_endv (As := [.ref me]) ct (k_runV (As := []) (rest := []) S0 Lv_X7_137 rfl (ci := 4) (q0 := 0) rfl rfl ct (c_Row_clear l D me meA 0 H.size) hl.1 rfl (Nat.le_of_ble_eq_true rfl) rfl dX7_clearMeasurement_29 ⟨⟨Nat.le_of_ble_eq_true rfl, Nat.le_of_ble_eq_true rfl⟩, Nat.le_of_ble_eq_true rfl, Nat.le_of_ble_eq_true rfl⟩) rfl rfl (fun _ _ H locs hw_6 hP hD hK hS => ?_)
  have hK : va_K D vwCl [(KS, .object "BarcodeWand$State")] s := hK
  have hP : va_P D vwCl [(w, .inr (7, [.ref st, .ref hi, .ref re, .ref fo, .ref bu, .ref pa])), (hi, .inr (5, [.ref ri, .int 1, .int 1])), (ri, .inl (KS, 6, .inr (.inr (.inr (.inr rf))))), (zst, .inr (6, [.ref zla, .ref zme, .ref zli, .int tol, .int su, .int fa])), (zla, .inr (2, [.ref zld, .ref zlz])), (zld, .inr (4, [.ref zldA, .int 0])), (zlz, .inr (4, [.ref zlzA, .int 0])), (zme, .inr (4, [.ref zmeA, .int 0])), (zli, .inr (0, [.ref zln, .ref zll, .ref zlc])), (zln, .inr (4, [.ref zlnA, .int 0])), (zll, .inr (4, [.ref zllA, .int 0])), (zlc, .inr (4, [.ref zlcA, .int 0])), (st, .inr (6, [.ref la, .ref me, .ref li, .int tol, .int su, .int fa])), (la, .inr (2, [.ref ld, .ref lz])), (ld, .inr (4, [.ref ldA, .int 0])), (lz, .inr (4, [.ref lzA, .int 0])), (li, .inr (0, [.ref ln, .ref ll, .ref lc])), (ln, .inr (4, [.ref lnA, .int 0])), (ll, .inr (4, [.ref llA, .int 0])), (lc, .inr (4, [.ref lcA, .int 0])), (me, .inr (4, [.ref meA, .int 0]))] H := hP
  have hD : va_D A [(w, .inr (7, [.ref st, .ref hi, .ref re, .ref fo, .ref bu, .ref pa])), (hi, .inr (5, [.ref ri, .int 1, .int 1])), (ri, .inl (KS, 6, .inr (.inr (.inr (.inr rf))))), (zst, .inr (6, [.ref zla, .ref zme, .ref zli, .int tol, .int su, .int fa])), (zla, .inr (2, [.ref zld, .ref zlz])), (zld, .inr (4, [.ref zldA, .int 0])), (zlz, .inr (4, [.ref zlzA, .int 0])), (zme, .inr (4, [.ref zmeA, .int 0])), (zli, .inr (0, [.ref zln, .ref zll, .ref zlc])), (zln, .inr (4, [.ref zlnA, .int 0])), (zll, .inr (4, [.ref zllA, .int 0])), (zlc, .inr (4, [.ref zlcA, .int 0])), (st, .inr (6, [.ref la, .ref me, .ref li, .int tol, .int su, .int fa])), (la, .inr (2, [.ref ld, .ref lz])), (ld, .inr (4, [.ref ldA, .int 0])), (lz, .inr (4, [.ref lzA, .int 0])), (li, .inr (0, [.ref ln, .ref ll, .ref lc])), (ln, .inr (4, [.ref lnA, .int 0])), (ll, .inr (4, [.ref llA, .int 0])), (lc, .inr (4, [.ref lcA, .int 0])), (me, .inr (4, [.ref meA, .int 0]))] := hD
  refine lv_iload_n hx hb dX7_clearMeasurement_32 rfl (lv_at hl 0 rfl) ?_
  have hP9 : va_P D vwCl [(w, .inr (7, [.ref st, .ref hi, .ref re, .ref fo, .ref bu, .ref pa])), (hi, .inr (5, [.ref ri, .int 1, .int 1])), (ri, .inl (KS, 6, .inr (.inr (.inr (.inr rf))))), (zst, .inr (6, [.ref zla, .ref zme, .ref zli, .int tol, .int su, .int fa])), (zla, .inr (2, [.ref zld, .ref zlz])), (zld, .inr (4, [.ref zldA, .int 0])), (zlz, .inr (4, [.ref zlzA, .int 0])), (zme, .inr (4, [.ref zmeA, .int 0])), (zli, .inr (0, [.ref zln, .ref zll, .ref zlc])), (zln, .inr (4, [.ref zlnA, .int 0])), (zll, .inr (4, [.ref zllA, .int 0])), (zlc, .inr (4, [.ref zlcA, .int 0])), (st, .inr (6, [.ref la, .ref me, .ref li, .int tol, .int su, .int fa])), (la, .inr (2, [.ref ld, .ref lz])), (ld, .inr (4, [.ref ldA, .int 0])), (lz, .inr (4, [.ref lzA, .int 0])), (me, .inr (4, [.ref meA, .int 0])), (li, .inr (0, [.ref ln, .ref ll, .ref lc])), (ln, .inr (4, [.ref lnA, .int 0])), (ll, .inr (4, [.ref llA, .int 0])), (lc, .inr (4, [.ref lcA, .int 0]))] H := hP.sub [0, 1, 2, 3, 4, 5, 6, 7, 8, 9, 10, 11, 12, 13, 14, 15, 20, 16, 17, 18, 19] rfl
  have hD9 : va_D A [(w, .inr (7, [.ref st, .ref hi, .ref re, .ref fo, .ref bu, .ref pa])), (hi, .inr (5, [.ref ri, .int 1, .int 1])), (ri, .inl (KS, 6, .inr (.inr (.inr (.inr rf))))), (zst, .inr (6, [.ref zla, .ref zme, .ref zli, .int tol, .int su, .int fa])), (zla, .inr (2, [.ref zld, .ref zlz])), (zld, .inr (4, [.ref zldA, .int 0])), (zlz, .inr (4, [.ref zlzA, .int 0])), (zme, .inr (4, [.ref zmeA, .int 0])), (zli, .inr (0, [.ref zln, .ref zll, .ref zlc])), (zln, .inr (4, [.ref zlnA, .int 0])), (zll, .inr (4, [.ref zllA, .int 0])), (zlc, .inr (4, [.ref zlcA, .int 0])), (st, .inr (6, [.ref la, .ref me, .ref li, .int tol, .int su, .int fa])), (la, .inr (2, [.ref ld, .ref lz])), (ld, .inr (4, [.ref ldA, .int 0])), (lz, .inr (4, [.ref lzA, .int 0])), (me, .inr (4, [.ref meA, .int 0])), (li, .inr (0, [.ref ln, .ref ll, .ref lc])), (ln, .inr (4, [.ref lnA, .int 0])), (ll, .inr (4, [.ref llA, .int 0])), (lc, .inr (4, [.ref lcA, .int 0]))] := hD.sub [0, 1, 2, 3, 4, 5, 6, 7, 8, 9, 10, 11, 12, 13, 14, 15, 20, 16, 17, 18, 19] (by decide) rfl
  have hK9 : va_K D vwCl [] s := hK.sub [] rfl
  exact W.iret (v := 0) hx hb hr (fun t ht9 hW9 => ⟨⟨0, (), rfl, by first | rfl | trivial | (simp only [if_true, if_false, reduceIte, and_self]; done) | simp_all, ⟨by rw [ht9]; exact hP9, va_K.moved hW9.alike hK9, hD9⟩⟩, hS.F ht9⟩) hS.2.2 dX7_clearMeasurement_33
set_option maxHeartbeats 4000000 in
set_option maxRecDepth 100000 in
theorem c_W_readCount (l : Launch) (D : va_G) (w : Nat) (st : Nat) (hi : Nat) (re : Nat) (fo : Nat) (bu : Nat) (pa : Nat) (la : Nat) (me : Nat) (li : Nat) (tol : Int32) (su : Int32) (fa : Int32) (meA : Nat) (rd : Nat) (nd : Int32) (rl : Nat) (ldi : Int32) (sot : Int32) (tie : Int32) (ff : Int32) (ft : Int32) (rdA : Nat) (rdN : Int32) (rlA : Nat) (rlN : Int32) (sz : Nat) : k_Mi (S := Int32) l D yX7_readAndCount cX7_readAndCount 2 (some .int) 4 0 0 93 [.ref w] [(w, .inr (7, [.ref st, .ref hi, .ref re, .ref fo, .ref bu, .ref pa])), (st, .inr (6, [.ref la, .ref me, .ref li, .int tol, .int su, .int fa])), (me, .inr (4, [.ref meA, .int 0])), (re, .inr (3, [.ref rd, .int nd, .ref rl, .int ldi, .int sot, .int tie, .int ff, .int ft])), (rd, .inr (4, [.ref rdA, .int rdN])), (rl, .inr (4, [.ref rlA, .int rlN]))] [] (fun (r : Int32) (fb : Int32) => r = 1) (fun fb => [(w, .inr (7, [.ref st, .ref hi, .ref re, .ref fo, .ref bu, .ref pa])), (st, .inr (6, [.ref la, .ref me, .ref li, .int tol, .int su, .int fb])), (me, .inr (4, [.ref meA, .int 0])), (re, .inr (3, [.ref rd, .int nd, .ref rl, .int ldi, .int sot, .int tie, .int 0, .int 0])), (rd, .inr (4, [.ref rdA, .int 0])), (rl, .inr (4, [.ref rlA, .int 0]))]) (fun fb => []) sz := by
  refine Met.ofW (cc := cX7_readAndCount) (maxL := 2) (ret := (some .int)) (by decide) rfl ?_
  intro p e s m args below meth c s₁ B hml hv
  obtain ⟨rfl, hsz, hP, hK, hD0, hG⟩ := hv
  have hx := B.exec
  have hb := B.bytes
  have hr := B.returns
  have ht : ∀ v9 ∈ wsA, v9.before ([.ref w] : List Value).toArray s = true := fun v9 h9 => atoms_spec (ws := k_ws yX7_readAndCount cX7_readAndCount 2 (some .int)) B.pre v9 (List.mem_cons_of_mem _ h9)
  have hown : s.vm.findClass RX7 = some m.cls := findClass_of_methodNamed B.named
  have S0 : k_C p s m ([.ref w] : List Value).toArray c cX7_readAndCount 2 RX7 := ⟨hx, hb, hml, hown, ht⟩
  have hlocks := B.notSynchronized
  subst hsz
  have hD := hD0.self (sz := s.heap.size)
  generalize hAe : va_A [(w, .inr (7, [.ref st, .ref hi, .ref re, .ref fo, .ref bu, .ref pa])), (st, .inr (6, [.ref la, .ref me, .ref li, .int tol, .int su, .int fa])), (me, .inr (4, [.ref meA, .int 0])), (re, .inr (3, [.ref rd, .int nd, .ref rl, .int ldi, .int sot, .int tie, .int ff, .int ft])), (rd, .inr (4, [.ref rdA, .int rdN])), (rl, .inr (4, [.ref rlA, .int rlN]))] s.heap.size = A at hD hG ⊢
  have hA : ∀ q : Nat, s.heap.size ≤ q → A q := fun q h => by rw [← hAe]; exact Or.inr h
  have hS : va_S A s.heap s.heap [] := va_S.rf
  have hl := lv_entry ([.ref w]) (n := 2) (Nat.le_of_ble_eq_true rfl)
  rw [lg_entry_eq]
  generalize (lg_sl ([.ref w]) ++ List.replicate (2 - (lg_sl ([.ref w])).length) Slot.unset).toArray = ls at hl ⊢
  have hl : lv_has ls 2 [(0, .ref w)] := hl
  have hP : va_P D vwCl [(w, .inr (7, [.ref st, .ref hi, .ref re, .ref fo, .ref bu, .ref pa])), (st, .inr (6, [.ref la, .ref me, .ref li, .int tol, .int su, .int fa])), (me, .inr (4, [.ref meA, .int 0])), (re, .inr (3, [.ref rd, .int nd, .ref rl, .int ldi, .int sot, .int tie, .int ff, .int ft])), (rd, .inr (4, [.ref rdA, .int rdN])), (rl, .inr (4, [.ref rlA, .int rlN]))] s.heap := hP
  refine lv_aload_n hx hb dX7_readAndCount_0 rfl (lv_at hl 0 rfl) ?_
  refine va_get (D := D) (ci := 7) (v := .ref re) (C := RX7) (T := TX7) (N := 6) hx hb ht inA_X7 hown hK hP 0 rfl rfl 2 (by decide) (ht _ lf_X7_26) (fun _ h9 => h9) rfl dX7_readAndCount_1 ?_
  refine lv_aload_n hx hb dX7_readAndCount_4 rfl (lv_at hl 0 rfl) ?_
  refine va_get (D := D) (ci := 7) (v := .ref st) (C := RX7) (T := TX7) (N := 6) hx hb ht inA_X7 hown hK hP 0 rfl rfl 0 (by decide) (ht _ lf_X7_10) (fun _ h9 => h9) rfl dX7_readAndCount_5 ?_
  refine va_get (D := D) (ci := 6) (v := .ref me) (C := RX6) (T := TX6) (N := 6) hx hb ht inA_X6 hown hK hP 1 rfl rfl 1 (by decide) (ht _ lf_X7_112) (fun _ h9 => h9) rfl dX7_readAndCount_8 ?_
  refine lv_aload_n hx hb dX7_readAndCount_11 rfl (lv_at hl 0 rfl) ?_
  refine va_get (D := D) (ci := 7) (v := .ref st) (C := RX7) (T := TX7) (N := 6) hx hb ht inA_X7 hown hK hP 0 rfl rfl 0 (by decide) (ht _ lf_X7_10) (fun _ h9 => h9) rfl dX7_readAndCount_12 ?_
  refine va_get (D := D) (ci := 6) (v := .int tol) (C := RX6) (T := TX6) (N := 6) hx hb ht inA_X6 hown hK hP 1 rfl rfl 3 (by decide) (ht _ lf_X7_144) (fun _ h9 => h9) rfl dX7_readAndCount_15 ?_
  have ct := k_cut_of (wc := [(re, .inr (3, [.ref rd, .int nd, .ref rl, .int ldi, .int sot, .int tie, .int ff, .int ft])), (rd, .inr (4, [.ref rdA, .int rdN])), (rl, .inr (4, [.ref rlA, .int rlN])), (me, .inr (4, [.ref meA, .int 0]))]) (wr := [(w, .inr (7, [.ref st, .ref hi, .ref re, .ref fo, .ref bu, .ref pa])), (st, .inr (6, [.ref la, .ref me, .ref li, .int tol, .int su, .int fa]))]) (tc := []) hG hS hA hK hP hD [3, 4, 5, 2] [0, 1] [] rfl rfl (by decide) (by decide) (by decide) rfl
  refine k_endi (As := [.ref re, .ref me, .int tol]) ct (k_runV (As := [.ref me, .int tol]) (rest := []) S0 Lv_X7_148 rfl (ci := 3) (q0 := 0) rfl rfl ct (c_resultOf0 l D re rd nd rl ldi sot tie ff ft rdA rdN rlA rlN me meA tol s.heap.size) hl.1 rfl (Nat.le_of_ble_eq_true rfl) rfl dX7_readAndCount_18 ⟨⟨Nat.le_of_ble_eq_true rfl, Nat.le_of_ble_eq_true rfl⟩, Nat.le_of_ble_eq_true rfl, Nat.le_of_ble_eq_true rfl⟩) rfl rfl (fun r_1 _ H locs hw_2 hP hD hK hS => ?_)
  have hK : va_K D vwCl [] s := hK
  have hP : va_P D vwCl [(w, .inr (7, [.ref st, .ref hi, .ref re, .ref fo, .ref bu, .ref pa])), (st, .inr (6, [.ref la, .ref me, .ref li, .int tol, .int su, .int fa])), (re, .inr (3, [.ref rd, .int nd, .ref rl, .int ldi, .int sot, .int tie, .int 0, .int 0])), (rd, .inr (4, [.ref rdA, .int 0])), (rl, .inr (4, [.ref rlA, .int 0])), (me, .inr (4, [.ref meA, .int 0]))] H := hP
  have hD : va_D A [(w, .inr (7, [.ref st, .ref hi, .ref re, .ref fo, .ref bu, .ref pa])), (st, .inr (6, [.ref la, .ref me, .ref li, .int tol, .int su, .int fa])), (re, .inr (3, [.ref rd, .int nd, .ref rl, .int ldi, .int sot, .int tie, .int 0, .int 0])), (rd, .inr (4, [.ref rdA, .int 0])), (rl, .inr (4, [.ref rlA, .int 0])), (me, .inr (4, [.ref meA, .int 0]))] := hD
  have hw_2 : r_1 = 1 := hw_2
  have hw_2 := hw_2.symm
  subst hw_2
  refine k_nrm (y := 1) rfl ?_
  refine lv_istore_n (lv' := [(1, .int 1), (0, .ref w)]) hx hb dX7_readAndCount_21 rfl hl (by decide) rfl (fun ls hl => ?_)
  refine lv_iload_n hx hb dX7_readAndCount_22 rfl (lv_at hl 0 rfl) ?_
  have ct := k_cut_of (wc := []) (wr := [(w, .inr (7, [.ref st, .ref hi, .ref re, .ref fo, .ref bu, .ref pa])), (st, .inr (6, [.ref la, .ref me, .ref li, .int tol, .int su, .int fa])), (re, .inr (3, [.ref rd, .int nd, .ref rl, .int ldi, .int sot, .int tie, .int 0, .int 0])), (rd, .inr (4, [.ref rdA, .int 0])), (rl, .inr (4, [.ref rlA, .int 0])), (me, .inr (4, [.ref meA, .int 0]))]) (tc := []) hG hS hA hK hP hD [] [0, 1, 2, 3, 4, 5] [] rfl rfl (by decide) (by decide) (by decide) rfl
  refine k_endi (As := [.int 1]) ct (k_runS (As := [.int 1]) (rest := []) S0 Ls_X7_158 ct (c_hasSucceeded1 l D H.size) hl.1 rfl (Nat.le_of_ble_eq_true rfl) rfl dX7_readAndCount_23 ⟨⟨Nat.le_of_ble_eq_true rfl, Nat.le_of_ble_eq_true rfl⟩, Nat.le_of_ble_eq_true rfl, Nat.le_of_ble_eq_true rfl⟩) rfl rfl (fun r_3 _ H locs hw_4 hP hD hK hS => ?_)
  have hK : va_K D vwCl [] s := hK
  have hP : va_P D vwCl [(w, .inr (7, [.ref st, .ref hi, .ref re, .ref fo, .ref bu, .ref pa])), (st, .inr (6, [.ref la, .ref me, .ref li, .int tol, .int su, .int fa])), (re, .inr (3, [.ref rd, .int nd, .ref rl, .int ldi, .int sot, .int tie, .int 0, .int 0])), (rd, .inr (4, [.ref rdA, .int 0])), (rl, .inr (4, [.ref rlA, .int 0])), (me, .inr (4, [.ref meA, .int 0]))] H := hP
  have hD : va_D A [(w, .inr (7, [.ref st, .ref hi, .ref re, .ref fo, .ref bu, .ref pa])), (st, .inr (6, [.ref la, .ref me, .ref li, .int tol, .int su, .int fa])), (re, .inr (3, [.ref rd, .int nd, .ref rl, .int ldi, .int sot, .int tie, .int 0, .int 0])), (rd, .inr (4, [.ref rdA, .int 0])), (rl, .inr (4, [.ref rlA, .int 0])), (me, .inr (4, [.ref meA, .int 0]))] := hD
  have hw_4 : r_3 = 0 := hw_4
  have hw_4 := hw_4.symm
  subst hw_4
  refine k_nrm (y := 0) rfl ?_
  refine lv_if_eq (tgt := 75) hx hb dX7_readAndCount_26 (by decide) (fun _ => ?_) (fun c9 => absurd (by decide) c9)
  refine lv_aload_n hx hb dX7_readAndCount_75 rfl (lv_at hl 1 rfl) ?_
  refine va_get (D := D) (ci := 7) (v := .ref st) (C := RX7) (T := TX7) (N := 6) hx hb ht inA_X7 hown hK hP 0 rfl rfl 0 (by decide) (ht _ lf_X7_10) (fun _ h9 => h9) rfl dX7_readAndCount_76 ?_
  refine lv_dup hx hb dX7_readAndCount_79 rfl ?_
  refine va_get (D := D) (ci := 6) (v := .int fa) (C := RX6) (T := TX6) (N := 6) hx hb ht inA_X6 hown hK hP 1 rfl rfl 5 (by decide) (ht _ lf_X7_192) (fun _ h9 => h9) rfl dX7_readAndCount_80 ?_
  refine lv_iconst (v := 1) hx hb dX7_readAndCount_83 (by decide) ?_
  refine lv_iadd hx hb dX7_readAndCount_84 ?_
  refine lv_topi (fun x_5 ex_5 => ?_)
  refine va_put (D := D) (ci := 6) (v := .int x_5) (ty := .int) (C := RX6) (T := TX6) (N := 6) hx hb ht inA_X6 tyX6 tyX6_ok nmX6 hown hK hP hD hS 1 rfl rfl 5 (by decide) (ht _ lf_X7_192) (fun _ h9 => h9) rfl (tyX6_ok 5 (by decide)) rfl rfl (Nat.le_of_ble_eq_true rfl) dX7_readAndCount_85 (fun H locs hP hD hS => ?_)
  have hP : va_P D vwCl [(w, .inr (7, [.ref st, .ref hi, .ref re, .ref fo, .ref bu, .ref pa])), (st, .inr (6, [.ref la, .ref me, .ref li, .int tol, .int su, .int x_5])), (re, .inr (3, [.ref rd, .int nd, .ref rl, .int ldi, .int sot, .int tie, .int 0, .int 0])), (rd, .inr (4, [.ref rdA, .int 0])), (rl, .inr (4, [.ref rlA, .int 0])), (me, .inr (4, [.ref meA, .int 0]))] H := hP
  have hD : va_D A [(w, .inr (7, [.ref st, .ref hi, .ref re, .ref fo, .ref bu, .ref pa])), (st, .inr (6, [.ref la, .ref me, .ref li, .int tol, .int su, .int x_5])), (re, .inr (3, [.ref rd, .int nd, .ref rl, .int ldi, .int sot, .int tie, .int 0, .int 0])), (rd, .inr (4, [.ref rdA, .int 0])), (rl, .inr (4, [.ref rlA, .int 0])), (me, .inr (4, [.ref meA, .int 0]))] := hD
  refine lv_iload_n hx hb dX7_readAndCount_88 rfl (lv_at hl 0 rfl) ?_
  have hP9 : va_P D vwCl [(w, .inr (7, [.ref st, .ref hi, .ref re, .ref fo, .ref bu, .ref pa])), (st, .inr (6, [.ref la, .ref me, .ref li, .int tol, .int su, .int x_5])), (me, .inr (4, [.ref meA, .int 0])), (re, .inr (3, [.ref rd, .int nd, .ref rl, .int ldi, .int sot, .int tie, .int 0, .int 0])), (rd, .inr (4, [.ref rdA, .int 0])), (rl, .inr (4, [.ref rlA, .int 0]))] H := hP.sub [0, 1, 5, 2, 3, 4] rfl
  have hD9 : va_D A [(w, .inr (7, [.ref st, .ref hi, .ref re, .ref fo, .ref bu, .ref pa])), (st, .inr (6, [.ref la, .ref me, .ref li, .int tol, .int su, .int x_5])), (me, .inr (4, [.ref meA, .int 0])), (re, .inr (3, [.ref rd, .int nd, .ref rl, .int ldi, .int sot, .int tie, .int 0, .int 0])), (rd, .inr (4, [.ref rdA, .int 0])), (rl, .inr (4, [.ref rlA, .int 0]))] := hD.sub [0, 1, 5, 2, 3, 4] (by decide) rfl
  have hK9 : va_K D vwCl [] s := hK.sub [] rfl
  exact W.iret (v := 1) hx hb hr (fun t ht9 hW9 => ⟨⟨1, x_5, rfl, by first | rfl | trivial | (simp only [ex_5, if_true, if_false, reduceIte, and_self]; done) | simp_all, ⟨by rw [ht9]; exact hP9, va_K.moved hW9.alike hK9, hD9⟩⟩, hS.F ht9⟩) hS.2.2 dX7_readAndCount_89
set_option maxHeartbeats 4000000 in
set_option maxRecDepth 100000 in
theorem c_W_read (l : Launch) (D : va_G) (w : Nat) (st : Nat) (hi : Nat) (re : Nat) (fo : Nat) (bu : Nat) (pa : Nat) (ri : Nat) (KS : ClassId) (rf : Nat → Option Nat) (zst : Nat) (zla : Nat) (zme : Nat) (zli : Nat) (ztol : Int32) (zsu : Int32) (zfa : Int32) (zld : Nat) (zlz : Nat) (zldA : Nat) (zldN : Int32) (zlzA : Nat) (zlzN : Int32) (zmeA : Nat) (zmeN : Int32) (zln : Nat) (zll : Nat) (zlc : Nat) (zlnA : Nat) (zlnN : Int32) (zllA : Nat) (zllN : Int32) (zlcA : Nat) (zlcN : Int32) (la : Nat) (me : Nat) (li : Nat) (tol : Int32) (su : Int32) (fa : Int32) (ld : Nat) (lz : Nat) (ldA : Nat) (lzA : Nat) (meA : Nat) (ln : Nat) (ll : Nat) (lc : Nat) (lnA : Nat) (llA : Nat) (lcA : Nat) (rd : Nat) (nd : Int32) (rl : Nat) (ldi : Int32) (sot : Int32) (tie : Int32) (ff : Int32) (ft : Int32) (rdA : Nat) (rdN : Int32) (rlA : Nat) (rlN : Int32) (hrf : rf 0 = some zst) (sz : Nat) : k_Mi (S := Int32) l D yX7_read cX7_read 1 (some .int) 6 0 0 126 [.ref w] [(w, .inr (7, [.ref st, .ref hi, .ref re, .ref fo, .ref bu, .ref pa])), (hi, .inr (5, [.ref ri, .int 0, .int 0])), (ri, .inl (KS, 6, .inr (.inr (.inr (.inr rf))))), (zst, .inr (6, [.ref zla, .ref zme, .ref zli, .int ztol, .int zsu, .int zfa])), (zla, .inr (2, [.ref zld, .ref zlz])), (zld, .inr (4, [.ref zldA, .int zldN])), (zlz, .inr (4, [.ref zlzA, .int zlzN])), (zme, .inr (4, [.ref zmeA, .int zmeN])), (zli, .inr (0, [.ref zln, .ref zll, .ref zlc])), (zln, .inr (4, [.ref zlnA, .int zlnN])), (zll, .inr (4, [.ref zllA, .int zllN])), (zlc, .inr (4, [.ref zlcA, .int zlcN])), (st, .inr (6, [.ref la, .ref me, .ref li, .int tol, .int su, .int fa])), (la, .inr (2, [.ref ld, .ref lz])), (ld, .inr (4, [.ref ldA, .int 0])), (lz, .inr (4, [.ref lzA, .int 0])), (me, .inr (4, [.ref meA, .int 0])), (li, .inr (0, [.ref ln, .ref ll, .ref lc])), (ln, .inr (4, [.ref lnA, .int 0])), (ll, .inr (4, [.ref llA, .int 0])), (lc, .inr (4, [.ref lcA, .int 0])), (re, .inr (3, [.ref rd, .int nd, .ref rl, .int ldi, .int sot, .int tie, .int ff, .int ft])), (rd, .inr (4, [.ref rdA, .int rdN])), (rl, .inr (4, [.ref rlA, .int rlN]))] [(KS, .object "BarcodeWand$State")] (fun (r : Int32) (fb : Int32) => r = 1) (fun fb => [(w, .inr (7, [.ref st, .ref hi, .ref re, .ref fo, .ref bu, .ref pa])), (hi, .inr (5, [.ref ri, .int 1, .int 1])), (ri, .inl (KS, 6, .inr (.inr (.inr (.inr rf))))), (zst, .inr (6, [.ref zla, .ref zme, .ref zli, .int tol, .int su, .int fa])), (zla, .inr (2, [.ref zld, .ref zlz])), (zld, .inr (4, [.ref zldA, .int 0])), (zlz, .inr (4, [.ref zlzA, .int 0])), (zme, .inr (4, [.ref zmeA, .int 0])), (zli, .inr (0, [.ref zln, .ref zll, .ref zlc])), (zln, .inr (4, [.ref zlnA, .int 0])), (zll, .inr (4, [.ref zllA, .int 0])), (zlc, .inr (4, [.ref zlcA, .int 0])), (st, .inr (6, [.ref la, .ref me, .ref li, .int tol, .int su, .int fb])), (la, .inr (2, [.ref ld, .ref lz])), (ld, .inr (4, [.ref ldA, .int 0])), (lz, .inr (4, [.ref lzA, .int 0])), (me, .inr (4, [.ref meA, .int 0])), (li, .inr (0, [.ref ln, .ref ll, .ref lc])), (ln, .inr (4, [.ref lnA, .int 0])), (ll, .inr (4, [.ref llA, .int 0])), (lc, .inr (4, [.ref lcA, .int 0])), (re, .inr (3, [.ref rd, .int nd, .ref rl, .int ldi, .int sot, .int tie, .int 0, .int 0])), (rd, .inr (4, [.ref rdA, .int 0])), (rl, .inr (4, [.ref rlA, .int 0]))]) (fun fb => []) sz := by
  refine Met.ofW (cc := cX7_read) (maxL := 1) (ret := (some .int)) (by decide) rfl ?_
  intro p e s m args below meth c s₁ B hml hv
  obtain ⟨rfl, hsz, hP, hK, hD0, hG⟩ := hv
  have hx := B.exec
  have hb := B.bytes
  have hr := B.returns
  have ht : ∀ v9 ∈ wsA, v9.before ([.ref w] : List Value).toArray s = true := fun v9 h9 => atoms_spec (ws := k_ws yX7_read cX7_read 1 (some .int)) B.pre v9 (List.mem_cons_of_mem _ h9)
  have hown : s.vm.findClass RX7 = some m.cls := findClass_of_methodNamed B.named
  have S0 : k_C p s m ([.ref w] : List Value).toArray c cX7_read 1 RX7 := ⟨hx, hb, hml, hown, ht⟩
  have hlocks := B.notSynchronized
  subst hsz
  have hD := hD0.self (sz := s.heap.size)
  generalize hAe : va_A [(w, .inr (7, [.ref st, .ref hi, .ref re, .ref fo, .ref bu, .ref pa])), (hi, .inr (5, [.ref ri, .int 0, .int 0])), (ri, .inl (KS, 6, .inr (.inr (.inr (.inr rf))))), (zst, .inr (6, [.ref zla, .ref zme, .ref zli, .int ztol, .int zsu, .int zfa])), (zla, .inr (2, [.ref zld, .ref zlz])), (zld, .inr (4, [.ref zldA, .int zldN])), (zlz, .inr (4, [.ref zlzA, .int zlzN])), (zme, .inr (4, [.ref zmeA, .int zmeN])), (zli, .inr (0, [.ref zln, .ref zll, .ref zlc])), (zln, .inr (4, [.ref zlnA, .int zlnN])), (zll, .inr (4, [.ref zllA, .int zllN])), (zlc, .inr (4, [.ref zlcA, .int zlcN])), (st, .inr (6, [.ref la, .ref me, .ref li, .int tol, .int su, .int fa])), (la, .inr (2, [.ref ld, .ref lz])), (ld, .inr (4, [.ref ldA, .int 0])), (lz, .inr (4, [.ref lzA, .int 0])), (me, .inr (4, [.ref meA, .int 0])), (li, .inr (0, [.ref ln, .ref ll, .ref lc])), (ln, .inr (4, [.ref lnA, .int 0])), (ll, .inr (4, [.ref llA, .int 0])), (lc, .inr (4, [.ref lcA, .int 0])), (re, .inr (3, [.ref rd, .int nd, .ref rl, .int ldi, .int sot, .int tie, .int ff, .int ft])), (rd, .inr (4, [.ref rdA, .int rdN])), (rl, .inr (4, [.ref rlA, .int rlN]))] s.heap.size = A at hD hG ⊢
  have hA : ∀ q : Nat, s.heap.size ≤ q → A q := fun q h => by rw [← hAe]; exact Or.inr h
  have hS : va_S A s.heap s.heap [] := va_S.rf
  have hl := lv_entry ([.ref w]) (n := 1) (Nat.le_of_ble_eq_true rfl)
  rw [lg_entry_eq]
  generalize (lg_sl ([.ref w]) ++ List.replicate (1 - (lg_sl ([.ref w])).length) Slot.unset).toArray = ls at hl ⊢
  have hl : lv_has ls 1 [(0, .ref w)] := hl
  have hP : va_P D vwCl [(w, .inr (7, [.ref st, .ref hi, .ref re, .ref fo, .ref bu, .ref pa])), (hi, .inr (5, [.ref ri, .int 0, .int 0])), (ri, .inl (KS, 6, .inr (.inr (.inr (.inr rf))))), (zst, .inr (6, [.ref zla, .ref zme, .ref zli, .int ztol, .int zsu, .int zfa])), (zla, .inr (2, [.ref zld, .ref zlz])), (zld, .inr (4, [.ref zldA, .int zldN])), (zlz, .inr (4, [.ref zlzA, .int zlzN])), (zme, .inr (4, [.ref zmeA, .int zmeN])), (zli, .inr (0, [.ref zln, .ref zll, .ref zlc])), (zln, .inr (4, [.ref zlnA, .int zlnN])), (zll, .inr (4, [.ref zllA, .int zllN])), (zlc, .inr (4, [.ref zlcA, .int zlcN])), (st, .inr (6, [.ref la, .ref me, .ref li, .int tol, .int su, .int fa])), (la, .inr (2, [.ref ld, .ref lz])), (ld, .inr (4, [.ref ldA, .int 0])), (lz, .inr (4, [.ref lzA, .int 0])), (me, .inr (4, [.ref meA, .int 0])), (li, .inr (0, [.ref ln, .ref ll, .ref lc])), (ln, .inr (4, [.ref lnA, .int 0])), (ll, .inr (4, [.ref llA, .int 0])), (lc, .inr (4, [.ref lcA, .int 0])), (re, .inr (3, [.ref rd, .int nd, .ref rl, .int ldi, .int sot, .int tie, .int ff, .int ft])), (rd, .inr (4, [.ref rdA, .int rdN])), (rl, .inr (4, [.ref rlA, .int rlN]))] s.heap := hP
  refine lv_aload_n hx hb dX7_read_0 rfl (lv_at hl 0 rfl) ?_
  refine va_get (D := D) (ci := 7) (v := .ref hi) (C := RX7) (T := TX7) (N := 6) hx hb ht inA_X7 hown hK hP 0 rfl rfl 1 (by decide) (ht _ lf_X7_19) (fun _ h9 => h9) rfl dX7_read_1 ?_
  refine lv_aload_n hx hb dX7_read_4 rfl (lv_at hl 0 rfl) ?_
  refine va_get (D := D) (ci := 7) (v := .ref st) (C := RX7) (T := TX7) (N := 6) hx hb ht inA_X7 hown hK hP 0 rfl rfl 0 (by decide) (ht _ lf_X7_10) (fun _ h9 => h9) rfl dX7_read_5 ?_
  have ct := k_cut_of (wc := [(hi, .inr (5, [.ref ri, .int 0, .int 0])), (ri, .inl (KS, 6, .inr (.inr (.inr (.inr rf))))), (zst, .inr (6, [.ref zla, .ref zme, .ref zli, .int ztol, .int zsu, .int zfa])), (zla, .inr (2, [.ref zld, .ref zlz])), (zld, .inr (4, [.ref zldA, .int zldN])), (zlz, .inr (4, [.ref zlzA, .int zlzN])), (zme, .inr (4, [.ref zmeA, .int zmeN])), (zli, .inr (0, [.ref zln, .ref zll, .ref zlc])), (zln, .inr (4, [.ref zlnA, .int zlnN])), (zll, .inr (4, [.ref zllA, .int zllN])), (zlc, .inr (4, [.ref zlcA, .int zlcN])), (st, .inr (6, [.ref la, .ref me, .ref li, .int tol, .int su, .int fa])), (la, .inr (2, [.ref ld, .ref lz])), (ld, .inr (4, [.ref ldA, .int 0])), (lz, .inr (4, [.ref lzA, .int 0])), (me, .inr (4, [.ref meA, .int 0])), (li, .inr (0, [.ref ln, .ref ll, .ref lc])), (ln, .inr (4, [.ref lnA, .int 0])), (ll, .inr (4, [.ref llA, .int 0])), (lc, .inr (4, [.ref lcA, .int 0]))]) (wr := [(w, .inr (7, [.ref st, .ref hi, .ref re, .ref fo, .ref bu, .ref pa])), (re, .inr (3, [.ref rd, .int nd, .ref rl, .int ldi, .int sot, .int tie, .int ff, .int ft])), (rd, .inr (4, [.ref rdA, .int rdN])), (rl, .inr (4, [.ref rlA, .int rlN]))]) (tc := [(KS, .object "BarcodeWand$State")]) hG hS hA hK hP hD [1, 2, 3, 4, 5, 6, 7, 8, 9, 10, 11, 12, 13, 14, 15, 16, 17, 18, 19, 20] [0, 21, 22, 23] [0] rfl rfl (by decide) (by decide) (by decide) rfl
  refine k_endv (As := [.ref hi, .ref st]) ct (k_runV (As := [.ref st]) (rest := []) S0 Lv_X7_62 rfl (ci := 5) (q0 := 0) rfl rfl ct (c_Saved_save0 l D hi ri KS rf zst zla zme zli ztol zsu zfa zld zlz zldA zldN zlzA zlzN zmeA zmeN zln zll zlc zlnA zlnN zllA zllN zlcA zlcN st la me li tol su fa ld lz ldA lzA meA ln ll lc lnA llA lcA (by assumption) s.heap.size) hl.1 rfl (Nat.le_of_ble_eq_true rfl) rfl dX7_read_8 ⟨⟨Nat.le_of_ble_eq_true rfl, Nat.le_of_ble_eq_true rfl⟩, Nat.le_of_ble_eq_true rfl, Nat.le_of_ble_eq_true rfl⟩) rfl rfl (fun _ _ H locs hw_2 hP hD hK hS => ?_)
  have hK : va_K D vwCl [(KS, .object "BarcodeWand$State")] s := hK
  have hP : va_P D vwCl [(w, .inr (7, [.ref st, .ref hi, .ref re, .ref fo, .ref bu, .ref pa])), (re, .inr (3, [.ref rd, .int nd, .ref rl, .int ldi, .int sot, .int tie, .int ff, .int ft])), (rd, .inr (4, [.ref rdA, .int rdN])), (rl, .inr (4, [.ref rlA, .int rlN])), (hi, .inr (5, [.ref ri, .int 1, .int 1])), (ri, .inl (KS, 6, .inr (.inr (.inr (.inr rf))))), (zst, .inr (6, [.ref zla, .ref zme, .ref zli, .int tol, .int su, .int fa])), (zla, .inr (2, [.ref zld, .ref zlz])), (zld, .inr (4, [.ref zldA, .int 0])), (zlz, .inr (4, [.ref zlzA, .int 0])), (zme, .inr (4, [.ref zmeA, .int 0])), (zli, .inr (0, [.ref zln, .ref zll, .ref zlc])), (zln, .inr (4, [.ref zlnA, .int 0])), (zll, .inr (4, [.ref zllA, .int 0])), (zlc, .inr (4, [.ref zlcA, .int 0])), (st, .inr (6, [.ref la, .ref me, .ref li, .int tol, .int su, .int fa])), (la, .inr (2, [.ref ld, .ref lz])), (ld, .inr (4, [.ref ldA, .int 0])), (lz, .inr (4, [.ref lzA, .int 0])), (me, .inr (4, [.ref meA, .int 0])), (li, .inr (0, [.ref ln, .ref ll, .ref lc])), (ln, .inr (4, [.ref lnA, .int 0])), (ll, .inr (4, [.ref llA, .int 0])), (lc, .inr (4, [.ref lcA, .int 0]))] H := hP
  have hD : va_D A [(w, .inr (7, [.ref st, .ref hi, .ref re, .ref fo, .ref bu, .ref pa])), (re, .inr (3, [.ref rd, .int nd, .ref rl, .int ldi, .int sot, .int tie, .int ff, .int ft])), (rd, .inr (4, [.ref rdA, .int rdN])), (rl, .inr (4, [.ref rlA, .int rlN])), (hi, .inr (5, [.ref ri, .int 1, .int 1])), (ri, .inl (KS, 6, .inr (.inr (.inr (.inr rf))))), (zst, .inr (6, [.ref zla, .ref zme, .ref zli, .int tol, .int su, .int fa])), (zla, .inr (2, [.ref zld, .ref zlz])), (zld, .inr (4, [.ref zldA, .int 0])), (zlz, .inr (4, [.ref zlzA, .int 0])), (zme, .inr (4, [.ref zmeA, .int 0])), (zli, .inr (0, [.ref zln, .ref zll, .ref zlc])), (zln, .inr (4, [.ref zlnA, .int 0])), (zll, .inr (4, [.ref zllA, .int 0])), (zlc, .inr (4, [.ref zlcA, .int 0])), (st, .inr (6, [.ref la, .ref me, .ref li, .int tol, .int su, .int fa])), (la, .inr (2, [.ref ld, .ref lz])), (ld, .inr (4, [.ref ldA, .int 0])), (lz, .inr (4, [.ref lzA, .int 0])), (me, .inr (4, [.ref meA, .int 0])), (li, .inr (0, [.ref ln, .ref ll, .ref lc])), (ln, .inr (4, [.ref lnA, .int 0])), (ll, .inr (4, [.ref llA, .int 0])), (lc, .inr (4, [.ref lcA, .int 0]))] := hD
  refine lv_aload_n hx hb dX7_read_11 rfl (lv_at hl 0 rfl) ?_
  have ct := k_cut_of (wc := [(w, .inr (7, [.ref st, .ref hi, .ref re, .ref fo, .ref bu, .ref pa])), (st, .inr (6, [.ref la, .ref me, .ref li, .int tol, .int su, .int fa])), (me, .inr (4, [.ref meA, .int 0])), (re, .inr (3, [.ref rd, .int nd, .ref rl, .int ldi, .int sot, .int tie, .int ff, .int ft])), (rd, .inr (4, [.ref rdA, .int rdN])), (rl, .inr (4, [.ref rlA, .int rlN]))]) (wr := [(hi, .inr (5, [.ref ri, .int 1, .int 1])), (ri, .inl (KS, 6, .inr (.inr (.inr (.inr rf))))), (zst, .inr (6, [.ref zla, .ref zme, .ref zli, .int tol, .int su, .int fa])), (zla, .inr (2, [.ref zld, .ref zlz])), (zld, .inr (4, [.ref zldA, .int 0])), (zlz, .inr (4, [.ref zlzA, .int 0])), (zme, .inr (4, [.ref zmeA, .int 0])), (zli, .inr (0, [.ref zln, .ref zll, .ref zlc])), (zln, .inr (4, [.ref zlnA, .int 0])), (zll, .inr (4, [.ref zllA, .int 0])), (zlc, .inr (4, [.ref zlcA, .int 0])), (la, .inr (2, [.ref ld, .ref lz])), (ld, .inr (4, [.ref ldA, .int 0])), (lz, .inr (4, [.ref lzA, .int 0])), (li, .inr (0, [.ref ln, .ref ll, .ref lc])), (ln, .inr (4, [.ref lnA, .int 0])), (ll, .inr (4, [.ref llA, .int 0])), (lc, .inr (4, [.ref lcA, .int 0]))]) (tc := []) hG hS hA hK hP hD [0, 15, 19, 1, 2, 3] [4, 5, 6, 7, 8, 9, 10, 11, 12, 13, 14, 16, 17, 18, 20, 21, 22, 23] [] rfl rfl (by decide) (by decide) (by decide) rfl
  refine k_endi (As := [.ref w]) ct (k_runV (As := []) (rest := []) S0 Lv_X7_119 rfl (ci := 7) (q0 := 0) rfl rfl ct (c_W_readCount l D w st hi re fo bu pa la me li tol su fa meA rd nd rl ldi sot tie ff ft rdA rdN rlA rlN H.size) hl.1 rfl (Nat.le_of_ble_eq_true rfl) rfl dX7_read_12 ⟨⟨Nat.le_of_ble_eq_true rfl, Nat.le_of_ble_eq_true rfl⟩, Nat.le_of_ble_eq_true rfl, Nat.le_of_ble_eq_true rfl⟩) rfl rfl (fun r_3 fb_4 H locs hw_5 hP hD hK hS => ?_)
  have hK : va_K D vwCl [(KS, .object "BarcodeWand$State")] s := hK
  have hP : va_P D vwCl [(hi, .inr (5, [.ref ri, .int 1, .int 1])), (ri, .inl (KS, 6, .inr (.inr (.inr (.inr rf))))), (zst, .inr (6, [.ref zla, .ref zme, .ref zli, .int tol, .int su, .int fa])), (zla, .inr (2, [.ref zld, .ref zlz])), (zld, .inr (4, [.ref zldA, .int 0])), (zlz, .inr (4, [.ref zlzA, .int 0])), (zme, .inr (4, [.ref zmeA, .int 0])), (zli, .inr (0, [.ref zln, .ref zll, .ref zlc])), (zln, .inr (4, [.ref zlnA, .int 0])), (zll, .inr (4, [.ref zllA, .int 0])), (zlc, .inr (4, [.ref zlcA, .int 0])), (la, .inr (2, [.ref ld, .ref lz])), (ld, .inr (4, [.ref ldA, .int 0])), (lz, .inr (4, [.ref lzA, .int 0])), (li, .inr (0, [.ref ln, .ref ll, .ref lc])), (ln, .inr (4, [.ref lnA, .int 0])), (ll, .inr (4, [.ref llA, .int 0])), (lc, .inr (4, [.ref lcA, .int 0])), (w, .inr (7, [.ref st, .ref hi, .ref re, .ref fo, .ref bu, .ref pa])), (st, .inr (6, [.ref la, .ref me, .ref li, .int tol, .int su, .int fb_4])), (me, .inr (4, [.ref meA, .int 0])), (re, .inr (3, [.ref rd, .int nd, .ref rl, .int ldi, .int sot, .int tie, .int 0, .int 0])), (rd, .inr (4, [.ref rdA, .int 0])), (rl, .inr (4, [.ref rlA, .int 0]))] H := hP
  have hD : va_D A [(hi, .inr (5, [.ref ri, .int 1, .int 1])), (ri, .inl (KS, 6, .inr (.inr (.inr (.inr rf))))), (zst, .inr (6, [.ref zla, .ref zme, .ref zli, .int tol, .int su, .int fa])), (zla, .inr (2, [.ref zld, .ref zlz])), (zld, .inr (4, [.ref zldA, .int 0])), (zlz, .inr (4, [.ref zlzA, .int 0])), (zme, .inr (4, [.ref zmeA, .int 0])), (zli, .inr (0, [.ref zln, .ref zll, .ref zlc])), (zln, .inr (4, [.ref zlnA, .int 0])), (zll, .inr (4, [.ref zllA, .int 0])), (zlc, .inr (4, [.ref zlcA, .int 0])), (la, .inr (2, [.ref ld, .ref lz])), (ld, .inr (4, [.ref ldA, .int 0])), (lz, .inr (4, [.ref lzA, .int 0])), (li, .inr (0, [.ref ln, .ref ll, .ref lc])), (ln, .inr (4, [.ref lnA, .int 0])), (ll, .inr (4, [.ref llA, .int 0])), (lc, .inr (4, [.ref lcA, .int 0])), (w, .inr (7, [.ref st, .ref hi, .ref re, .ref fo, .ref bu, .ref pa])), (st, .inr (6, [.ref la, .ref me, .ref li, .int tol, .int su, .int fb_4])), (me, .inr (4, [.ref meA, .int 0])), (re, .inr (3, [.ref rd, .int nd, .ref rl, .int ldi, .int sot, .int tie, .int 0, .int 0])), (rd, .inr (4, [.ref rdA, .int 0])), (rl, .inr (4, [.ref rlA, .int 0]))] := hD
  have hw_5 : r_3 = 1 := hw_5
  have hw_5 := hw_5.symm
  subst hw_5
  refine k_nrm (y := 1) rfl ?_
  have hP9 : va_P D vwCl [(w, .inr (7, [.ref st, .ref hi, .ref re, .ref fo, .ref bu, .ref pa])), (hi, .inr (5, [.ref ri, .int 1, .int 1])), (ri, .inl (KS, 6, .inr (.inr (.inr (.inr rf))))), (zst, .inr (6, [.ref zla, .ref zme, .ref zli, .int tol, .int su, .int fa])), (zla, .inr (2, [.ref zld, .ref zlz])), (zld, .inr (4, [.ref zldA, .int 0])), (zlz, .inr (4, [.ref zlzA, .int 0])), (zme, .inr (4, [.ref zmeA, .int 0])), (zli, .inr (0, [.ref zln, .ref zll, .ref zlc])), (zln, .inr (4, [.ref zlnA, .int 0])), (zll, .inr (4, [.ref zllA, .int 0])), (zlc, .inr (4, [.ref zlcA, .int 0])), (st, .inr (6, [.ref la, .ref me, .ref li, .int tol, .int su, .int fb_4])), (la, .inr (2, [.ref ld, .ref lz])), (ld, .inr (4, [.ref ldA, .int 0])), (lz, .inr (4, [.ref lzA, .int 0])), (me, .inr (4, [.ref meA, .int 0])), (li, .inr (0, [.ref ln, .ref ll, .ref lc])), (ln, .inr (4, [.ref lnA, .int 0])), (ll, .inr (4, [.ref llA, .int 0])), (lc, .inr (4, [.ref lcA, .int 0])), (re, .inr (3, [.ref rd, .int nd, .ref rl, .int ldi, .int sot, .int tie, .int 0, .int 0])), (rd, .inr (4, [.ref rdA, .int 0])), (rl, .inr (4, [.ref rlA, .int 0]))] H := hP.sub [18, 0, 1, 2, 3, 4, 5, 6, 7, 8, 9, 10, 19, 11, 12, 13, 20, 14, 15, 16, 17, 21, 22, 23] rfl
  have hD9 : va_D A [(w, .inr (7, [.ref st, .ref hi, .ref re, .ref fo, .ref bu, .ref pa])), (hi, .inr (5, [.ref ri, .int 1, .int 1])), (ri, .inl (KS, 6, .inr (.inr (.inr (.inr rf))))), (zst, .inr (6, [.ref zla, .ref zme, .ref zli, .int tol, .int su, .int fa])), (zla, .inr (2, [.ref zld, .ref zlz])), (zld, .inr (4, [.ref zldA, .int 0])), (zlz, .inr (4, [.ref zlzA, .int 0])), (zme, .inr (4, [.ref zmeA, .int 0])), (zli, .inr (0, [.ref zln, .ref zll, .ref zlc])), (zln, .inr (4, [.ref zlnA, .int 0])), (zll, .inr (4, [.ref zllA, .int 0])), (zlc, .inr (4, [.ref zlcA, .int 0])), (st, .inr (6, [.ref la, .ref me, .ref li, .int tol, .int su, .int fb_4])), (la, .inr (2, [.ref ld, .ref lz])), (ld, .inr (4, [.ref ldA, .int 0])), (lz, .inr (4, [.ref lzA, .int 0])), (me, .inr (4, [.ref meA, .int 0])), (li, .inr (0, [.ref ln, .ref ll, .ref lc])), (ln, .inr (4, [.ref lnA, .int 0])), (ll, .inr (4, [.ref llA, .int 0])), (lc, .inr (4, [.ref lcA, .int 0])), (re, .inr (3, [.ref rd, .int nd, .ref rl, .int ldi, .int sot, .int tie, .int 0, .int 0])), (rd, .inr (4, [.ref rdA, .int 0])), (rl, .inr (4, [.ref rlA, .int 0]))] := hD.sub [18, 0, 1, 2, 3, 4, 5, 6, 7, 8, 9, 10, 19, 11, 12, 13, 20, 14, 15, 16, 17, 21, 22, 23] (by decide) rfl
  have hK9 : va_K D vwCl [] s := hK.sub [] rfl
  exact W.iret (v := 1) hx hb hr (fun t ht9 hW9 => ⟨⟨1, fb_4, rfl, by first | rfl | trivial | (simp only [if_true, if_false, reduceIte, and_self]; done) | simp_all, ⟨by rw [ht9]; exact hP9, va_K.moved hW9.alike hK9, hD9⟩⟩, hS.F ht9⟩) hS.2.2 dX7_read_15
set_option maxHeartbeats 4000000 in
set_option maxRecDepth 100000 in
theorem c_W_clearB (l : Launch) (D : va_G) (w : Nat) (st : Nat) (hi : Nat) (re : Nat) (fo : Nat) (bu : Nat) (pa : Nat) (buA : Nat) (sz : Nat) : k_Mi (S := Unit) l D yX7_clearBuffer cX7_clearBuffer 2 (some .int) 1 0 0 20 [.ref w] [(w, .inr (7, [.ref st, .ref hi, .ref re, .ref fo, .ref bu, .ref pa])), (bu, .inr (4, [.ref buA, .int 0]))] [] (fun (r : Int32) (_ : Unit) => r = 0) (fun _ => [(w, .inr (7, [.ref st, .ref hi, .ref re, .ref fo, .ref bu, .ref pa])), (bu, .inr (4, [.ref buA, .int 0]))]) (fun _ => []) sz := by
  refine Met.ofW (cc := cX7_clearBuffer) (maxL := 2) (ret := (some .int)) (by decide) rfl ?_
  intro p e s m args below meth c s₁ B hml hv
  obtain ⟨rfl, hsz, hP, hK, hD0, hG⟩ := hv
  have hx := B.exec
  have hb := B.bytes
  have hr := B.returns
  have ht : ∀ v9 ∈ wsA, v9.before ([.ref w] : List Value).toArray s = true := fun v9 h9 => atoms_spec (ws := k_ws yX7_clearBuffer cX7_clearBuffer 2 (some .int)) B.pre v9 (List.mem_cons_of_mem _ h9)
  have hown : s.vm.findClass RX7 = some m.cls := findClass_of_methodNamed B.named
  have S0 : k_C p s m ([.ref w] : List Value).toArray c cX7_clearBuffer 2 RX7 := ⟨hx, hb, hml, hown, ht⟩
  have hlocks := B.notSynchronized
  subst hsz
  have hD := hD0.self (sz := s.heap.size)
  generalize hAe : va_A [(w, .inr (7, [.ref st, .ref hi, .ref re, .ref fo, .ref bu, .ref pa])), (bu, .inr (4, [.ref buA, .int 0]))] s.heap.size = A at hD hG ⊢
  have hA : ∀ q : Nat, s.heap.size ≤ q → A q := fun q h => by rw [← hAe]; exact Or.inr h
  have hS : va_S A s.heap s.heap [] := va_S.rf
  have hl := lv_entry ([.ref w]) (n := 2) (Nat.le_of_ble_eq_true rfl)
  rw [lg_entry_eq]
  generalize (lg_sl ([.ref w]) ++ List.replicate (2 - (lg_sl ([.ref w])).length) Slot.unset).toArray = ls at hl ⊢
  have hl : lv_has ls 2 [(0, .ref w)] := hl
  have hP : va_P D vwCl [(w, .inr (7, [.ref st, .ref hi, .ref re, .ref fo, .ref bu, .ref pa])), (bu, .inr (4, [.ref buA, .int 0]))] s.heap := hP
  refine lv_aload_n hx hb dX7_clearBuffer_0 rfl (lv_at hl 0 rfl) ?_
  refine va_get (D := D) (ci := 7) (v := .ref bu) (C := RX7) (T := TX7) (N := 6) hx hb ht inA_X7 hown hK hP 0 rfl rfl 4 (by decide) (ht _ lf_X7_39) (fun _ h9 => h9) rfl dX7_clearBuffer_1 ?_
  have ct := k_cut_of (wc := [(bu, .inr (4, [.ref buA, .int 0]))]) (wr := [(w, .inr (7, [.ref st, .ref hi, .ref re, .ref fo, .ref bu, .ref pa]))]) (tc := []) hG hS hA hK hP hD [1] [0] [] rfl rfl (by decide) (by decide) (by decide) rfl
  refine k_endi (As := [.ref bu]) ct (k_runV (As := []) (rest := []) S0 Lv_X7_136 rfl (ci := 4) (q0 := 0) rfl rfl ct (c_Row_size l D bu buA 0 s.heap.size) hl.1 rfl (Nat.le_of_ble_eq_true rfl) rfl dX7_clearBuffer_4 ⟨⟨Nat.le_of_ble_eq_true rfl, Nat.le_of_ble_eq_true rfl⟩, Nat.le_of_ble_eq_true rfl, Nat.le_of_ble_eq_true rfl⟩) rfl rfl (fun r_1 _ H locs hw_2 hP hD hK hS => ?_)
  have hK : va_K D vwCl [] s := hK
  have hP : va_P D vwCl [(w, .inr (7, [.ref st, .ref hi, .ref re, .ref fo, .ref bu, .ref pa])), (bu, .inr (4, [.ref buA, .int 0]))] H := hP
  have hD : va_D A [(w, .inr (7, [.ref st, .ref hi, .ref re, .ref fo, .ref bu, .ref pa])), (bu, .inr (4, [.ref buA, .int 0]))] := hD
  have hw_2 : r_1 = 0 := hw_2
  have hw_2 := hw_2.symm
  subst hw_2
  refine k_nrm (y := 0) rfl ?_
  refine lv_istore_n (lv' := [(1, .int 0), (0, .ref w)]) hx hb dX7_clearBuffer_7 rfl hl (by decide) rfl (fun ls hl => ?_)
  refine lv_aload_n hx hb dX7_clearBuffer_8 rfl (lv_at hl 1 rfl) ?_
  refine va_get (D := D) (ci := 7) (v := .ref bu) (C := RX7) (T := TX7) (N := 6) hx hb ht inA_X7 hown hK hP 0 rfl rfl 4 (by decide) (ht _ lf_X7_39) (fun _ h9 => h9) rfl dX7_clearBuffer_9 ?_
  have ct := k_cut_of (wc := [(bu, .inr (4, [.ref buA, .int 0]))]) (wr := [(w, .inr (7, [.ref st, .ref hi, .ref re, .ref fo, .ref bu, .ref pa]))]) (tc := []) hG hS hA hK hP hD [1] [0] [] rfl rfl (by decide) (by decide) (by decide) rfl
  refine k_endv (As := [.ref bu]) ct (k_runV (As := []) (rest := []) S0 Lv_X7_137 rfl (ci := 4) (q0 := 0) rfl rfl ct (c_Row_clear l D bu buA 0 H.size) hl.1 rfl (Nat.le_of_ble_eq_true rfl) rfl dX7_clearBuffer_12 ⟨⟨Nat.le_of_ble_eq_true rfl, Nat.le_of_ble_eq_true rfl⟩, Nat.le_of_ble_eq_true rfl, Nat.le_of_ble_eq_true rfl⟩) rfl rfl (fun _ _ H locs hw_4 hP hD hK hS => ?_)
  have hK : va_K D vwCl [] s := hK
  have hP : va_P D vwCl [(w, .inr (7, [.ref st, .ref hi, .ref re, .ref fo, .ref bu, .ref pa])), (bu, .inr (4, [.ref buA, .int 0]))] H := hP
  have hD : va_D A [(w, .inr (7, [.ref st, .ref hi, .ref re, .ref fo, .ref bu, .ref pa])), (bu, .inr (4, [.ref buA, .int 0]))] := hD
  refine lv_iload_n hx hb dX7_clearBuffer_15 rfl (lv_at hl 0 rfl) ?_
  have hP9 : va_P D vwCl [(w, .inr (7, [.ref st, .ref hi, .ref re, .ref fo, .ref bu, .ref pa])), (bu, .inr (4, [.ref buA, .int 0]))] H := hP.sub [0, 1] rfl
  have hD9 : va_D A [(w, .inr (7, [.ref st, .ref hi, .ref re, .ref fo, .ref bu, .ref pa])), (bu, .inr (4, [.ref buA, .int 0]))] := hD.sub [0, 1] (by decide) rfl
  have hK9 : va_K D vwCl [] s := hK.sub [] rfl
  exact W.iret (v := 0) hx hb hr (fun t ht9 hW9 => ⟨⟨0, (), rfl, by first | rfl | trivial | (simp only [if_true, if_false, reduceIte, and_self]; done) | simp_all, ⟨by rw [ht9]; exact hP9, va_K.moved hW9.alike hK9, hD9⟩⟩, hS.F ht9⟩) hS.2.2 dX7_clearBuffer_16
set_option maxHeartbeats 4000000 in
set_option maxRecDepth 100000 in
theorem c_restart0 (l : Launch) (D : va_G) (pa : Nat) (sz : Nat) : k_Mv (S := Unit) l D yX1_restart cX1_restart 1 none 0 0 0 0 [.ref pa] [(pa, .inr (1, [.int 0, .int 0, .int 0, .int 0, .int 0, .int 0]))] [] (fun (_ : Unit) => True) (fun _ => [(pa, .inr (1, [.int 0, .int 0, .int 0, .int 0, .int 0, .int 0]))]) (fun _ => []) sz := by
  refine Met.ofW (cc := cX1_restart) (maxL := 1) (ret := none) (by decide) rfl ?_
  intro p e s m args below meth c s₁ B hml hv
  obtain ⟨rfl, hsz, hP, hK, hD0, hG⟩ := hv
  have hx := B.exec
  have hb := B.bytes
  have hr := B.returns
  have ht : ∀ v9 ∈ wsA, v9.before ([.ref pa] : List Value).toArray s = true := fun v9 h9 => atoms_spec (ws := k_ws yX1_restart cX1_restart 1 none) B.pre v9 (List.mem_cons_of_mem _ h9)
  have hown : s.vm.findClass RX1 = some m.cls := findClass_of_methodNamed B.named
  have S0 : k_C p s m ([.ref pa] : List Value).toArray c cX1_restart 1 RX1 := ⟨hx, hb, hml, hown, ht⟩
  have hlocks := B.notSynchronized
  subst hsz
  have hD := hD0.self (sz := s.heap.size)
  generalize hAe : va_A [(pa, .inr (1, [.int 0, .int 0, .int 0, .int 0, .int 0, .int 0]))] s.heap.size = A at hD hG ⊢
  have hA : ∀ q : Nat, s.heap.size ≤ q → A q := fun q h => by rw [← hAe]; exact Or.inr h
  have hS : va_S A s.heap s.heap [] := va_S.rf
  have hl := lv_entry ([.ref pa]) (n := 1) (Nat.le_of_ble_eq_true rfl)
  rw [lg_entry_eq]
  generalize (lg_sl ([.ref pa]) ++ List.replicate (1 - (lg_sl ([.ref pa])).length) Slot.unset).toArray = ls at hl ⊢
  have hl : lv_has ls 1 [(0, .ref pa)] := hl
  have hP : va_P D vwCl [(pa, .inr (1, [.int 0, .int 0, .int 0, .int 0, .int 0, .int 0]))] s.heap := hP
  refine lv_aload_n hx hb dX1_restart_0 rfl (lv_at hl 0 rfl) ?_
  refine lv_iconst (v := 0) hx hb dX1_restart_1 (by decide) ?_
  refine va_put (D := D) (ci := 1) (v := .int 0) (ty := .int) (C := RX1) (T := TX1) (N := 6) hx hb ht inA_X1 tyX1 tyX1_ok nmX1 hown hK hP hD hS 0 rfl rfl 4 (by decide) (ht _ lf_X1_11) (fun _ h9 => h9) rfl (tyX1_ok 4 (by decide)) rfl rfl (Nat.le_of_ble_eq_true rfl) dX1_restart_2 (fun H locs hP hD hS => ?_)
  have hP : va_P D vwCl [(pa, .inr (1, [.int 0, .int 0, .int 0, .int 0, .int 0, .int 0]))] H := hP
  have hD : va_D A [(pa, .inr (1, [.int 0, .int 0, .int 0, .int 0, .int 0, .int 0]))] := hD
  have hP9 : va_P D vwCl [(pa, .inr (1, [.int 0, .int 0, .int 0, .int 0, .int 0, .int 0]))] H := hP.sub [0] rfl
  have hD9 : va_D A [(pa, .inr (1, [.int 0, .int 0, .int 0, .int 0, .int 0, .int 0]))] := hD.sub [0] (by decide) rfl
  have hK9 : va_K D vwCl [] s := hK.sub [] rfl
  exact W.vret hx hb hr (fun t ht9 hW9 => ⟨⟨(), rfl, by first | rfl | trivial | (simp only [if_true, if_false, reduceIte, and_self]; done) | simp_all, ⟨by rw [ht9]; exact hP9, va_K.moved hW9.alike hK9, hD9⟩⟩, hS.F ht9⟩) hS.2.2 dX1_restart_5
set_option maxHeartbeats 4000000 in
set_option maxRecDepth 100000 in
theorem c_atEnd0 (l : Launch) (D : va_G) (pa : Nat) (sz : Nat) : k_Mi (S := Unit) l D yX1_isAtEndOfCommand cX1_isAtEndOfCommand 2 (some .boolean) 0 0 0 0 [.ref pa] [(pa, .inr (1, [.int 0, .int 0, .int 0, .int 0, .int 0, .int 0]))] [] (fun (r : Int32) (_ : Unit) => r = 0) (fun _ => [(pa, .inr (1, [.int 0, .int 0, .int 0, .int 0, .int 0, .int 0]))]) (fun _ => []) sz := by
  refine Met.ofW (cc := cX1_isAtEndOfCommand) (maxL := 2) (ret := (some .boolean)) (by decide) rfl ?_
  intro p e s m args below meth c s₁ B hml hv
  obtain ⟨rfl, hsz, hP, hK, hD0, hG⟩ := hv
  have hx := B.exec
  have hb := B.bytes
  have hr := B.returns
  have ht : ∀ v9 ∈ wsA, v9.before ([.ref pa] : List Value).toArray s = true := fun v9 h9 => atoms_spec (ws := k_ws yX1_isAtEndOfCommand cX1_isAtEndOfCommand 2 (some .boolean)) B.pre v9 (List.mem_cons_of_mem _ h9)
  have hown : s.vm.findClass RX1 = some m.cls := findClass_of_methodNamed B.named
  have S0 : k_C p s m ([.ref pa] : List Value).toArray c cX1_isAtEndOfCommand 2 RX1 := ⟨hx, hb, hml, hown, ht⟩
  have hlocks := B.notSynchronized
  subst hsz
  have hD := hD0.self (sz := s.heap.size)
  generalize hAe : va_A [(pa, .inr (1, [.int 0, .int 0, .int 0, .int 0, .int 0, .int 0]))] s.heap.size = A at hD hG ⊢
  have hA : ∀ q : Nat, s.heap.size ≤ q → A q := fun q h => by rw [← hAe]; exact Or.inr h
  have hS : va_S A s.heap s.heap [] := va_S.rf
  have hl := lv_entry ([.ref pa]) (n := 2) (Nat.le_of_ble_eq_true rfl)
  rw [lg_entry_eq]
  generalize (lg_sl ([.ref pa]) ++ List.replicate (2 - (lg_sl ([.ref pa])).length) Slot.unset).toArray = ls at hl ⊢
  have hl : lv_has ls 2 [(0, .ref pa)] := hl
  have hP : va_P D vwCl [(pa, .inr (1, [.int 0, .int 0, .int 0, .int 0, .int 0, .int 0]))] s.heap := hP
  refine lv_aload_n hx hb dX1_isAtEndOfCommand_0 rfl (lv_at hl 0 rfl) ?_
  refine va_get (D := D) (ci := 1) (v := .int 0) (C := RX1) (T := TX1) (N := 6) hx hb ht inA_X1 hown hK hP 0 rfl rfl 4 (by decide) (ht _ lf_X1_11) (fun _ h9 => h9) rfl dX1_isAtEndOfCommand_1 ?_
  refine lv_iconst (v := 2) hx hb dX1_isAtEndOfCommand_4 (by decide) ?_
  refine lv_icmp_eq (tgt := 25) hx hb dX1_isAtEndOfCommand_5 (by decide) (fun c9 => absurd c9 (by decide)) (fun _ => ?_)
  refine lv_aload_n hx hb dX1_isAtEndOfCommand_8 rfl (lv_at hl 0 rfl) ?_
  refine va_get (D := D) (ci := 1) (v := .int 0) (C := RX1) (T := TX1) (N := 6) hx hb ht inA_X1 hown hK hP 0 rfl rfl 4 (by decide) (ht _ lf_X1_11) (fun _ h9 => h9) rfl dX1_isAtEndOfCommand_9 ?_
  refine lv_iconst (v := 1) hx hb dX1_isAtEndOfCommand_12 (by decide) ?_
  refine lv_icmp_ne (tgt := 29) hx hb dX1_isAtEndOfCommand_13 (by decide) (fun _ => ?_) (fun c9 => absurd c9 (by decide))
  refine lv_iconst (v := 0) hx hb dX1_isAtEndOfCommand_29 (by decide) ?_
  refine lv_istore_n (lv' := [(1, .int 0), (0, .ref pa)]) hx hb dX1_isAtEndOfCommand_30 rfl hl (by decide) rfl (fun ls hl => ?_)
  refine lv_iload_n hx hb dX1_isAtEndOfCommand_31 rfl (lv_at hl 0 rfl) ?_
  refine lv_if_eq (tgt := 46) hx hb dX1_isAtEndOfCommand_32 (by decide) (fun _ => ?_) (fun c9 => absurd (by decide) c9)
  refine lv_iconst (v := 0) hx hb dX1_isAtEndOfCommand_46 (by decide) ?_
  have hP9 : va_P D vwCl [(pa, .inr (1, [.int 0, .int 0, .int 0, .int 0, .int 0, .int 0]))] s.heap := hP.sub [0] rfl
  have hD9 : va_D A [(pa, .inr (1, [.int 0, .int 0, .int 0, .int 0, .int 0, .int 0]))] := hD.sub [0] (by decide) rfl
  have hK9 : va_K D vwCl [] s := hK.sub [] rfl
  exact W.zret (v := 0) hx hb hr (rfl) (fun t ht9 hW9 => ⟨⟨0, (), rfl, by first | rfl | trivial | (simp only [if_true, if_false, reduceIte, and_self]; done) | simp_all, ⟨by rw [ht9]; exact hP9, va_K.moved hW9.alike hK9, hD9⟩⟩, hS.F ht9⟩) hS.2.2 dX1_isAtEndOfCommand_47
set_option maxHeartbeats 4000000 in
set_option maxRecDepth 100000 in
theorem c_W_parse (l : Launch) (D : va_G) (w : Nat) (st : Nat) (hi : Nat) (re : Nat) (fo : Nat) (bu : Nat) (pa : Nat) (buA : Nat) (sz : Nat) : k_Mi (S := Unit) l D yX7_parseBuffer cX7_parseBuffer 2 (some .int) 1 0 0 20 [.ref w] [(w, .inr (7, [.ref st, .ref hi, .ref re, .ref fo, .ref bu, .ref pa])), (bu, .inr (4, [.ref buA, .int 0])), (pa, .inr (1, [.int 0, .int 0, .int 0, .int 0, .int 0, .int 0]))] [] (fun (r : Int32) (_ : Unit) => r = 0) (fun _ => [(w, .inr (7, [.ref st, .ref hi, .ref re, .ref fo, .ref bu, .ref pa])), (bu, .inr (4, [.ref buA, .int 0])), (pa, .inr (1, [.int 0, .int 0, .int 0, .int 0, .int 0, .int 0]))]) (fun _ => []) sz := by
  refine Met.ofW (cc := cX7_parseBuffer) (maxL := 2) (ret := (some .int)) (by decide) rfl ?_
  intro p e s m args below meth c s₁ B hml hv
  obtain ⟨rfl, hsz, hP, hK, hD0, hG⟩ := hv
  have hx := B.exec
  have hb := B.bytes
  have hr := B.returns
  have ht : ∀ v9 ∈ wsA, v9.before ([.ref w] : List Value).toArray s = true := fun v9 h9 => atoms_spec (ws := k_ws yX7_parseBuffer cX7_parseBuffer 2 (some .int)) B.pre v9 (List.mem_cons_of_mem _ h9)
  have hown : s.vm.findClass RX7 = some m.cls := findClass_of_methodNamed B.named
  have S0 : k_C p s m ([.ref w] : List Value).toArray c cX7_parseBuffer 2 RX7 := ⟨hx, hb, hml, hown, ht⟩
  have hlocks := B.notSynchronized
  subst hsz
  have hD := hD0.self (sz := s.heap.size)
  generalize hAe : va_A [(w, .inr (7, [.ref st, .ref hi, .ref re, .ref fo, .ref bu, .ref pa])), (bu, .inr (4, [.ref buA, .int 0])), (pa, .inr (1, [.int 0, .int 0, .int 0, .int 0, .int 0, .int 0]))] s.heap.size = A at hD hG ⊢
  have hA : ∀ q : Nat, s.heap.size ≤ q → A q := fun q h => by rw [← hAe]; exact Or.inr h
  have hS : va_S A s.heap s.heap [] := va_S.rf
  have hl := lv_entry ([.ref w]) (n := 2) (Nat.le_of_ble_eq_true rfl)
  rw [lg_entry_eq]
  generalize (lg_sl ([.ref w]) ++ List.replicate (2 - (lg_sl ([.ref w])).length) Slot.unset).toArray = ls at hl ⊢
  have hl : lv_has ls 2 [(0, .ref w)] := hl
  have hP : va_P D vwCl [(w, .inr (7, [.ref st, .ref hi, .ref re, .ref fo, .ref bu, .ref pa])), (bu, .inr (4, [.ref buA, .int 0])), (pa, .inr (1, [.int 0, .int 0, .int 0, .int 0, .int 0, .int 0]))] s.heap := hP
  refine lv_aload_n hx hb dX7_parseBuffer_0 rfl (lv_at hl 0 rfl) ?_
  refine va_get (D := D) (ci := 7) (v := .ref pa) (C := RX7) (T := TX7) (N := 6) hx hb ht inA_X7 hown hK hP 0 rfl rfl 5 (by decide) (ht _ lf_X7_45) (fun _ h9 => h9) rfl dX7_parseBuffer_1 ?_
  have ct := k_cut_of (wc := [(pa, .inr (1, [.int 0, .int 0, .int 0, .int 0, .int 0, .int 0]))]) (wr := [(w, .inr (7, [.ref st, .ref hi, .ref re, .ref fo, .ref bu, .ref pa])), (bu, .inr (4, [.ref buA, .int 0]))]) (tc := []) hG hS hA hK hP hD [2] [0, 1] [] rfl rfl (by decide) (by decide) (by decide) rfl
  refine k_endv (As := [.ref pa]) ct (k_runV (As := []) (rest := []) S0 Lv_X7_214 rfl (ci := 1) (q0 := 0) rfl rfl ct (c_restart0 l D pa s.heap.size) hl.1 rfl (Nat.le_of_ble_eq_true rfl) rfl dX7_parseBuffer_4 ⟨⟨Nat.le_of_ble_eq_true rfl, Nat.le_of_ble_eq_true rfl⟩, Nat.le_of_ble_eq_true rfl, Nat.le_of_ble_eq_true rfl⟩) rfl rfl (fun _ _ H locs hw_2 hP hD hK hS => ?_)
  have hK : va_K D vwCl [] s := hK
  have hP : va_P D vwCl [(w, .inr (7, [.ref st, .ref hi, .ref re, .ref fo, .ref bu, .ref pa])), (bu, .inr (4, [.ref buA, .int 0])), (pa, .inr (1, [.int 0, .int 0, .int 0, .int 0, .int 0, .int 0]))] H := hP
  have hD : va_D A [(w, .inr (7, [.ref st, .ref hi, .ref re, .ref fo, .ref bu, .ref pa])), (bu, .inr (4, [.ref buA, .int 0])), (pa, .inr (1, [.int 0, .int 0, .int 0, .int 0, .int 0, .int 0]))] := hD
  refine lv_iconst (v := 0) hx hb dX7_parseBuffer_7 (by decide) ?_
  refine lv_istore_n (lv' := [(1, .int 0), (0, .ref w)]) hx hb dX7_parseBuffer_8 rfl hl (by decide) rfl (fun ls hl => ?_)
  refine lv_iload_n hx hb dX7_parseBuffer_9 rfl (lv_at hl 0 rfl) ?_
  refine lv_aload_n hx hb dX7_parseBuffer_10 rfl (lv_at hl 1 rfl) ?_
  refine va_get (D := D) (ci := 7) (v := .ref bu) (C := RX7) (T := TX7) (N := 6) hx hb ht inA_X7 hown hK hP 0 rfl rfl 4 (by decide) (ht _ lf_X7_39) (fun _ h9 => h9) rfl dX7_parseBuffer_11 ?_
  have ct := k_cut_of (wc := [(bu, .inr (4, [.ref buA, .int 0]))]) (wr := [(w, .inr (7, [.ref st, .ref hi, .ref re, .ref fo, .ref bu, .ref pa])), (pa, .inr (1, [.int 0, .int 0, .int 0, .int 0, .int 0, .int 0]))]) (tc := []) hG hS hA hK hP hD [1] [0, 2] [] rfl rfl (by decide) (by decide) (by decide) rfl
  refine k_endi (As := [.ref bu]) ct (k_runV (As := []) (rest := [.int 0]) S0 Lv_X7_136 rfl (ci := 4) (q0 := 0) rfl rfl ct (c_Row_size l D bu buA 0 H.size) hl.1 rfl (Nat.le_of_ble_eq_true rfl) rfl dX7_parseBuffer_14 ⟨⟨Nat.le_of_ble_eq_true rfl, Nat.le_of_ble_eq_true rfl⟩, Nat.le_of_ble_eq_true rfl, Nat.le_of_ble_eq_true rfl⟩) rfl rfl (fun r_3 _ H locs hw_4 hP hD hK hS => ?_)
  have hK : va_K D vwCl [] s := hK
  have hP : va_P D vwCl [(w, .inr (7, [.ref st, .ref hi, .ref re, .ref fo, .ref bu, .ref pa])), (pa, .inr (1, [.int 0, .int 0, .int 0, .int 0, .int 0, .int 0])), (bu, .inr (4, [.ref buA, .int 0]))] H := hP
  have hD : va_D A [(w, .inr (7, [.ref st, .ref hi, .ref re, .ref fo, .ref bu, .ref pa])), (pa, .inr (1, [.int 0, .int 0, .int 0, .int 0, .int 0, .int 0])), (bu, .inr (4, [.ref buA, .int 0]))] := hD
  have hw_4 : r_3 = 0 := hw_4
  have hw_4 := hw_4.symm
  subst hw_4
  refine k_nrm (y := 0) rfl ?_
  refine lv_icmp_ge (tgt := 46) hx hb dX7_parseBuffer_17 (by decide) (fun _ => ?_) (fun c9 => absurd (by decide) c9)
  refine lv_aload_n hx hb dX7_parseBuffer_46 rfl (lv_at hl 1 rfl) ?_
  refine va_get (D := D) (ci := 7) (v := .ref bu) (C := RX7) (T := TX7) (N := 6) hx hb ht inA_X7 hown hK hP 0 rfl rfl 4 (by decide) (ht _ lf_X7_39) (fun _ h9 => h9) rfl dX7_parseBuffer_47 ?_
  have ct := k_cut_of (wc := [(bu, .inr (4, [.ref buA, .int 0]))]) (wr := [(w, .inr (7, [.ref st, .ref hi, .ref re, .ref fo, .ref bu, .ref pa])), (pa, .inr (1, [.int 0, .int 0, .int 0, .int 0, .int 0, .int 0]))]) (tc := []) hG hS hA hK hP hD [2] [0, 1] [] rfl rfl (by decide) (by decide) (by decide) rfl
  refine k_endi (As := [.ref bu]) ct (k_runV (As := []) (rest := []) S0 Lv_X7_136 rfl (ci := 4) (q0 := 0) rfl rfl ct (c_Row_size l D bu buA 0 H.size) hl.1 rfl (Nat.le_of_ble_eq_true rfl) rfl dX7_parseBuffer_50 ⟨⟨Nat.le_of_ble_eq_true rfl, Nat.le_of_ble_eq_true rfl⟩, Nat.le_of_ble_eq_true rfl, Nat.le_of_ble_eq_true rfl⟩) rfl rfl (fun r_5 _ H locs hw_6 hP hD hK hS => ?_)
  have hK : va_K D vwCl [] s := hK
  have hP : va_P D vwCl [(w, .inr (7, [.ref st, .ref hi, .ref re, .ref fo, .ref bu, .ref pa])), (pa, .inr (1, [.int 0, .int 0, .int 0, .int 0, .int 0, .int 0])), (bu, .inr (4, [.ref buA, .int 0]))] H := hP
  have hD : va_D A [(w, .inr (7, [.ref st, .ref hi, .ref re, .ref fo, .ref bu, .ref pa])), (pa, .inr (1, [.int 0, .int 0, .int 0, .int 0, .int 0, .int 0])), (bu, .inr (4, [.ref buA, .int 0]))] := hD
  have hw_6 : r_5 = 0 := hw_6
  have hw_6 := hw_6.symm
  subst hw_6
  refine k_nrm (y := 0) rfl ?_
  have hP9 : va_P D vwCl [(w, .inr (7, [.ref st, .ref hi, .ref re, .ref fo, .ref bu, .ref pa])), (bu, .inr (4, [.ref buA, .int 0])), (pa, .inr (1, [.int 0, .int 0, .int 0, .int 0, .int 0, .int 0]))] H := hP.sub [0, 2, 1] rfl
  have hD9 : va_D A [(w, .inr (7, [.ref st, .ref hi, .ref re, .ref fo, .ref bu, .ref pa])), (bu, .inr (4, [.ref buA, .int 0])), (pa, .inr (1, [.int 0, .int 0, .int 0, .int 0, .int 0, .int 0]))] := hD.sub [0, 2, 1] (by decide) rfl
  have hK9 : va_K D vwCl [] s := hK.sub [] rfl
  exact W.iret (v := 0) hx hb hr (fun t ht9 hW9 => ⟨⟨0, (), rfl, by first | rfl | trivial | (simp only [if_true, if_false, reduceIte, and_self]; done) | simp_all, ⟨by rw [ht9]; exact hP9, va_K.moved hW9.alike hK9, hD9⟩⟩, hS.F ht9⟩) hS.2.2 dX7_parseBuffer_53
set_option maxHeartbeats 4000000 in
set_option maxRecDepth 100000 in
theorem c_W_firstError (l : Launch) (D : va_G) (w : Nat) (st : Nat) (hi : Nat) (re : Nat) (fo : Nat) (bu : Nat) (pa : Nat) (buA : Nat) (sz : Nat) : k_Mi (S := Unit) l D yX7_firstError cX7_firstError 1 (some .int) 2 0 0 41 [.ref w] [(w, .inr (7, [.ref st, .ref hi, .ref re, .ref fo, .ref bu, .ref pa])), (bu, .inr (4, [.ref buA, .int 0])), (pa, .inr (1, [.int 0, .int 0, .int 0, .int 0, .int 0, .int 0]))] [] (fun (r : Int32) (_ : Unit) => r = 0) (fun _ => [(w, .inr (7, [.ref st, .ref hi, .ref re, .ref fo, .ref bu, .ref pa])), (bu, .inr (4, [.ref buA, .int 0])), (pa, .inr (1, [.int 0, .int 0, .int 0, .int 0, .int 0, .int 0]))]) (fun _ => []) sz := by
  refine Met.ofW (cc := cX7_firstError) (maxL := 1) (ret := (some .int)) (by decide) rfl ?_
  intro p e s m args below meth c s₁ B hml hv
  obtain ⟨rfl, hsz, hP, hK, hD0, hG⟩ := hv
  have hx := B.exec
  have hb := B.bytes
  have hr := B.returns
  have ht : ∀ v9 ∈ wsA, v9.before ([.ref w] : List Value).toArray s = true := fun v9 h9 => atoms_spec (ws := k_ws yX7_firstError cX7_firstError 1 (some .int)) B.pre v9 (List.mem_cons_of_mem _ h9)
  have hown : s.vm.findClass RX7 = some m.cls := findClass_of_methodNamed B.named
  have S0 : k_C p s m ([.ref w] : List Value).toArray c cX7_firstError 1 RX7 := ⟨hx, hb, hml, hown, ht⟩
  have hlocks := B.notSynchronized
  subst hsz
  have hD := hD0.self (sz := s.heap.size)
  generalize hAe : va_A [(w, .inr (7, [.ref st, .ref hi, .ref re, .ref fo, .ref bu, .ref pa])), (bu, .inr (4, [.ref buA, .int 0])), (pa, .inr (1, [.int 0, .int 0, .int 0, .int 0, .int 0, .int 0]))] s.heap.size = A at hD hG ⊢
  have hA : ∀ q : Nat, s.heap.size ≤ q → A q := fun q h => by rw [← hAe]; exact Or.inr h
  have hS : va_S A s.heap s.heap [] := va_S.rf
  have hl := lv_entry ([.ref w]) (n := 1) (Nat.le_of_ble_eq_true rfl)
  rw [lg_entry_eq]
  generalize (lg_sl ([.ref w]) ++ List.replicate (1 - (lg_sl ([.ref w])).length) Slot.unset).toArray = ls at hl ⊢
  have hl : lv_has ls 1 [(0, .ref w)] := hl
  have hP : va_P D vwCl [(w, .inr (7, [.ref st, .ref hi, .ref re, .ref fo, .ref bu, .ref pa])), (bu, .inr (4, [.ref buA, .int 0])), (pa, .inr (1, [.int 0, .int 0, .int 0, .int 0, .int 0, .int 0]))] s.heap := hP
  refine lv_aload_n hx hb dX7_firstError_0 rfl (lv_at hl 0 rfl) ?_
  have ct := k_cut_of (wc := [(w, .inr (7, [.ref st, .ref hi, .ref re, .ref fo, .ref bu, .ref pa])), (bu, .inr (4, [.ref buA, .int 0])), (pa, .inr (1, [.int 0, .int 0, .int 0, .int 0, .int 0, .int 0]))]) (wr := []) (tc := []) hG hS hA hK hP hD [0, 1, 2] [] [] rfl rfl (by decide) (by decide) (by decide) rfl
  refine k_endi (As := [.ref w]) ct (k_runV (As := []) (rest := []) S0 Lv_X7_206 rfl (ci := 7) (q0 := 0) rfl rfl ct (c_W_parse l D w st hi re fo bu pa buA s.heap.size) hl.1 rfl (Nat.le_of_ble_eq_true rfl) rfl dX7_firstError_1 ⟨⟨Nat.le_of_ble_eq_true rfl, Nat.le_of_ble_eq_true rfl⟩, Nat.le_of_ble_eq_true rfl, Nat.le_of_ble_eq_true rfl⟩) rfl rfl (fun r_1 _ H locs hw_2 hP hD hK hS => ?_)
  have hK : va_K D vwCl [] s := hK
  have hP : va_P D vwCl [(w, .inr (7, [.ref st, .ref hi, .ref re, .ref fo, .ref bu, .ref pa])), (bu, .inr (4, [.ref buA, .int 0])), (pa, .inr (1, [.int 0, .int 0, .int 0, .int 0, .int 0, .int 0]))] H := hP
  have hD : va_D A [(w, .inr (7, [.ref st, .ref hi, .ref re, .ref fo, .ref bu, .ref pa])), (bu, .inr (4, [.ref buA, .int 0])), (pa, .inr (1, [.int 0, .int 0, .int 0, .int 0, .int 0, .int 0]))] := hD
  have hw_2 : r_1 = 0 := hw_2
  have hw_2 := hw_2.symm
  subst hw_2
  refine k_nrm (y := 0) rfl ?_
  have hP9 : va_P D vwCl [(w, .inr (7, [.ref st, .ref hi, .ref re, .ref fo, .ref bu, .ref pa])), (bu, .inr (4, [.ref buA, .int 0])), (pa, .inr (1, [.int 0, .int 0, .int 0, .int 0, .int 0, .int 0]))] H := hP.sub [0, 1, 2] rfl
  have hD9 : va_D A [(w, .inr (7, [.ref st, .ref hi, .ref re, .ref fo, .ref bu, .ref pa])), (bu, .inr (4, [.ref buA, .int 0])), (pa, .inr (1, [.int 0, .int 0, .int 0, .int 0, .int 0, .int 0]))] := hD.sub [0, 1, 2] (by decide) rfl
  have hK9 : va_K D vwCl [] s := hK.sub [] rfl
  exact W.iret (v := 0) hx hb hr (fun t ht9 hW9 => ⟨⟨0, (), rfl, by first | rfl | trivial | (simp only [if_true, if_false, reduceIte, and_self]; done) | simp_all, ⟨by rw [ht9]; exact hP9, va_K.moved hW9.alike hK9, hD9⟩⟩, hS.F ht9⟩) hS.2.2 dX7_firstError_4
