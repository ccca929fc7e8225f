set_option maxRecDepth 20000 in
theorem inA_X8 : ∀ w ∈ u_ws RX8 TX8 12, w ∈ wsA := by
  show ∀ w ∈ ([u_lay RX8 TX8 0, u_lay RX8 TX8 1, u_lay RX8 TX8 2, u_lay RX8 TX8 3, u_lay RX8 TX8 4, u_lay RX8 TX8 5, u_lay RX8 TX8 6, u_lay RX8 TX8 7, u_lay RX8 TX8 8, u_lay RX8 TX8 9, u_lay RX8 TX8 10, u_lay RX8 TX8 11] : List Cond), w ∈ wsA
  exact List.forall_mem_cons.mpr ⟨mA 799 rfl rfl, List.forall_mem_cons.mpr ⟨mA 801 rfl rfl, List.forall_mem_cons.mpr ⟨mA 803 rfl rfl, List.forall_mem_cons.mpr ⟨mA 805 rfl rfl, List.forall_mem_cons.mpr ⟨mA 807 rfl rfl, List.forall_mem_cons.mpr ⟨mA 809 rfl rfl, List.forall_mem_cons.mpr ⟨mA 811 rfl rfl, List.forall_mem_cons.mpr ⟨mA 813 rfl rfl, List.forall_mem_cons.mpr ⟨mA 815 rfl rfl, List.forall_mem_cons.mpr ⟨mA 817 rfl rfl, List.forall_mem_cons.mpr ⟨mA 819 rfl rfl, List.forall_mem_cons.mpr ⟨mA 821 rfl rfl, fun _ h => absurd h List.not_mem_nil⟩⟩⟩⟩⟩⟩⟩⟩⟩⟩⟩⟩
set_option maxRecDepth 20000 in
theorem lf_X8_23 : Cond.fieldLink RX8 23 "BarcodeWandModel" "thrown" "I" ∈ wsA := mA 791 rfl rfl
set_option maxRecDepth 20000 in
theorem lf_X8_7 : Cond.fieldLink RX8 7 "BarcodeWandModel" "s" "[I" ∈ wsA := mA 787 rfl rfl
theorem li_BarcodeWandModel : Cond.initialized "BarcodeWandModel" ∈ wsA := mA 10 rfl rfl
set_option maxRecDepth 20000 in
theorem lk_X8_manyElements : Cond.code yX8_manyElements cX8_manyElements 1 (some .int) ∈ wsA := mA 869 rfl rfl
theorem ly_X8_manyElements : k_y yX8_manyElements 0 := ⟨by decide +kernel, by decide +kernel, by decide +kernel⟩
set_option maxRecDepth 20000 in
theorem lm_X8_manyElements : Cond.instanceMethod yX8_manyElements ∈ wsA := mA 868 rfl rfl
theorem le_X8_manyElements : Cond.selects (yX8_manyElements).cls yX8_manyElements yX8_manyElements ∈ wsA := mS 26 rfl rfl
set_option maxRecDepth 20000 in
theorem Lv_X8_38 : k_LV RX8 38 yX8_manyElements cX8_manyElements 1 (some .int) 0 := ⟨mA 866 rfl rfl, lm_X8_manyElements, le_X8_manyElements, li_BarcodeWandModel, lk_X8_manyElements, ly_X8_manyElements⟩
set_option maxRecDepth 20000 in
theorem lk_X8_in : Cond.code yX8_in cX8_in 3 (some .boolean) ∈ wsA := mA 838 rfl rfl
theorem ly_X8_in : k_y yX8_in 3 := ⟨by decide +kernel, by decide +kernel, by decide +kernel⟩
set_option maxRecDepth 20000 in
theorem ls_X8_in : Cond.static yX8_in ∈ wsA := mA 837 rfl rfl
set_option maxRecDepth 20000 in
theorem Ls_X8_46 : k_LS RX8 46 yX8_in cX8_in 3 (some .boolean) 3 := ⟨mA 836 rfl rfl, ls_X8_in, li_BarcodeWandModel, lk_X8_in, ly_X8_in⟩
set_option maxRecDepth 20000 in
theorem lf_X8_27 : Cond.fieldLink RX8 27 "BarcodeWandModel" "saved" "I" ∈ wsA := mA 788 rfl rfl
set_option maxRecDepth 20000 in
theorem lk_X8_isElement : Cond.code yX8_isElement cX8_isElement 2 (some .boolean) ∈ wsA := mA 865 rfl rfl
theorem ly_X8_isElement : k_y yX8_isElement 1 := ⟨by decide +kernel, by decide +kernel, by decide +kernel⟩
set_option maxRecDepth 20000 in
theorem lm_X8_isElement : Cond.instanceMethod yX8_isElement ∈ wsA := mA 864 rfl rfl
theorem le_X8_isElement : Cond.selects (yX8_isElement).cls yX8_isElement yX8_isElement ∈ wsA := mS 25 rfl rfl
set_option maxRecDepth 20000 in
theorem Lv_X8_68 : k_LV RX8 68 yX8_isElement cX8_isElement 2 (some .boolean) 1 := ⟨mA 862 rfl rfl, lm_X8_isElement, le_X8_isElement, li_BarcodeWandModel, lk_X8_isElement, ly_X8_isElement⟩
set_option maxRecDepth 20000 in
theorem lk_X8_goes : Cond.code yX8_goes cX8_goes 3 (some .boolean) ∈ wsA := mA 842 rfl rfl
theorem ly_X8_goes : k_y yX8_goes 2 := ⟨by decide +kernel, by decide +kernel, by decide +kernel⟩
set_option maxRecDepth 20000 in
theorem lm_X8_goes : Cond.instanceMethod yX8_goes ∈ wsA := mA 841 rfl rfl
theorem le_X8_goes : Cond.selects (yX8_goes).cls yX8_goes yX8_goes ∈ wsA := mS 21 rfl rfl
set_option maxRecDepth 20000 in
theorem Lv_X8_58 : k_LV RX8 58 yX8_goes cX8_goes 3 (some .boolean) 2 := ⟨mA 839 rfl rfl, lm_X8_goes, le_X8_goes, li_BarcodeWandModel, lk_X8_goes, ly_X8_goes⟩
set_option maxRecDepth 20000 in
theorem lk_X8_isCode : Cond.code yX8_isCode cX8_isCode 2 (some .boolean) ∈ wsA := mA 1017 rfl rfl
theorem ly_X8_isCode : k_y yX8_isCode 1 := ⟨by decide +kernel, by decide +kernel, by decide +kernel⟩
set_option maxRecDepth 20000 in
theorem lm_X8_isCode : Cond.instanceMethod yX8_isCode ∈ wsA := mA 1016 rfl rfl
theorem le_X8_isCode : Cond.selects (yX8_isCode).cls yX8_isCode yX8_isCode ∈ wsA := mS 44 rfl rfl
set_option maxRecDepth 20000 in
theorem Lv_X8_141 : k_LV RX8 141 yX8_isCode cX8_isCode 2 (some .boolean) 1 := ⟨mA 1014 rfl rfl, lm_X8_isCode, le_X8_isCode, li_BarcodeWandModel, lk_X8_isCode, ly_X8_isCode⟩
set_option maxRecDepth 20000 in
theorem lf_X8_147 : Cond.fieldLink RX8 147 "BarcodeWandModel" "typed" "I" ∈ wsA := mA 790 rfl rfl
theorem dX8_in_0 : decode cX8_in 0 = .ok (.iload_n 0, 1) := by decide +kernel
theorem dX8_in_1 : decode cX8_in 1 = .ok (.iload_n 1, 1) := by decide +kernel
theorem dX8_in_2 : decode cX8_in 2 = .ok (.if_icmp .lt 12, 3) := by decide +kernel
theorem dX8_in_5 : decode cX8_in 5 = .ok (.iload_n 0, 1) := by decide +kernel
theorem dX8_in_6 : decode cX8_in 6 = .ok (.iload_n 2, 1) := by decide +kernel
theorem dX8_in_7 : decode cX8_in 7 = .ok (.if_icmp .gt 7, 3) := by decide +kernel
theorem dX8_in_10 : decode cX8_in 10 = .ok (.iconst 1, 1) := by decide +kernel
theorem dX8_in_11 : decode cX8_in 11 = .ok (.goto 4, 3) := by decide +kernel
theorem dX8_in_14 : decode cX8_in 14 = .ok (.iconst 0, 1) := by decide +kernel
theorem dX8_in_15 : decode cX8_in 15 = .ok (.ireturn, 1) := by decide +kernel
theorem dX8_goes_0 : decode cX8_goes 0 = .ok (.aload_n 0, 1) := by decide +kernel
theorem dX8_goes_1 : decode cX8_goes 1 = .ok (.iload_n 1, 1) := by decide +kernel
theorem dX8_goes_2 : decode cX8_goes 2 = .ok (.ifCond .ne 7, 3) := by decide +kernel
theorem dX8_goes_5 : decode cX8_goes 5 = .ok (.iconst 1, 1) := by decide +kernel
theorem dX8_goes_6 : decode cX8_goes 6 = .ok (.goto 12, 3) := by decide +kernel
theorem dX8_goes_9 : decode cX8_goes 9 = .ok (.iload_n 2, 1) := by decide +kernel
theorem dX8_goes_10 : decode cX8_goes 10 = .ok (.ifCond .ne 7, 3) := by decide +kernel
theorem dX8_goes_13 : decode cX8_goes 13 = .ok (.iconst 2, 1) := by decide +kernel
theorem dX8_goes_14 : decode cX8_goes 14 = .ok (.goto 4, 3) := by decide +kernel
theorem dX8_goes_17 : decode cX8_goes 17 = .ok (.iconst 0, 1) := by decide +kernel
theorem dX8_goes_18 : decode cX8_goes 18 = .ok (.putfield 23, 3) := by decide +kernel
theorem dX8_goes_21 : decode cX8_goes 21 = .ok (.aload_n 0, 1) := by decide +kernel
theorem dX8_goes_22 : decode cX8_goes 22 = .ok (.getfield 23, 3) := by decide +kernel
theorem dX8_goes_25 : decode cX8_goes 25 = .ok (.ifCond .ne 7, 3) := by decide +kernel
theorem dX8_goes_28 : decode cX8_goes 28 = .ok (.iconst 1, 1) := by decide +kernel
theorem dX8_goes_29 : decode cX8_goes 29 = .ok (.goto 4, 3) := by decide +kernel
theorem dX8_goes_32 : decode cX8_goes 32 = .ok (.iconst 0, 1) := by decide +kernel
theorem dX8_goes_33 : decode cX8_goes 33 = .ok (.ireturn, 1) := by decide +kernel
theorem dX8_thrown_0 : decode cX8_thrown 0 = .ok (.aload_n 0, 1) := by decide +kernel
theorem dX8_thrown_1 : decode cX8_thrown 1 = .ok (.getfield 23, 3) := by decide +kernel
theorem dX8_thrown_4 : decode cX8_thrown 4 = .ok (.ireturn, 1) := by decide +kernel
theorem dX8_manyElements_0 : decode cX8_manyElements 0 = .ok (.aload_n 0, 1) := by decide +kernel
theorem dX8_manyElements_1 : decode cX8_manyElements 1 = .ok (.getfield 7, 3) := by decide +kernel
theorem dX8_manyElements_4 : decode cX8_manyElements 4 = .ok (.iconst 0, 1) := by decide +kernel
theorem dX8_manyElements_5 : decode cX8_manyElements 5 = .ok (.iaload, 1) := by decide +kernel
theorem dX8_manyElements_6 : decode cX8_manyElements 6 = .ok (.ifCond .ne 7, 3) := by decide +kernel
theorem dX8_manyElements_9 : decode cX8_manyElements 9 = .ok (.iconst 0, 1) := by decide +kernel
theorem dX8_manyElements_10 : decode cX8_manyElements 10 = .ok (.goto 13, 3) := by decide +kernel
theorem dX8_manyElements_13 : decode cX8_manyElements 13 = .ok (.iconst 4, 1) := by decide +kernel
theorem dX8_manyElements_14 : decode cX8_manyElements 14 = .ok (.aload_n 0, 1) := by decide +kernel
theorem dX8_manyElements_15 : decode cX8_manyElements 15 = .ok (.getfield 7, 3) := by decide +kernel
theorem dX8_manyElements_18 : decode cX8_manyElements 18 = .ok (.iconst 0, 1) := by decide +kernel
theorem dX8_manyElements_19 : decode cX8_manyElements 19 = .ok (.iaload, 1) := by decide +kernel
theorem dX8_manyElements_20 : decode cX8_manyElements 20 = .ok (.imul, 1) := by decide +kernel
theorem dX8_manyElements_21 : decode cX8_manyElements 21 = .ok (.iconst 5, 1) := by decide +kernel
theorem dX8_manyElements_22 : decode cX8_manyElements 22 = .ok (.iadd, 1) := by decide +kernel
theorem dX8_manyElements_23 : decode cX8_manyElements 23 = .ok (.ireturn, 1) := by decide +kernel
theorem dX8_isElement_0 : decode cX8_isElement 0 = .ok (.iload_n 1, 1) := by decide +kernel
theorem dX8_isElement_1 : decode cX8_isElement 1 = .ok (.iconst 0, 1) := by decide +kernel
theorem dX8_isElement_2 : decode cX8_isElement 2 = .ok (.aload_n 0, 1) := by decide +kernel
theorem dX8_isElement_3 : decode cX8_isElement 3 = .ok (.invokevirtual 38, 3) := by decide +kernel
theorem dX8_isElement_6 : decode cX8_isElement 6 = .ok (.iconst 1, 1) := by decide +kernel
theorem dX8_isElement_7 : decode cX8_isElement 7 = .ok (.isub, 1) := by decide +kernel
theorem dX8_isElement_8 : decode cX8_isElement 8 = .ok (.invokestatic 46, 3) := by decide +kernel
theorem dX8_isElement_11 : decode cX8_isElement 11 = .ok (.ireturn, 1) := by decide +kernel
theorem dX8_isCode_0 : decode cX8_isCode 0 = .ok (.iload_n 1, 1) := by decide +kernel
theorem dX8_isCode_1 : decode cX8_isCode 1 = .ok (.iconst 0, 1) := by decide +kernel
theorem dX8_isCode_2 : decode cX8_isCode 2 = .ok (.aload_n 0, 1) := by decide +kernel
theorem dX8_isCode_3 : decode cX8_isCode 3 = .ok (.getfield 7, 3) := by decide +kernel
theorem dX8_isCode_6 : decode cX8_isCode 6 = .ok (.bipush 94, 2) := by decide +kernel
theorem dX8_isCode_8 : decode cX8_isCode 8 = .ok (.iaload, 1) := by decide +kernel
theorem dX8_isCode_9 : decode cX8_isCode 9 = .ok (.iconst 1, 1) := by decide +kernel
theorem dX8_isCode_10 : decode cX8_isCode 10 = .ok (.isub, 1) := by decide +kernel
theorem dX8_isCode_11 : decode cX8_isCode 11 = .ok (.invokestatic 46, 3) := by decide +kernel
theorem dX8_isCode_14 : decode cX8_isCode 14 = .ok (.ireturn, 1) := by decide +kernel
theorem dX8_elements_0 : decode cX8_elements 0 = .ok (.aload_n 0, 1) := by decide +kernel
theorem dX8_elements_1 : decode cX8_elements 1 = .ok (.iconst 0, 1) := by decide +kernel
theorem dX8_elements_2 : decode cX8_elements 2 = .ok (.putfield 23, 3) := by decide +kernel
theorem dX8_elements_5 : decode cX8_elements 5 = .ok (.aload_n 0, 1) := by decide +kernel
theorem dX8_elements_6 : decode cX8_elements 6 = .ok (.invokevirtual 38, 3) := by decide +kernel
theorem dX8_elements_9 : decode cX8_elements 9 = .ok (.ireturn, 1) := by decide +kernel
theorem dX8_times_0 : decode cX8_times 0 = .ok (.aload_n 0, 1) := by decide +kernel
theorem dX8_times_1 : decode cX8_times 1 = .ok (.iconst 0, 1) := by decide +kernel
theorem dX8_times_2 : decode cX8_times 2 = .ok (.putfield 23, 3) := by decide +kernel
theorem dX8_times_5 : decode cX8_times 5 = .ok (.aload_n 0, 1) := by decide +kernel
theorem dX8_times_6 : decode cX8_times 6 = .ok (.getfield 7, 3) := by decide +kernel
theorem dX8_times_9 : decode cX8_times 9 = .ok (.bipush 51, 2) := by decide +kernel
theorem dX8_times_11 : decode cX8_times 11 = .ok (.iaload, 1) := by decide +kernel
theorem dX8_times_12 : decode cX8_times 12 = .ok (.ireturn, 1) := by decide +kernel
theorem dX8_codes_0 : decode cX8_codes 0 = .ok (.aload_n 0, 1) := by decide +kernel
theorem dX8_codes_1 : decode cX8_codes 1 = .ok (.iconst 0, 1) := by decide +kernel
theorem dX8_codes_2 : decode cX8_codes 2 = .ok (.putfield 23, 3) := by decide +kernel
theorem dX8_codes_5 : decode cX8_codes 5 = .ok (.aload_n 0, 1) := by decide +kernel
theorem dX8_codes_6 : decode cX8_codes 6 = .ok (.getfield 7, 3) := by decide +kernel
theorem dX8_codes_9 : decode cX8_codes 9 = .ok (.bipush 94, 2) := by decide +kernel
theorem dX8_codes_11 : decode cX8_codes 11 = .ok (.iaload, 1) := by decide +kernel
theorem dX8_codes_12 : decode cX8_codes 12 = .ok (.ireturn, 1) := by decide +kernel
theorem dX8_successes_0 : decode cX8_successes 0 = .ok (.aload_n 0, 1) := by decide +kernel
theorem dX8_successes_1 : decode cX8_successes 1 = .ok (.iconst 0, 1) := by decide +kernel
theorem dX8_successes_2 : decode cX8_successes 2 = .ok (.putfield 23, 3) := by decide +kernel
theorem dX8_successes_5 : decode cX8_successes 5 = .ok (.aload_n 0, 1) := by decide +kernel
theorem dX8_successes_6 : decode cX8_successes 6 = .ok (.getfield 7, 3) := by decide +kernel
theorem dX8_successes_9 : decode cX8_successes 9 = .ok (.bipush 125, 2) := by decide +kernel
theorem dX8_successes_11 : decode cX8_successes 11 = .ok (.iaload, 1) := by decide +kernel
theorem dX8_successes_12 : decode cX8_successes 12 = .ok (.ireturn, 1) := by decide +kernel
theorem dX8_failures_0 : decode cX8_failures 0 = .ok (.aload_n 0, 1) := by decide +kernel
theorem dX8_failures_1 : decode cX8_failures 1 = .ok (.iconst 0, 1) := by decide +kernel
theorem dX8_failures_2 : decode cX8_failures 2 = .ok (.putfield 23, 3) := by decide +kernel
theorem dX8_failures_5 : decode cX8_failures 5 = .ok (.aload_n 0, 1) := by decide +kernel
theorem dX8_failures_6 : decode cX8_failures 6 = .ok (.getfield 7, 3) := by decide +kernel
theorem dX8_failures_9 : decode cX8_failures 9 = .ok (.bipush 126, 2) := by decide +kernel
theorem dX8_failures_11 : decode cX8_failures 11 = .ok (.iaload, 1) := by decide +kernel
theorem dX8_failures_12 : decode cX8_failures 12 = .ok (.ireturn, 1) := by decide +kernel
theorem dX8_savedStates_0 : decode cX8_savedStates 0 = .ok (.aload_n 0, 1) := by decide +kernel
theorem dX8_savedStates_1 : decode cX8_savedStates 1 = .ok (.iconst 0, 1) := by decide +kernel
theorem dX8_savedStates_2 : decode cX8_savedStates 2 = .ok (.putfield 23, 3) := by decide +kernel
theorem dX8_savedStates_5 : decode cX8_savedStates 5 = .ok (.aload_n 0, 1) := by decide +kernel
theorem dX8_savedStates_6 : decode cX8_savedStates 6 = .ok (.getfield 27, 3) := by decide +kernel
theorem dX8_savedStates_9 : decode cX8_savedStates 9 = .ok (.ireturn, 1) := by decide +kernel
theorem dX8_width_0 : decode cX8_width 0 = .ok (.aload_n 0, 1) := by decide +kernel
theorem dX8_width_1 : decode cX8_width 1 = .ok (.aload_n 0, 1) := by decide +kernel
theorem dX8_width_2 : decode cX8_width 2 = .ok (.iload_n 1, 1) := by decide +kernel
theorem dX8_width_3 : decode cX8_width 3 = .ok (.invokevirtual 68, 3) := by decide +kernel
theorem dX8_width_6 : decode cX8_width 6 = .ok (.iconst 1, 1) := by decide +kernel
theorem dX8_width_7 : decode cX8_width 7 = .ok (.invokevirtual 58, 3) := by decide +kernel
theorem dX8_width_10 : decode cX8_width 10 = .ok (.ifCond .eq 11, 3) := by decide +kernel
theorem dX8_width_13 : decode cX8_width 13 = .ok (.aload_n 0, 1) := by decide +kernel
theorem dX8_width_14 : decode cX8_width 14 = .ok (.iload_n 1, 1) := by decide +kernel
theorem dX8_width_15 : decode cX8_width 15 = .ok (.invokevirtual 75, 3) := by decide +kernel
theorem dX8_width_18 : decode cX8_width 18 = .ok (.goto 4, 3) := by decide +kernel
theorem dX8_width_21 : decode cX8_width 21 = .ok (.iconst 0, 1) := by decide +kernel
theorem dX8_width_22 : decode cX8_width 22 = .ok (.ireturn, 1) := by decide +kernel
theorem dX8_labelDigit_0 : decode cX8_labelDigit 0 = .ok (.aload_n 0, 1) := by decide +kernel
theorem dX8_labelDigit_1 : decode cX8_labelDigit 1 = .ok (.iload_n 1, 1) := by decide +kernel
theorem dX8_labelDigit_2 : decode cX8_labelDigit 2 = .ok (.iconst 0, 1) := by decide +kernel
theorem dX8_labelDigit_3 : decode cX8_labelDigit 3 = .ok (.aload_n 0, 1) := by decide +kernel
theorem dX8_labelDigit_4 : decode cX8_labelDigit 4 = .ok (.getfield 7, 3) := by decide +kernel
theorem dX8_labelDigit_7 : decode cX8_labelDigit 7 = .ok (.iconst 0, 1) := by decide +kernel
theorem dX8_labelDigit_8 : decode cX8_labelDigit 8 = .ok (.iaload, 1) := by decide +kernel
theorem dX8_labelDigit_9 : decode cX8_labelDigit 9 = .ok (.iconst 1, 1) := by decide +kernel
theorem dX8_labelDigit_10 : decode cX8_labelDigit 10 = .ok (.isub, 1) := by decide +kernel
theorem dX8_labelDigit_11 : decode cX8_labelDigit 11 = .ok (.invokestatic 46, 3) := by decide +kernel
theorem dX8_labelDigit_14 : decode cX8_labelDigit 14 = .ok (.iconst 1, 1) := by decide +kernel
theorem dX8_labelDigit_15 : decode cX8_labelDigit 15 = .ok (.invokevirtual 58, 3) := by decide +kernel
theorem dX8_labelDigit_18 : decode cX8_labelDigit 18 = .ok (.ifCond .eq 14, 3) := by decide +kernel
theorem dX8_labelDigit_21 : decode cX8_labelDigit 21 = .ok (.aload_n 0, 1) := by decide +kernel
theorem dX8_labelDigit_22 : decode cX8_labelDigit 22 = .ok (.getfield 7, 3) := by decide +kernel
theorem dX8_labelDigit_25 : decode cX8_labelDigit 25 = .ok (.iconst 1, 1) := by decide +kernel
theorem dX8_labelDigit_26 : decode cX8_labelDigit 26 = .ok (.iload_n 1, 1) := by decide +kernel
theorem dX8_labelDigit_27 : decode cX8_labelDigit 27 = .ok (.iadd, 1) := by decide +kernel
theorem dX8_labelDigit_28 : decode cX8_labelDigit 28 = .ok (.iaload, 1) := by decide +kernel
theorem dX8_labelDigit_29 : decode cX8_labelDigit 29 = .ok (.goto 4, 3) := by decide +kernel
theorem dX8_labelDigit_32 : decode cX8_labelDigit 32 = .ok (.iconst 0, 1) := by decide +kernel
theorem dX8_labelDigit_33 : decode cX8_labelDigit 33 = .ok (.ireturn, 1) := by decide +kernel
theorem dX8_time__0 : decode cX8_time_ 0 = .ok (.aload_n 0, 1) := by decide +kernel
theorem dX8_time__1 : decode cX8_time_ 1 = .ok (.iload_n 1, 1) := by decide +kernel
theorem dX8_time__2 : decode cX8_time_ 2 = .ok (.iconst 0, 1) := by decide +kernel
theorem dX8_time__3 : decode cX8_time_ 3 = .ok (.aload_n 0, 1) := by decide +kernel
theorem dX8_time__4 : decode cX8_time_ 4 = .ok (.getfield 7, 3) := by decide +kernel
theorem dX8_time__7 : decode cX8_time_ 7 = .ok (.bipush 51, 2) := by decide +kernel
theorem dX8_time__9 : decode cX8_time_ 9 = .ok (.iaload, 1) := by decide +kernel
theorem dX8_time__10 : decode cX8_time_ 10 = .ok (.iconst 1, 1) := by decide +kernel
theorem dX8_time__11 : decode cX8_time_ 11 = .ok (.isub, 1) := by decide +kernel
theorem dX8_time__12 : decode cX8_time_ 12 = .ok (.invokestatic 46, 3) := by decide +kernel
theorem dX8_time__15 : decode cX8_time_ 15 = .ok (.iconst 1, 1) := by decide +kernel
theorem dX8_time__16 : decode cX8_time_ 16 = .ok (.invokevirtual 58, 3) := by decide +kernel
theorem dX8_time__19 : decode cX8_time_ 19 = .ok (.ifCond .eq 15, 3) := by decide +kernel
theorem dX8_time__22 : decode cX8_time_ 22 = .ok (.aload_n 0, 1) := by decide +kernel
theorem dX8_time__23 : decode cX8_time_ 23 = .ok (.getfield 7, 3) := by decide +kernel
theorem dX8_time__26 : decode cX8_time_ 26 = .ok (.bipush 52, 2) := by decide +kernel
theorem dX8_time__28 : decode cX8_time_ 28 = .ok (.iload_n 1, 1) := by decide +kernel
theorem dX8_time__29 : decode cX8_time_ 29 = .ok (.iadd, 1) := by decide +kernel
theorem dX8_time__30 : decode cX8_time_ 30 = .ok (.iaload, 1) := by decide +kernel
theorem dX8_time__31 : decode cX8_time_ 31 = .ok (.goto 4, 3) := by decide +kernel
theorem dX8_time__34 : decode cX8_time_ 34 = .ok (.iconst 0, 1) := by decide +kernel
theorem dX8_time__35 : decode cX8_time_ 35 = .ok (.ireturn, 1) := by decide +kernel
theorem dX8_code_0 : decode cX8_code 0 = .ok (.aload_n 0, 1) := by decide +kernel
theorem dX8_code_1 : decode cX8_code 1 = .ok (.aload_n 0, 1) := by decide +kernel
theorem dX8_code_2 : decode cX8_code 2 = .ok (.iload_n 1, 1) := by decide +kernel
theorem dX8_code_3 : decode cX8_code 3 = .ok (.invokevirtual 141, 3) := by decide +kernel
theorem dX8_code_6 : decode cX8_code 6 = .ok (.iconst 1, 1) := by decide +kernel
theorem dX8_code_7 : decode cX8_code 7 = .ok (.invokevirtual 58, 3) := by decide +kernel
theorem dX8_code_10 : decode cX8_code 10 = .ok (.ifCond .eq 15, 3) := by decide +kernel
theorem dX8_code_13 : decode cX8_code 13 = .ok (.aload_n 0, 1) := by decide +kernel
theorem dX8_code_14 : decode cX8_code 14 = .ok (.getfield 7, 3) := by decide +kernel
theorem dX8_code_17 : decode cX8_code 17 = .ok (.bipush 95, 2) := by decide +kernel
theorem dX8_code_19 : decode cX8_code 19 = .ok (.iload_n 1, 1) := by decide +kernel
theorem dX8_code_20 : decode cX8_code 20 = .ok (.iadd, 1) := by decide +kernel
theorem dX8_code_21 : decode cX8_code 21 = .ok (.iaload, 1) := by decide +kernel
theorem dX8_code_22 : decode cX8_code 22 = .ok (.goto 4, 3) := by decide +kernel
theorem dX8_code_25 : decode cX8_code 25 = .ok (.iconst 0, 1) := by decide +kernel
theorem dX8_code_26 : decode cX8_code 26 = .ok (.ireturn, 1) := by decide +kernel
theorem dX8_codeLength_0 : decode cX8_codeLength 0 = .ok (.aload_n 0, 1) := by decide +kernel
theorem dX8_codeLength_1 : decode cX8_codeLength 1 = .ok (.aload_n 0, 1) := by decide +kernel
theorem dX8_codeLength_2 : decode cX8_codeLength 2 = .ok (.iload_n 1, 1) := by decide +kernel
theorem dX8_codeLength_3 : decode cX8_codeLength 3 = .ok (.invokevirtual 141, 3) := by decide +kernel
theorem dX8_codeLength_6 : decode cX8_codeLength 6 = .ok (.iconst 1, 1) := by decide +kernel
theorem dX8_codeLength_7 : decode cX8_codeLength 7 = .ok (.invokevirtual 58, 3) := by decide +kernel
theorem dX8_codeLength_10 : decode cX8_codeLength 10 = .ok (.ifCond .eq 15, 3) := by decide +kernel
theorem dX8_codeLength_13 : decode cX8_codeLength 13 = .ok (.aload_n 0, 1) := by decide +kernel
theorem dX8_codeLength_14 : decode cX8_codeLength 14 = .ok (.getfield 7, 3) := by decide +kernel
theorem dX8_codeLength_17 : decode cX8_codeLength 17 = .ok (.bipush 105, 2) := by decide +kernel
theorem dX8_codeLength_19 : decode cX8_codeLength 19 = .ok (.iload_n 1, 1) := by decide +kernel
theorem dX8_codeLength_20 : decode cX8_codeLength 20 = .ok (.iadd, 1) := by decide +kernel
theorem dX8_codeLength_21 : decode cX8_codeLength 21 = .ok (.iaload, 1) := by decide +kernel
theorem dX8_codeLength_22 : decode cX8_codeLength 22 = .ok (.goto 4, 3) := by decide +kernel
theorem dX8_codeLength_25 : decode cX8_codeLength 25 = .ok (.iconst 0, 1) := by decide +kernel
theorem dX8_codeLength_26 : decode cX8_codeLength 26 = .ok (.ireturn, 1) := by decide +kernel
theorem dX8_count_0 : decode cX8_count 0 = .ok (.aload_n 0, 1) := by decide +kernel
theorem dX8_count_1 : decode cX8_count 1 = .ok (.aload_n 0, 1) := by decide +kernel
theorem dX8_count_2 : decode cX8_count 2 = .ok (.iload_n 1, 1) := by decide +kernel
theorem dX8_count_3 : decode cX8_count 3 = .ok (.invokevirtual 141, 3) := by decide +kernel
theorem dX8_count_6 : decode cX8_count 6 = .ok (.iconst 1, 1) := by decide +kernel
theorem dX8_count_7 : decode cX8_count 7 = .ok (.invokevirtual 58, 3) := by decide +kernel
theorem dX8_count_10 : decode cX8_count 10 = .ok (.ifCond .eq 15, 3) := by decide +kernel
theorem dX8_count_13 : decode cX8_count 13 = .ok (.aload_n 0, 1) := by decide +kernel
theorem dX8_count_14 : decode cX8_count 14 = .ok (.getfield 7, 3) := by decide +kernel
theorem dX8_count_17 : decode cX8_count 17 = .ok (.bipush 115, 2) := by decide +kernel
theorem dX8_count_19 : decode cX8_count 19 = .ok (.iload_n 1, 1) := by decide +kernel
theorem dX8_count_20 : decode cX8_count 20 = .ok (.iadd, 1) := by decide +kernel
theorem dX8_count_21 : decode cX8_count 21 = .ok (.iaload, 1) := by decide +kernel
theorem dX8_count_22 : decode cX8_count 22 = .ok (.goto 4, 3) := by decide +kernel
theorem dX8_count_25 : decode cX8_count 25 = .ok (.iconst 0, 1) := by decide +kernel
theorem dX8_count_26 : decode cX8_count 26 = .ok (.ireturn, 1) := by decide +kernel
theorem dX8_greatestSmudge_0 : decode cX8_greatestSmudge 0 = .ok (.aload_n 0, 1) := by decide +kernel
theorem dX8_greatestSmudge_1 : decode cX8_greatestSmudge 1 = .ok (.aload_n 0, 1) := by decide +kernel
theorem dX8_greatestSmudge_2 : decode cX8_greatestSmudge 2 = .ok (.iload_n 1, 1) := by decide +kernel
theorem dX8_greatestSmudge_3 : decode cX8_greatestSmudge 3 = .ok (.invokevirtual 68, 3) := by decide +kernel
theorem dX8_greatestSmudge_6 : decode cX8_greatestSmudge 6 = .ok (.iconst 1, 1) := by decide +kernel
theorem dX8_greatestSmudge_7 : decode cX8_greatestSmudge 7 = .ok (.invokevirtual 58, 3) := by decide +kernel
theorem dX8_greatestSmudge_10 : decode cX8_greatestSmudge 10 = .ok (.ifCond .eq 11, 3) := by decide +kernel
theorem dX8_greatestSmudge_13 : decode cX8_greatestSmudge 13 = .ok (.aload_n 0, 1) := by decide +kernel
theorem dX8_greatestSmudge_14 : decode cX8_greatestSmudge 14 = .ok (.iload_n 1, 1) := by decide +kernel
theorem dX8_greatestSmudge_15 : decode cX8_greatestSmudge 15 = .ok (.invokevirtual 144, 3) := by decide +kernel
theorem dX8_greatestSmudge_18 : decode cX8_greatestSmudge 18 = .ok (.goto 4, 3) := by decide +kernel
theorem dX8_greatestSmudge_21 : decode cX8_greatestSmudge 21 = .ok (.iconst 0, 1) := by decide +kernel
theorem dX8_greatestSmudge_22 : decode cX8_greatestSmudge 22 = .ok (.ireturn, 1) := by decide +kernel
theorem dX8_nearest_0 : decode cX8_nearest 0 = .ok (.aload_n 0, 1) := by decide +kernel
theorem dX8_nearest_1 : decode cX8_nearest 1 = .ok (.iload_n 1, 1) := by decide +kernel
theorem dX8_nearest_2 : decode cX8_nearest 2 = .ok (.iconst 0, 1) := by decide +kernel
theorem dX8_nearest_3 : decode cX8_nearest 3 = .ok (.aload_n 0, 1) := by decide +kernel
theorem dX8_nearest_4 : decode cX8_nearest 4 = .ok (.getfield 7, 3) := by decide +kernel
theorem dX8_nearest_7 : decode cX8_nearest 7 = .ok (.bipush 51, 2) := by decide +kernel
theorem dX8_nearest_9 : decode cX8_nearest 9 = .ok (.iaload, 1) := by decide +kernel
theorem dX8_nearest_10 : decode cX8_nearest 10 = .ok (.iconst 4, 1) := by decide +kernel
theorem dX8_nearest_11 : decode cX8_nearest 11 = .ok (.isub, 1) := by decide +kernel
theorem dX8_nearest_12 : decode cX8_nearest 12 = .ok (.invokestatic 46, 3) := by decide +kernel
theorem dX8_nearest_15 : decode cX8_nearest 15 = .ok (.iconst 1, 1) := by decide +kernel
theorem dX8_nearest_16 : decode cX8_nearest 16 = .ok (.invokevirtual 58, 3) := by decide +kernel
theorem dX8_nearest_19 : decode cX8_nearest 19 = .ok (.ifCond .ne 5, 3) := by decide +kernel
theorem dX8_nearest_22 : decode cX8_nearest 22 = .ok (.iconst 0, 1) := by decide +kernel
theorem dX8_nearest_23 : decode cX8_nearest 23 = .ok (.ireturn, 1) := by decide +kernel
theorem dX8_nearest_24 : decode cX8_nearest 24 = .ok (.aload_n 0, 1) := by decide +kernel
theorem dX8_nearest_25 : decode cX8_nearest 25 = .ok (.invokevirtual 119, 3) := by decide +kernel
theorem dX8_nearest_28 : decode cX8_nearest 28 = .ok (.aload_n 0, 1) := by decide +kernel
theorem dX8_nearest_29 : decode cX8_nearest 29 = .ok (.iload_n 1, 1) := by decide +kernel
theorem dX8_nearest_30 : decode cX8_nearest 30 = .ok (.iconst 0, 1) := by decide +kernel
theorem dX8_nearest_31 : decode cX8_nearest 31 = .ok (.invokevirtual 95, 3) := by decide +kernel
theorem dX8_nearest_34 : decode cX8_nearest 34 = .ok (.ireturn, 1) := by decide +kernel
theorem dX8_undo_0 : decode cX8_undo 0 = .ok (.aload_n 0, 1) := by decide +kernel
theorem dX8_undo_1 : decode cX8_undo 1 = .ok (.aload_n 0, 1) := by decide +kernel
theorem dX8_undo_2 : decode cX8_undo 2 = .ok (.getfield 27, 3) := by decide +kernel
theorem dX8_undo_5 : decode cX8_undo 5 = .ok (.ifCond .le 7, 3) := by decide +kernel
theorem dX8_undo_8 : decode cX8_undo 8 = .ok (.iconst 1, 1) := by decide +kernel
theorem dX8_undo_9 : decode cX8_undo 9 = .ok (.goto 4, 3) := by decide +kernel
theorem dX8_undo_12 : decode cX8_undo 12 = .ok (.iconst 0, 1) := by decide +kernel
theorem dX8_undo_13 : decode cX8_undo 13 = .ok (.iconst 1, 1) := by decide +kernel
theorem dX8_undo_14 : decode cX8_undo 14 = .ok (.invokevirtual 58, 3) := by decide +kernel
theorem dX8_undo_17 : decode cX8_undo 17 = .ok (.ifCond .ne 5, 3) := by decide +kernel
theorem dX8_undo_20 : decode cX8_undo 20 = .ok (.iconst 0, 1) := by decide +kernel
theorem dX8_undo_21 : decode cX8_undo 21 = .ok (.ireturn, 1) := by decide +kernel
theorem dX8_undo_22 : decode cX8_undo 22 = .ok (.aload_n 0, 1) := by decide +kernel
theorem dX8_undo_23 : decode cX8_undo 23 = .ok (.aload_n 0, 1) := by decide +kernel
theorem dX8_undo_24 : decode cX8_undo 24 = .ok (.getfield 27, 3) := by decide +kernel
theorem dX8_undo_27 : decode cX8_undo 27 = .ok (.iconst 0, 1) := by decide +kernel
theorem dX8_undo_28 : decode cX8_undo 28 = .ok (.invokevirtual 30, 3) := by decide +kernel
theorem dX8_undo_31 : decode cX8_undo 31 = .ok (.aload_n 0, 1) := by decide +kernel
theorem dX8_undo_32 : decode cX8_undo 32 = .ok (.dup, 1) := by decide +kernel
theorem dX8_undo_33 : decode cX8_undo 33 = .ok (.getfield 27, 3) := by decide +kernel
theorem dX8_undo_36 : decode cX8_undo 36 = .ok (.iconst 1, 1) := by decide +kernel
theorem dX8_undo_37 : decode cX8_undo 37 = .ok (.isub, 1) := by decide +kernel
theorem dX8_undo_38 : decode cX8_undo 38 = .ok (.putfield 27, 3) := by decide +kernel
theorem dX8_undo_41 : decode cX8_undo 41 = .ok (.aload_n 0, 1) := by decide +kernel
theorem dX8_undo_42 : decode cX8_undo 42 = .ok (.getfield 27, 3) := by decide +kernel
theorem dX8_undo_45 : decode cX8_undo 45 = .ok (.ireturn, 1) := by decide +kernel
theorem dX8_clearBuffer_0 : decode cX8_clearBuffer 0 = .ok (.aload_n 0, 1) := by decide +kernel
theorem dX8_clearBuffer_1 : decode cX8_clearBuffer 1 = .ok (.iconst 0, 1) := by decide +kernel
theorem dX8_clearBuffer_2 : decode cX8_clearBuffer 2 = .ok (.putfield 23, 3) := by decide +kernel
theorem dX8_clearBuffer_5 : decode cX8_clearBuffer 5 = .ok (.aload_n 0, 1) := by decide +kernel
theorem dX8_clearBuffer_6 : decode cX8_clearBuffer 6 = .ok (.getfield 147, 3) := by decide +kernel
theorem dX8_clearBuffer_9 : decode cX8_clearBuffer 9 = .ok (.istore_n 1, 1) := by decide +kernel
theorem dX8_clearBuffer_10 : decode cX8_clearBuffer 10 = .ok (.aload_n 0, 1) := by decide +kernel
theorem dX8_clearBuffer_11 : decode cX8_clearBuffer 11 = .ok (.iconst 0, 1) := by decide +kernel
theorem dX8_clearBuffer_12 : decode cX8_clearBuffer 12 = .ok (.putfield 147, 3) := by decide +kernel
theorem dX8_clearBuffer_15 : decode cX8_clearBuffer 15 = .ok (.iload_n 1, 1) := by decide +kernel
theorem dX8_clearBuffer_16 : decode cX8_clearBuffer 16 = .ok (.ireturn, 1) := by decide +kernel
def cpf (f : Nat → Int32) (i : Nat) : Nat → Int32 := fun j => if 127 ≤ j ∧ j < 127 + i then f (j - 127) else f j
theorem cpf_0 (f : Nat → Int32) : cpf f 0 = f := by
  funext j
  unfold cpf
  rw [if_neg (by omega)]
theorem cpf_lo {f : Nat → Int32} {i j : Nat} (h : j < 127) : cpf f i j = f j := by
  unfold cpf
  rw [if_neg (by omega)]
theorem cpf_s {f : Nat → Int32} {i : Nat} (h : i < 127) : upd (cpf f i) (127 + i) (cpf f i i) = cpf f (i + 1) := by
  rw [cpf_lo h]
  funext j
  unfold upd cpf
  by_cases hj : j = 127 + i
  · subst hj
    rw [if_pos rfl, if_pos (by omega), show 127 + i - 127 = i from by omega]
  · rw [if_neg hj]
    by_cases h2 : 127 ≤ j ∧ j < 127 + i
    · rw [if_pos h2, if_pos (by omega)]
    · rw [if_neg h2, if_neg (by omega)]
theorem rg_n {i lo hi : Int32} (h : i < lo ∨ hi < i) : ¬ (¬ i < lo ∧ i ≤ hi) := fun hk => h.elim hk.1 (fun a => by
  have h2 := hk.2
  rw [fa_lt] at a
  rw [fa_le] at h2
  omega)
theorem rg_y {i lo hi : Int32} (h : ¬ i < lo) (h2 : ¬ hi < i) : ¬ i < lo ∧ i ≤ hi := ⟨h, fa_of_nlt h2⟩
theorem in9_y {i : Int32} (h : ¬ i < 0) (h2 : ¬ 8 < i) : k_in9 i := ⟨h, by
  rw [fa_lt] at h2 ⊢
  have e8 : (8 : Int32).toInt = 8 := by decide
  have e9 : (9 : Int32).toInt = 9 := by decide
  omega⟩
theorem in9_n {i : Int32} (h : i < 0 ∨ 8 < i) : ¬ k_in9 i := fun hk => h.elim hk.1 (fun a => by
  have h2 := hk.2
  rw [fa_lt] at a h2
  have e8 : (8 : Int32).toInt = 8 := by decide
  have e9 : (9 : Int32).toInt = 9 := by decide
  omega)
theorem per_y {i j : Int32} (a : ¬ i < 1) (b : ¬ 50 < i) (c : ¬ j < 1) (d : ¬ 50 < j) : k_per i j := ⟨a, b, c, fa_of_nlt d⟩
theorem per_n1 {i j : Int32} (h : i < 1 ∨ 50 < i) : ¬ k_per i j := fun hk => h.elim hk.1 hk.2.1
theorem per_n2 {i j : Int32} (h : j < 1 ∨ 50 < j) : ¬ k_per i j := fun hk => rg_n h hk.2.2
set_option maxHeartbeats 4000000 in
set_option maxRecDepth 100000 in
theorem c_M_in (l : Launch) (D : va_G) (v : Int32) (lo : Int32) (hi : Int32) (sz : Nat) : k_Mi (S := Unit) l D yX8_in cX8_in 3 (some .boolean) 0 0 0 0 [.int v, .int lo, .int hi] [] [] (fun (r : Int32) (_ : Unit) => (r = 1 ∧ ¬ v < lo ∧ ¬ hi < v) ∨ (r = 0 ∧ (v < lo ∨ hi < v))) (fun _ => []) (fun _ => []) sz := by
  refine Met.ofW (cc := cX8_in) (maxL := 3) (ret := (some .boolean)) (by decide) rfl ?_
  intro p e s m args below meth c s₁ B hml hv
  obtain ⟨rfl, hsz, hP, hK, hD0, hG⟩ := hv
  have hx := B.exec
  have hb := B.bytes
  have hr := B.returns
  have ht : ∀ v9 ∈ wsA, v9.before ([.int v, .int lo, .int hi] : List Value).toArray s = true := fun v9 h9 => atoms_spec (ws := k_ws yX8_in cX8_in 3 (some .boolean)) B.pre v9 (List.mem_cons_of_mem _ h9)
  have hown : s.vm.findClass RX8 = some m.cls := findClass_of_methodNamed B.named
  have S0 : k_C p s m ([.int v, .int lo, .int hi] : List Value).toArray c cX8_in 3 RX8 := ⟨hx, hb, hml, hown, ht⟩
  have hlocks := B.notSynchronized
  subst hsz
  have hD := hD0.self (sz := s.heap.size)
  generalize hAe : va_A [] s.heap.size = A at hD hG ⊢
  have hA : ∀ q : Nat, s.heap.size ≤ q → A q := fun q h => by rw [← hAe]; exact Or.inr h
  have hS : va_S A s.heap s.heap [] := va_S.rf
  have hl := lv_entry ([.int v, .int lo, .int hi]) (n := 3) (Nat.le_of_ble_eq_true rfl)
  rw [lg_entry_eq]
  generalize (lg_sl ([.int v, .int lo, .int hi]) ++ List.replicate (3 - (lg_sl ([.int v, .int lo, .int hi])).length) Slot.unset).toArray = ls at hl ⊢
  have hl : lv_has ls 3 [(0, .int v), (1, .int lo), (2, .int hi)] := hl
  have hP : va_P D vwCl [] s.heap := hP
  refine lv_iload_n hx hb dX8_in_0 rfl (lv_at hl 0 rfl) ?_
  refine lv_iload_n hx hb dX8_in_1 rfl (lv_at hl 1 rfl) ?_
  refine lv_icmp_lt (tgt := 14) hx hb dX8_in_2 (by decide) (fun c_1 => ?_) (fun c_1 => ?_)
  · have hc9 := c_1
    refine lv_iconst (v := 0) hx hb dX8_in_14 (by decide) ?_
    have hP9 : va_P D vwCl [] s.heap := hP.sub [] rfl
    have hD9 : va_D A [] := hD.sub [] (by decide) rfl
    have hK9 : va_K D vwCl [] s := hK.sub [] rfl
    exact W.zret (v := 0) hx hb hr (rfl) (fun t ht9 hW9 => ⟨⟨0, (), rfl, by exact Or.inr ⟨rfl, Or.inl c_1⟩, ⟨by rw [ht9]; exact hP9, va_K.moved hW9.alike hK9, hD9⟩⟩, hS.F ht9⟩) hS.2.2 dX8_in_15
  · have hc9 := c_1
    refine lv_iload_n hx hb dX8_in_5 rfl (lv_at hl 0 rfl) ?_
    refine lv_iload_n hx hb dX8_in_6 rfl (lv_at hl 2 rfl) ?_
    refine lv_icmp_gt (tgt := 14) hx hb dX8_in_7 (by decide) (fun c_2 => ?_) (fun c_2 => ?_)
    · have hc9 := c_2
      refine lv_iconst (v := 0) hx hb dX8_in_14 (by decide) ?_
      have hP9 : va_P D vwCl [] s.heap := hP.sub [] rfl
      have hD9 : va_D A [] := hD.sub [] (by decide) rfl
      have hK9 : va_K D vwCl [] s := hK.sub [] rfl
      exact W.zret (v := 0) hx hb hr (rfl) (fun t ht9 hW9 => ⟨⟨0, (), rfl, by exact Or.inr ⟨rfl, Or.inr c_2⟩, ⟨by rw [ht9]; exact hP9, va_K.moved hW9.alike hK9, hD9⟩⟩, hS.F ht9⟩) hS.2.2 dX8_in_15
    · have hc9 := c_2
      refine lv_iconst (v := 1) hx hb dX8_in_10 (by decide) ?_
      refine lv_goto (tgt := 15) hx hb dX8_in_11 (by decide) ?_
      have hP9 : va_P D vwCl [] s.heap := hP.sub [] rfl
      have hD9 : va_D A [] := hD.sub [] (by decide) rfl
      have hK9 : va_K D vwCl [] s := hK.sub [] rfl
      exact W.zret (v := 1) hx hb hr (rfl) (fun t ht9 hW9 => ⟨⟨1, (), rfl, by exact Or.inl ⟨rfl, c_1, c_2⟩, ⟨by rw [ht9]; exact hP9, va_K.moved hW9.alike hK9, hD9⟩⟩, hS.F ht9⟩) hS.2.2 dX8_in_15
set_option maxHeartbeats 4000000 in
set_option maxRecDepth 100000 in
theorem c_M_in_n1 (l : Launch) (D : va_G) (v : Int32) (sz : Nat) : k_Mi (S := Unit) l D yX8_in cX8_in 3 (some .boolean) 0 0 0 0 [.int v, .int 0, .int (-1)] [] [] (fun (r : Int32) (_ : Unit) => r = 0) (fun _ => []) (fun _ => []) sz := by
  refine Met.ofW (cc := cX8_in) (maxL := 3) (ret := (some .boolean)) (by decide) rfl ?_
  intro p e s m args below meth c s₁ B hml hv
  obtain ⟨rfl, hsz, hP, hK, hD0, hG⟩ := hv
  have hx := B.exec
  have hb := B.bytes
  have hr := B.returns
  have ht : ∀ v9 ∈ wsA, v9.before ([.int v, .int 0, .int (-1)] : List Value).toArray s = true := fun v9 h9 => atoms_spec (ws := k_ws yX8_in cX8_in 3 (some .boolean)) B.pre v9 (List.mem_cons_of_mem _ h9)
  have hown : s.vm.findClass RX8 = some m.cls := findClass_of_methodNamed B.named
  have S0 : k_C p s m ([.int v, .int 0, .int (-1)] : List Value).toArray c cX8_in 3 RX8 := ⟨hx, hb, hml, hown, ht⟩
  have hlocks := B.notSynchronized
  subst hsz
  have hD := hD0.self (sz := s.heap.size)
  generalize hAe : va_A [] s.heap.size = A at hD hG ⊢
  have hA : ∀ q : Nat, s.heap.size ≤ q → A q := fun q h => by rw [← hAe]; exact Or.inr h
  have hS : va_S A s.heap s.heap [] := va_S.rf
  have hl := lv_entry ([.int v, .int 0, .int (-1)]) (n := 3) (Nat.le_of_ble_eq_true rfl)
  rw [lg_entry_eq]
  generalize (lg_sl ([.int v, .int 0, .int (-1)]) ++ List.replicate (3 - (lg_sl ([.int v, .int 0, .int (-1)])).length) Slot.unset).toArray = ls at hl ⊢
  have hl : lv_has ls 3 [(0, .int v), (1, .int 0), (2, .int (-1))] := hl
  have hP : va_P D vwCl [] s.heap := hP
  refine lv_iload_n hx hb dX8_in_0 rfl (lv_at hl 0 rfl) ?_
  refine lv_iload_n hx hb dX8_in_1 rfl (lv_at hl 1 rfl) ?_
  refine lv_icmp_lt (tgt := 14) hx hb dX8_in_2 (by decide) (fun c_1 => ?_) (fun c_1 => ?_)
  · have hc9 := c_1
    refine lv_iconst (v := 0) hx hb dX8_in_14 (by decide) ?_
    have hP9 : va_P D vwCl [] s.heap := hP.sub [] rfl
    have hD9 : va_D A [] := hD.sub [] (by decide) rfl
    have hK9 : va_K D vwCl [] s := hK.sub [] rfl
    exact W.zret (v := 0) hx hb hr (rfl) (fun t ht9 hW9 => ⟨⟨0, (), rfl, by first | rfl | trivial | assumption, ⟨by rw [ht9]; exact hP9, va_K.moved hW9.alike hK9, hD9⟩⟩, hS.F ht9⟩) hS.2.2 dX8_in_15
  · have hc9 := c_1
    refine lv_iload_n hx hb dX8_in_5 rfl (lv_at hl 0 rfl) ?_
    refine lv_iload_n hx hb dX8_in_6 rfl (lv_at hl 2 rfl) ?_
    refine lv_icmp_gt (tgt := 14) hx hb dX8_in_7 (by decide) (fun c_2 => ?_) (fun c9 => absurd (Int32.lt_of_lt_of_le (by decide) (fa_of_nlt c_1)) c9)
    refine lv_iconst (v := 0) hx hb dX8_in_14 (by decide) ?_
    have hP9 : va_P D vwCl [] s.heap := hP.sub [] rfl
    have hD9 : va_D A [] := hD.sub [] (by decide) rfl
    have hK9 : va_K D vwCl [] s := hK.sub [] rfl
    exact W.zret (v := 0) hx hb hr (rfl) (fun t ht9 hW9 => ⟨⟨0, (), rfl, by first | rfl | trivial | assumption, ⟨by rw [ht9]; exact hP9, va_K.moved hW9.alike hK9, hD9⟩⟩, hS.F ht9⟩) hS.2.2 dX8_in_15
set_option maxHeartbeats 4000000 in
set_option maxRecDepth 100000 in
theorem c_M_in_n4 (l : Launch) (D : va_G) (v : Int32) (sz : Nat) : k_Mi (S := Unit) l D yX8_in cX8_in 3 (some .boolean) 0 0 0 0 [.int v, .int 0, .int (-4)] [] [] (fun (r : Int32) (_ : Unit) => r = 0) (fun _ => []) (fun _ => []) sz := by
  refine Met.ofW (cc := cX8_in) (maxL := 3) (ret := (some .boolean)) (by decide) rfl ?_
  intro p e s m args below meth c s₁ B hml hv
  obtain ⟨rfl, hsz, hP, hK, hD0, hG⟩ := hv
  have hx := B.exec
  have hb := B.bytes
  have hr := B.returns
  have ht : ∀ v9 ∈ wsA, v9.before ([.int v, .int 0, .int (-4)] : List Value).toArray s = true := fun v9 h9 => atoms_spec (ws := k_ws yX8_in cX8_in 3 (some .boolean)) B.pre v9 (List.mem_cons_of_mem _ h9)
  have hown : s.vm.findClass RX8 = some m.cls := findClass_of_methodNamed B.named
  have S0 : k_C p s m ([.int v, .int 0, .int (-4)] : List Value).toArray c cX8_in 3 RX8 := ⟨hx, hb, hml, hown, ht⟩
  have hlocks := B.notSynchronized
  subst hsz
  have hD := hD0.self (sz := s.heap.size)
  generalize hAe : va_A [] s.heap.size = A at hD hG ⊢
  have hA : ∀ q : Nat, s.heap.size ≤ q → A q := fun q h => by rw [← hAe]; exact Or.inr h
  have hS : va_S A s.heap s.heap [] := va_S.rf
  have hl := lv_entry ([.int v, .int 0, .int (-4)]) (n := 3) (Nat.le_of_ble_eq_true rfl)
  rw [lg_entry_eq]
  generalize (lg_sl ([.int v, .int 0, .int (-4)]) ++ List.replicate (3 - (lg_sl ([.int v, .int 0, .int (-4)])).length) Slot.unset).toArray = ls at hl ⊢
  have hl : lv_has ls 3 [(0, .int v), (1, .int 0), (2, .int (-4))] := hl
  have hP : va_P D vwCl [] s.heap := hP
  refine lv_iload_n hx hb dX8_in_0 rfl (lv_at hl 0 rfl) ?_
  refine lv_iload_n hx hb dX8_in_1 rfl (lv_at hl 1 rfl) ?_
  refine lv_icmp_lt (tgt := 14) hx hb dX8_in_2 (by decide) (fun c_1 => ?_) (fun c_1 => ?_)
  · have hc9 := c_1
    refine lv_iconst (v := 0) hx hb dX8_in_14 (by decide) ?_
    have hP9 : va_P D vwCl [] s.heap := hP.sub [] rfl
    have hD9 : va_D A [] := hD.sub [] (by decide) rfl
    have hK9 : va_K D vwCl [] s := hK.sub [] rfl
    exact W.zret (v := 0) hx hb hr (rfl) (fun t ht9 hW9 => ⟨⟨0, (), rfl, by first | rfl | trivial | assumption, ⟨by rw [ht9]; exact hP9, va_K.moved hW9.alike hK9, hD9⟩⟩, hS.F ht9⟩) hS.2.2 dX8_in_15
  · have hc9 := c_1
    refine lv_iload_n hx hb dX8_in_5 rfl (lv_at hl 0 rfl) ?_
    refine lv_iload_n hx hb dX8_in_6 rfl (lv_at hl 2 rfl) ?_
    refine lv_icmp_gt (tgt := 14) hx hb dX8_in_7 (by decide) (fun c_2 => ?_) (fun c9 => absurd (Int32.lt_of_lt_of_le (by decide) (fa_of_nlt c_1)) c9)
    refine lv_iconst (v := 0) hx hb dX8_in_14 (by decide) ?_
    have hP9 : va_P D vwCl [] s.heap := hP.sub [] rfl
    have hD9 : va_D A [] := hD.sub [] (by decide) rfl
    have hK9 : va_K D vwCl [] s := hK.sub [] rfl
    exact W.zret (v := 0) hx hb hr (rfl) (fun t ht9 hW9 => ⟨⟨0, (), rfl, by first | rfl | trivial | assumption, ⟨by rw [ht9]; exact hP9, va_K.moved hW9.alike hK9, hD9⟩⟩, hS.F ht9⟩) hS.2.2 dX8_in_15
set_option maxHeartbeats 4000000 in
set_option maxRecDepth 100000 in
theorem c_M_goes11 (l : Launch) (D : va_G) (mo : Nat) (ms : Nat) (sv : Int32) (mb : Nat) (th : Int32) (mk : Nat) (ml : Int32) (mfd : Nat) (mf : Int32) (sp : Int32) (on : Int32) (tw : Int32) (sz : Nat) : k_Mi (S := Unit) l D yX8_goes cX8_goes 3 (some .boolean) 0 0 0 0 [.ref mo, .int 1, .int 1] [(mo, .inr (8, [.ref ms, .int sv, .ref mb, .int 0, .int th, .ref mk, .int ml, .ref mfd, .int mf, .int sp, .int on, .int tw]))] [] (fun (r : Int32) (_ : Unit) => r = 1) (fun _ => [(mo, .inr (8, [.ref ms, .int sv, .ref mb, .int 0, .int 0, .ref mk, .int ml, .ref mfd, .int mf, .int sp, .int on, .int tw]))]) (fun _ => []) sz := by
  refine Met.ofW (cc := cX8_goes) (maxL := 3) (ret := (some .boolean)) (by decide) rfl ?_
  intro p e s m args below meth c s₁ B hml hv
  obtain ⟨rfl, hsz, hP, hK, hD0, hG⟩ := hv
  have hx := B.exec
  have hb := B.bytes
  have hr := B.returns
  have ht : ∀ v9 ∈ wsA, v9.before ([.ref mo, .int 1, .int 1] : List Value).toArray s = true := fun v9 h9 => atoms_spec (ws := k_ws yX8_goes cX8_goes 3 (some .boolean)) B.pre v9 (List.mem_cons_of_mem _ h9)
  have hown : s.vm.findClass RX8 = some m.cls := findClass_of_methodNamed B.named
  have S0 : k_C p s m ([.ref mo, .int 1, .int 1] : List Value).toArray c cX8_goes 3 RX8 := ⟨hx, hb, hml, hown, ht⟩
  have hlocks := B.notSynchronized
  subst hsz
  have hD := hD0.self (sz := s.heap.size)
  generalize hAe : va_A [(mo, .inr (8, [.ref ms, .int sv, .ref mb, .int 0, .int th, .ref mk, .int ml, .ref mfd, .int mf, .int sp, .int on, .int tw]))] s.heap.size = A at hD hG ⊢
  have hA : ∀ q : Nat, s.heap.size ≤ q → A q := fun q h => by rw [← hAe]; exact Or.inr h
  have hS : va_S A s.heap s.heap [] := va_S.rf
  have hl := lv_entry ([.ref mo, .int 1, .int 1]) (n := 3) (Nat.le_of_ble_eq_true rfl)
  rw [lg_entry_eq]
  generalize (lg_sl ([.ref mo, .int 1, .int 1]) ++ List.replicate (3 - (lg_sl ([.ref mo, .int 1, .int 1])).length) Slot.unset).toArray = ls at hl ⊢
  have hl : lv_has ls 3 [(0, .ref mo), (1, .int 1), (2, .int 1)] := hl
  have hP : va_P D vwCl [(mo, .inr (8, [.ref ms, .int sv, .ref mb, .int 0, .int th, .ref mk, .int ml, .ref mfd, .int mf, .int sp, .int on, .int tw]))] s.heap := hP
  refine lv_aload_n hx hb dX8_goes_0 rfl (lv_at hl 0 rfl) ?_
  refine lv_iload_n hx hb dX8_goes_1 rfl (lv_at hl 1 rfl) ?_
  refine lv_if_ne (tgt := 9) hx hb dX8_goes_2 (by decide) (fun _ => ?_) (fun c9 => absurd c9 (by decide))
  refine lv_iload_n hx hb dX8_goes_9 rfl (lv_at hl 2 rfl) ?_
  refine lv_if_ne (tgt := 17) hx hb dX8_goes_10 (by decide) (fun _ => ?_) (fun c9 => absurd c9 (by decide))
  refine lv_iconst (v := 0) hx hb dX8_goes_17 (by decide) ?_
  refine va_put (D := D) (ci := 8) (v := .int 0) (ty := .int) (C := RX8) (T := TX8) (N := 12) hx hb ht inA_X8 tyX8 tyX8_ok nmX8 hown hK hP hD hS 0 rfl rfl 4 (by decide) (ht _ lf_X8_23) (fun _ h9 => h9) rfl (tyX8_ok 4 (by decide)) rfl rfl (Nat.le_of_ble_eq_true rfl) dX8_goes_18 (fun H locs hP hD hS => ?_)
  have hP : va_P D vwCl [(mo, .inr (8, [.ref ms, .int sv, .ref mb, .int 0, .int 0, .ref mk, .int ml, .ref mfd, .int mf, .int sp, .int on, .int tw]))] H := hP
  have hD : va_D A [(mo, .inr (8, [.ref ms, .int sv, .ref mb, .int 0, .int 0, .ref mk, .int ml, .ref mfd, .int mf, .int sp, .int on, .int tw]))] := hD
  refine lv_aload_n hx hb dX8_goes_21 rfl (lv_at hl 0 rfl) ?_
  refine va_get (D := D) (ci := 8) (v := .int 0) (C := RX8) (T := TX8) (N := 12) hx hb ht inA_X8 hown hK hP 0 rfl rfl 4 (by decide) (ht _ lf_X8_23) (fun _ h9 => h9) rfl dX8_goes_22 ?_
  refine lv_if_ne (tgt := 32) hx hb dX8_goes_25 (by decide) (fun c9 => absurd (by decide) c9) (fun _ => ?_)
  refine lv_iconst (v := 1) hx hb dX8_goes_28 (by decide) ?_
  refine lv_goto (tgt := 33) hx hb dX8_goes_29 (by decide) ?_
  have hP9 : va_P D vwCl [(mo, .inr (8, [.ref ms, .int sv, .ref mb, .int 0, .int 0, .ref mk, .int ml, .ref mfd, .int mf, .int sp, .int on, .int tw]))] H := hP.sub [0] rfl
  have hD9 : va_D A [(mo, .inr (8, [.ref ms, .int sv, .ref mb, .int 0, .int 0, .ref mk, .int ml, .ref mfd, .int mf, .int sp, .int on, .int tw]))] := hD.sub [0] (by decide) rfl
  have hK9 : va_K D vwCl [] s := hK.sub [] rfl
  exact W.zret (v := 1) hx hb hr (rfl) (fun t ht9 hW9 => ⟨⟨1, (), rfl, by first | rfl | trivial | assumption, ⟨by rw [ht9]; exact hP9, va_K.moved hW9.alike hK9, hD9⟩⟩, hS.F ht9⟩) hS.2.2 dX8_goes_33
set_option maxHeartbeats 4000000 in
set_option maxRecDepth 100000 in
theorem c_M_goes0 (l : Launch) (D : va_G) (mo : Nat) (ms : Nat) (sv : Int32) (mb : Nat) (th : Int32) (mk : Nat) (ml : Int32) (mfd : Nat) (mf : Int32) (sp : Int32) (on : Int32) (tw : Int32) (b : Int32) (sz : Nat) : k_Mi (S := Unit) l D yX8_goes cX8_goes 3 (some .boolean) 0 0 0 0 [.ref mo, .int 0, .int b] [(mo, .inr (8, [.ref ms, .int sv, .ref mb, .int 0, .int th, .ref mk, .int ml, .ref mfd, .int mf, .int sp, .int on, .int tw]))] [] (fun (r : Int32) (_ : Unit) => r = 0) (fun _ => [(mo, .inr (8, [.ref ms, .int sv, .ref mb, .int 0, .int 1, .ref mk, .int ml, .ref mfd, .int mf, .int sp, .int on, .int tw]))]) (fun _ => []) sz := by
  refine Met.ofW (cc := cX8_goes) (maxL := 3) (ret := (some .boolean)) (by decide) rfl ?_
  intro p e s m args below meth c s₁ B hml hv
  obtain ⟨rfl, hsz, hP, hK, hD0, hG⟩ := hv
  have hx := B.exec
  have hb := B.bytes
  have hr := B.returns
  have ht : ∀ v9 ∈ wsA, v9.before ([.ref mo, .int 0, .int b] : List Value).toArray s = true := fun v9 h9 => atoms_spec (ws := k_ws yX8_goes cX8_goes 3 (some .boolean)) B.pre v9 (List.mem_cons_of_mem _ h9)
  have hown : s.vm.findClass RX8 = some m.cls := findClass_of_methodNamed B.named
  have S0 : k_C p s m ([.ref mo, .int 0, .int b] : List Value).toArray c cX8_goes 3 RX8 := ⟨hx, hb, hml, hown, ht⟩
  have hlocks := B.notSynchronized
  subst hsz
  have hD := hD0.self (sz := s.heap.size)
  generalize hAe : va_A [(mo, .inr (8, [.ref ms, .int sv, .ref mb, .int 0, .int th, .ref mk, .int ml, .ref mfd, .int mf, .int sp, .int on, .int tw]))] s.heap.size = A at hD hG ⊢
  have hA : ∀ q : Nat, s.heap.size ≤ q → A q := fun q h => by rw [← hAe]; exact Or.inr h
  have hS : va_S A s.heap s.heap [] := va_S.rf
  have hl := lv_entry ([.ref mo, .int 0, .int b]) (n := 3) (Nat.le_of_ble_eq_true rfl)
  rw [lg_entry_eq]
  generalize (lg_sl ([.ref mo, .int 0, .int b]) ++ List.replicate (3 - (lg_sl ([.ref mo, .int 0, .int b])).length) Slot.unset).toArray = ls at hl ⊢
  have hl : lv_has ls 3 [(0, .ref mo), (1, .int 0), (2, .int b)] := hl
  have hP : va_P D vwCl [(mo, .inr (8, [.ref ms, .int sv, .ref mb, .int 0, .int th, .ref mk, .int ml, .ref mfd, .int mf, .int sp, .int on, .int tw]))] s.heap := hP
  refine lv_aload_n hx hb dX8_goes_0 rfl (lv_at hl 0 rfl) ?_
  refine lv_iload_n hx hb dX8_goes_1 rfl (lv_at hl 1 rfl) ?_
  refine lv_if_ne (tgt := 9) hx hb dX8_goes_2 (by decide) (fun c9 => absurd (by decide) c9) (fun _ => ?_)
  refine lv_iconst (v := 1) hx hb dX8_goes_5 (by decide) ?_
  refine lv_goto (tgt := 18) hx hb dX8_goes_6 (by decide) ?_
  refine va_put (D := D) (ci := 8) (v := .int 1) (ty := .int) (C := RX8) (T := TX8) (N := 12) hx hb ht inA_X8 tyX8 tyX8_ok nmX8 hown hK hP hD hS 0 rfl rfl 4 (by decide) (ht _ lf_X8_23) (fun _ h9 => h9) rfl (tyX8_ok 4 (by decide)) rfl rfl (Nat.le_of_ble_eq_true rfl) dX8_goes_18 (fun H locs hP hD hS => ?_)
  have hP : va_P D vwCl [(mo, .inr (8, [.ref ms, .int sv, .ref mb, .int 0, .int 1, .ref mk, .int ml, .ref mfd, .int mf, .int sp, .int on, .int tw]))] H := hP
  have hD : va_D A [(mo, .inr (8, [.ref ms, .int sv, .ref mb, .int 0, .int 1, .ref mk, .int ml, .ref mfd, .int mf, .int sp, .int on, .int tw]))] := hD
  refine lv_aload_n hx hb dX8_goes_21 rfl (lv_at hl 0 rfl) ?_
  refine va_get (D := D) (ci := 8) (v := .int 1) (C := RX8) (T := TX8) (N := 12) hx hb ht inA_X8 hown hK hP 0 rfl rfl 4 (by decide) (ht _ lf_X8_23) (fun _ h9 => h9) rfl dX8_goes_22 ?_
  refine lv_if_ne (tgt := 32) hx hb dX8_goes_25 (by decide) (fun _ => ?_) (fun c9 => absurd c9 (by decide))
  refine lv_iconst (v := 0) hx hb dX8_goes_32 (by decide) ?_
  have hP9 : va_P D vwCl [(mo, .inr (8, [.ref ms, .int sv, .ref mb, .int 0, .int 1, .ref mk, .int ml, .ref mfd, .int mf, .int sp, .int on, .int tw]))] H := hP.sub [0] rfl
  have hD9 : va_D A [(mo, .inr (8, [.ref ms, .int sv, .ref mb, .int 0, .int 1, .ref mk, .int ml, .ref mfd, .int mf, .int sp, .int on, .int tw]))] := hD.sub [0] (by decide) rfl
  have hK9 : va_K D vwCl [] s := hK.sub [] rfl
  exact W.zret (v := 0) hx hb hr (rfl) (fun t ht9 hW9 => ⟨⟨0, (), rfl, by first | rfl | trivial | assumption, ⟨by rw [ht9]; exact hP9, va_K.moved hW9.alike hK9, hD9⟩⟩, hS.F ht9⟩) hS.2.2 dX8_goes_33
set_option maxHeartbeats 4000000 in
set_option maxRecDepth 100000 in
theorem c_M_goes10 (l : Launch) (D : va_G) (mo : Nat) (ms : Nat) (sv : Int32) (mb : Nat) (th : Int32) (mk : Nat) (ml : Int32) (mfd : Nat) (mf : Int32) (sp : Int32) (on : Int32) (tw : Int32) (sz : Nat) : k_Mi (S := Unit) l D yX8_goes cX8_goes 3 (some .boolean) 0 0 0 0 [.ref mo, .int 1, .int 0] [(mo, .inr (8, [.ref ms, .int sv, .ref mb, .int 0, .int th, .ref mk, .int ml, .ref mfd, .int mf, .int sp, .int on, .int tw]))] [] (fun (r : Int32) (_ : Unit) => r = 0) (fun _ => [(mo, .inr (8, [.ref ms, .int sv, .ref mb, .int 0, .int 2, .ref mk, .int ml, .ref mfd, .int mf, .int sp, .int on, .int tw]))]) (fun _ => []) sz := by
  refine Met.ofW (cc := cX8_goes) (maxL := 3) (ret := (some .boolean)) (by decide) rfl ?_
  intro p e s m args below meth c s₁ B hml hv
  obtain ⟨rfl, hsz, hP, hK, hD0, hG⟩ := hv
  have hx := B.exec
  have hb := B.bytes
  have hr := B.returns
  have ht : ∀ v9 ∈ wsA, v9.before ([.ref mo, .int 1, .int 0] : List Value).toArray s = true := fun v9 h9 => atoms_spec (ws := k_ws yX8_goes cX8_goes 3 (some .boolean)) B.pre v9 (List.mem_cons_of_mem _ h9)
  have hown : s.vm.findClass RX8 = some m.cls := findClass_of_methodNamed B.named
  have S0 : k_C p s m ([.ref mo, .int 1, .int 0] : List Value).toArray c cX8_goes 3 RX8 := ⟨hx, hb, hml, hown, ht⟩
  have hlocks := B.notSynchronized
  subst hsz
  have hD := hD0.self (sz := s.heap.size)
  generalize hAe : va_A [(mo, .inr (8, [.ref ms, .int sv, .ref mb, .int 0, .int th, .ref mk, .int ml, .ref mfd, .int mf, .int sp, .int on, .int tw]))] s.heap.size = A at hD hG ⊢
  have hA : ∀ q : Nat, s.heap.size ≤ q → A q := fun q h => by rw [← hAe]; exact Or.inr h
  have hS : va_S A s.heap s.heap [] := va_S.rf
  have hl := lv_entry ([.ref mo, .int 1, .int 0]) (n := 3) (Nat.le_of_ble_eq_true rfl)
  rw [lg_entry_eq]
  generalize (lg_sl ([.ref mo, .int 1, .int 0]) ++ List.replicate (3 - (lg_sl ([.ref mo, .int 1, .int 0])).length) Slot.unset).toArray = ls at hl ⊢
  have hl : lv_has ls 3 [(0, .ref mo), (1, .int 1), (2, .int 0)] := hl
  have hP : va_P D vwCl [(mo, .inr (8, [.ref ms, .int sv, .ref mb, .int 0, .int th, .ref mk, .int ml, .ref mfd, .int mf, .int sp, .int on, .int tw]))] s.heap := hP
  refine lv_aload_n hx hb dX8_goes_0 rfl (lv_at hl 0 rfl) ?_
  refine lv_iload_n hx hb dX8_goes_1 rfl (lv_at hl 1 rfl) ?_
  refine lv_if_ne (tgt := 9) hx hb dX8_goes_2 (by decide) (fun _ => ?_) (fun c9 => absurd c9 (by decide))
  refine lv_iload_n hx hb dX8_goes_9 rfl (lv_at hl 2 rfl) ?_
  refine lv_if_ne (tgt := 17) hx hb dX8_goes_10 (by decide) (fun c9 => absurd (by decide) c9) (fun _ => ?_)
  refine lv_iconst (v := 2) hx hb dX8_goes_13 (by decide) ?_
  refine lv_goto (tgt := 18) hx hb dX8_goes_14 (by decide) ?_
  refine va_put (D := D) (ci := 8) (v := .int 2) (ty := .int) (C := RX8) (T := TX8) (N := 12) hx hb ht inA_X8 tyX8 tyX8_ok nmX8 hown hK hP hD hS 0 rfl rfl 4 (by decide) (ht _ lf_X8_23) (fun _ h9 => h9) rfl (tyX8_ok 4 (by decide)) rfl rfl (Nat.le_of_ble_eq_true rfl) dX8_goes_18 (fun H locs hP hD hS => ?_)
  have hP : va_P D vwCl [(mo, .inr (8, [.ref ms, .int sv, .ref mb, .int 0, .int 2, .ref mk, .int ml, .ref mfd, .int mf, .int sp, .int on, .int tw]))] H := hP
  have hD : va_D A [(mo, .inr (8, [.ref ms, .int sv, .ref mb, .int 0, .int 2, .ref mk, .int ml, .ref mfd, .int mf, .int sp, .int on, .int tw]))] := hD
  refine lv_aload_n hx hb dX8_goes_21 rfl (lv_at hl 0 rfl) ?_
  refine va_get (D := D) (ci := 8) (v := .int 2) (C := RX8) (T := TX8) (N := 12) hx hb ht inA_X8 hown hK hP 0 rfl rfl 4 (by decide) (ht _ lf_X8_23) (fun _ h9 => h9) rfl dX8_goes_22 ?_
  refine lv_if_ne (tgt := 32) hx hb dX8_goes_25 (by decide) (fun _ => ?_) (fun c9 => absurd c9 (by decide))
  refine lv_iconst (v := 0) hx hb dX8_goes_32 (by decide) ?_
  have hP9 : va_P D vwCl [(mo, .inr (8, [.ref ms, .int sv, .ref mb, .int 0, .int 2, .ref mk, .int ml, .ref mfd, .int mf, .int sp, .int on, .int tw]))] H := hP.sub [0] rfl
  have hD9 : va_D A [(mo, .inr (8, [.ref ms, .int sv, .ref mb, .int 0, .int 2, .ref mk, .int ml, .ref mfd, .int mf, .int sp, .int on, .int tw]))] := hD.sub [0] (by decide) rfl
  have hK9 : va_K D vwCl [] s := hK.sub [] rfl
  exact W.zret (v := 0) hx hb hr (rfl) (fun t ht9 hW9 => ⟨⟨0, (), rfl, by first | rfl | trivial | assumption, ⟨by rw [ht9]; exact hP9, va_K.moved hW9.alike hK9, hD9⟩⟩, hS.F ht9⟩) hS.2.2 dX8_goes_33
set_option maxHeartbeats 4000000 in
set_option maxRecDepth 100000 in
theorem c_M_thrown (l : Launch) (D : va_G) (mo : Nat) (ms : Nat) (sv : Int32) (mb : Nat) (th : Int32) (mk : Nat) (ml : Int32) (mfd : Nat) (mf : Int32) (sp : Int32) (on : Int32) (tw : Int32) (sz : Nat) : k_Mi (S := Unit) l D yX8_thrown cX8_thrown 1 (some .int) 0 0 0 0 [.ref mo] [(mo, .inr (8, [.ref ms, .int sv, .ref mb, .int 0, .int th, .ref mk, .int ml, .ref mfd, .int mf, .int sp, .int on, .int tw]))] [] (fun (r : Int32) (_ : Unit) => r = th) (fun _ => [(mo, .inr (8, [.ref ms, .int sv, .ref mb, .int 0, .int th, .ref mk, .int ml, .ref mfd, .int mf, .int sp, .int on, .int tw]))]) (fun _ => []) sz := by
  refine Met.ofW (cc := cX8_thrown) (maxL := 1) (ret := (some .int)) (by decide) rfl ?_
  intro p e s m args below meth c s₁ B hml hv
  obtain ⟨rfl, hsz, hP, hK, hD0, hG⟩ := hv
  have hx := B.exec
  have hb := B.bytes
  have hr := B.returns
  have ht : ∀ v9 ∈ wsA, v9.before ([.ref mo] : List Value).toArray s = true := fun v9 h9 => atoms_spec (ws := k_ws yX8_thrown cX8_thrown 1 (some .int)) B.pre v9 (List.mem_cons_of_mem _ h9)
  have hown : s.vm.findClass RX8 = some m.cls := findClass_of_methodNamed B.named
  have S0 : k_C p s m ([.ref mo] : List Value).toArray c cX8_thrown 1 RX8 := ⟨hx, hb, hml, hown, ht⟩
  have hlocks := B.notSynchronized
  subst hsz
  have hD := hD0.self (sz := s.heap.size)
  generalize hAe : va_A [(mo, .inr (8, [.ref ms, .int sv, .ref mb, .int 0, .int th, .ref mk, .int ml, .ref mfd, .int mf, .int sp, .int on, .int tw]))] s.heap.size = A at hD hG ⊢
  have hA : ∀ q : Nat, s.heap.size ≤ q → A q := fun q h => by rw [← hAe]; exact Or.inr h
  have hS : va_S A s.heap s.heap [] := va_S.rf
  have hl := lv_entry ([.ref mo]) (n := 1) (Nat.le_of_ble_eq_true rfl)
  rw [lg_entry_eq]
  generalize (lg_sl ([.ref mo]) ++ List.replicate (1 - (lg_sl ([.ref mo])).length) Slot.unset).toArray = ls at hl ⊢
  have hl : lv_has ls 1 [(0, .ref mo)] := hl
  have hP : va_P D vwCl [(mo, .inr (8, [.ref ms, .int sv, .ref mb, .int 0, .int th, .ref mk, .int ml, .ref mfd, .int mf, .int sp, .int on, .int tw]))] s.heap := hP
  refine lv_aload_n hx hb dX8_thrown_0 rfl (lv_at hl 0 rfl) ?_
  refine va_get (D := D) (ci := 8) (v := .int th) (C := RX8) (T := TX8) (N := 12) hx hb ht inA_X8 hown hK hP 0 rfl rfl 4 (by decide) (ht _ lf_X8_23) (fun _ h9 => h9) rfl dX8_thrown_1 ?_
  have hP9 : va_P D vwCl [(mo, .inr (8, [.ref ms, .int sv, .ref mb, .int 0, .int th, .ref mk, .int ml, .ref mfd, .int mf, .int sp, .int on, .int tw]))] s.heap := hP.sub [0] rfl
  have hD9 : va_D A [(mo, .inr (8, [.ref ms, .int sv, .ref mb, .int 0, .int th, .ref mk, .int ml, .ref mfd, .int mf, .int sp, .int on, .int tw]))] := hD.sub [0] (by decide) rfl
  have hK9 : va_K D vwCl [] s := hK.sub [] rfl
  exact W.iret (v := th) hx hb hr (fun t ht9 hW9 => ⟨⟨th, (), rfl, by first | rfl | trivial | assumption, ⟨by rw [ht9]; exact hP9, va_K.moved hW9.alike hK9, hD9⟩⟩, hS.F ht9⟩) hS.2.2 dX8_thrown_4
set_option maxHeartbeats 4000000 in
set_option maxRecDepth 100000 in
theorem c_M_many (l : Launch) (D : va_G) (mo : Nat) (ms : Nat) (sv : Int32) (mb : Nat) (th : Int32) (mk : Nat) (ml : Int32) (mfd : Nat) (mf : Int32) (sp : Int32) (on : Int32) (tw : Int32) (K : ClassId) (sf : Nat → Int32) (hs0 : sf 0 = 0) (hs51 : sf 51 = 0) (hs93 : sf 93 = 4) (hs94 : sf 94 = 0) (hs125 : sf 125 = 0) (hs126 : sf 126 = 0) (sz : Nat) : k_Mi (S := Unit) l D yX8_manyElements cX8_manyElements 1 (some .int) 0 0 0 0 [.ref mo] [(mo, .inr (8, [.ref ms, .int sv, .ref mb, .int 0, .int th, .ref mk, .int ml, .ref mfd, .int mf, .int sp, .int on, .int tw])), (ms, .inl (K, 889, .inl sf))] [(K, .int)] (fun (r : Int32) (_ : Unit) => r = 0) (fun _ => [(mo, .inr (8, [.ref ms, .int sv, .ref mb, .int 0, .int th, .ref mk, .int ml, .ref mfd, .int mf, .int sp, .int on, .int tw])), (ms, .inl (K, 889, .inl sf))]) (fun _ => []) sz := by
  refine Met.ofW (cc := cX8_manyElements) (maxL := 1) (ret := (some .int)) (by decide) rfl ?_
  intro p e s m args below meth c s₁ B hml hv
  obtain ⟨rfl, hsz, hP, hK, hD0, hG⟩ := hv
  have hx := B.exec
  have hb := B.bytes
  have hr := B.returns
  have ht : ∀ v9 ∈ wsA, v9.before ([.ref mo] : List Value).toArray s = true := fun v9 h9 => atoms_spec (ws := k_ws yX8_manyElements cX8_manyElements 1 (some .int)) B.pre v9 (List.mem_cons_of_mem _ h9)
  have hown : s.vm.findClass RX8 = some m.cls := findClass_of_methodNamed B.named
  have S0 : k_C p s m ([.ref mo] : List Value).toArray c cX8_manyElements 1 RX8 := ⟨hx, hb, hml, hown, ht⟩
  have hlocks := B.notSynchronized
  subst hsz
  have hD := hD0.self (sz := s.heap.size)
  generalize hAe : va_A [(mo, .inr (8, [.ref ms, .int sv, .ref mb, .int 0, .int th, .ref mk, .int ml, .ref mfd, .int mf, .int sp, .int on, .int tw])), (ms, .inl (K, 889, .inl sf))] s.heap.size = A at hD hG ⊢
  have hA : ∀ q : Nat, s.heap.size ≤ q → A q := fun q h => by rw [← hAe]; exact Or.inr h
  have hS : va_S A s.heap s.heap [] := va_S.rf
  have hl := lv_entry ([.ref mo]) (n := 1) (Nat.le_of_ble_eq_true rfl)
  rw [lg_entry_eq]
  generalize (lg_sl ([.ref mo]) ++ List.replicate (1 - (lg_sl ([.ref mo])).length) Slot.unset).toArray = ls at hl ⊢
  have hl : lv_has ls 1 [(0, .ref mo)] := hl
  have hP : va_P D vwCl [(mo, .inr (8, [.ref ms, .int sv, .ref mb, .int 0, .int th, .ref mk, .int ml, .ref mfd, .int mf, .int sp, .int on, .int tw])), (ms, .inl (K, 889, .inl sf))] s.heap := hP
  refine lv_aload_n hx hb dX8_manyElements_0 rfl (lv_at hl 0 rfl) ?_
  refine va_get (D := D) (ci := 8) (v := .ref ms) (C := RX8) (T := TX8) (N := 12) hx hb ht inA_X8 hown hK hP 0 rfl rfl 0 (by decide) (ht _ lf_X8_7) (fun _ h9 => h9) rfl dX8_manyElements_1 ?_
  refine lv_iconst (v := 0) hx hb dX8_manyElements_4 (by decide) ?_
  refine va_iald hx hb hK hP 1 0 rfl rfl (by unfold vp_in; decide) dX8_manyElements_5 ?_
  refine k_nrm (y := 0) (show sf (0 : Int32).toNatClampNeg = 0 from hs0) ?_
  refine lv_if_ne (tgt := 13) hx hb dX8_manyElements_6 (by decide) (fun c9 => absurd (by decide) c9) (fun _ => ?_)
  refine lv_iconst (v := 0) hx hb dX8_manyElements_9 (by decide) ?_
  refine lv_goto (tgt := 23) hx hb dX8_manyElements_10 (by decide) ?_
  have hP9 : va_P D vwCl [(mo, .inr (8, [.ref ms, .int sv, .ref mb, .int 0, .int th, .ref mk, .int ml, .ref mfd, .int mf, .int sp, .int on, .int tw])), (ms, .inl (K, 889, .inl sf))] s.heap := hP.sub [0, 1] rfl
  have hD9 : va_D A [(mo, .inr (8, [.ref ms, .int sv, .ref mb, .int 0, .int th, .ref mk, .int ml, .ref mfd, .int mf, .int sp, .int on, .int tw])), (ms, .inl (K, 889, .inl sf))] := hD.sub [0, 1] (by decide) rfl
  have hK9 : va_K D vwCl [] s := hK.sub [] rfl
  exact W.iret (v := 0) hx hb hr (fun t ht9 hW9 => ⟨⟨0, (), rfl, by first | rfl | trivial | assumption, ⟨by rw [ht9]; exact hP9, va_K.moved hW9.alike hK9, hD9⟩⟩, hS.F ht9⟩) hS.2.2 dX8_manyElements_23
set_option maxHeartbeats 4000000 in
set_option maxRecDepth 100000 in
theorem c_M_isElement (l : Launch) (D : va_G) (mo : Nat) (ms : Nat) (sv : Int32) (mb : Nat) (th : Int32) (mk : Nat) (ml : Int32) (mfd : Nat) (mf : Int32) (sp : Int32) (on : Int32) (tw : Int32) (K : ClassId) (sf : Nat → Int32) (v : Int32) (hs0 : sf 0 = 0) (hs51 : sf 51 = 0) (hs93 : sf 93 = 4) (hs94 : sf 94 = 0) (hs125 : sf 125 = 0) (hs126 : sf 126 = 0) (sz : Nat) : k_Mi (S := Unit) l D yX8_isElement cX8_isElement 2 (some .boolean) 1 0 0 22 [.ref mo, .int v] [(mo, .inr (8, [.ref ms, .int sv, .ref mb, .int 0, .int th, .ref mk, .int ml, .ref mfd, .int mf, .int sp, .int on, .int tw])), (ms, .inl (K, 889, .inl sf))] [(K, .int)] (fun (r : Int32) (_ : Unit) => r = 0) (fun _ => [(mo, .inr (8, [.ref ms, .int sv, .ref mb, .int 0, .int th, .ref mk, .int ml, .ref mfd, .int mf, .int sp, .int on, .int tw])), (ms, .inl (K, 889, .inl sf))]) (fun _ => []) sz := by
  refine Met.ofW (cc := cX8_isElement) (maxL := 2) (ret := (some .boolean)) (by decide) rfl ?_
  intro p e s m args below meth c s₁ B hml hv
  obtain ⟨rfl, hsz, hP, hK, hD0, hG⟩ := hv
  have hx := B.exec
  have hb := B.bytes
  have hr := B.returns
  have ht : ∀ v9 ∈ wsA, v9.before ([.ref mo, .int v] : List Value).toArray s = true := fun v9 h9 => atoms_spec (ws := k_ws yX8_isElement cX8_isElement 2 (some .boolean)) B.pre v9 (List.mem_cons_of_mem _ h9)
  have hown : s.vm.findClass RX8 = some m.cls := findClass_of_methodNamed B.named
  have S0 : k_C p s m ([.ref mo, .int v] : List Value).toArray c cX8_isElement 2 RX8 := ⟨hx, hb, hml, hown, ht⟩
  have hlocks := B.notSynchronized
  subst hsz
  have hD := hD0.self (sz := s.heap.size)
  generalize hAe : va_A [(mo, .inr (8, [.ref ms, .int sv, .ref mb, .int 0, .int th, .ref mk, .int ml, .ref mfd, .int mf, .int sp, .int on, .int tw])), (ms, .inl (K, 889, .inl sf))] s.heap.size = A at hD hG ⊢
  have hA : ∀ q : Nat, s.heap.size ≤ q → A q := fun q h => by rw [← hAe]; exact Or.inr h
  have hS : va_S A s.heap s.heap [] := va_S.rf
  have hl := lv_entry ([.ref mo, .int v]) (n := 2) (Nat.le_of_ble_eq_true rfl)
  rw [lg_entry_eq]
  generalize (lg_sl ([.ref mo, .int v]) ++ List.replicate (2 - (lg_sl ([.ref mo, .int v])).length) Slot.unset).toArray = ls at hl ⊢
  have hl : lv_has ls 2 [(0, .ref mo), (1, .int v)] := hl
  have hP : va_P D vwCl [(mo, .inr (8, [.ref ms, .int sv, .ref mb, .int 0, .int th, .ref mk, .int ml, .ref mfd, .int mf, .int sp, .int on, .int tw])), (ms, .inl (K, 889, .inl sf))] s.heap := hP
  refine lv_iload_n hx hb dX8_isElement_0 rfl (lv_at hl 1 rfl) ?_
  refine lv_iconst (v := 0) hx hb dX8_isElement_1 (by decide) ?_
  refine lv_aload_n hx hb dX8_isElement_2 rfl (lv_at hl 0 rfl) ?_
  have ct := k_cut_of (wc := [(mo, .inr (8, [.ref ms, .int sv, .ref mb, .int 0, .int th, .ref mk, .int ml, .ref mfd, .int mf, .int sp, .int on, .int tw])), (ms, .inl (K, 889, .inl sf))]) (wr := []) (tc := [(K, .int)]) hG hS hA hK hP hD [0, 1] [] [0] rfl rfl (by decide) (by decide) (by decide) rfl
  refine k_endi (As := [.ref mo]) ct (k_runV (As := []) (rest := [.int 0, .int v]) S0 Lv_X8_38 rfl (ci := 8) (q0 := 0) rfl rfl ct (c_M_many l D mo ms sv mb th mk ml mfd mf sp on tw K sf (by first | assumption | exact (cpf_lo (by decide)).trans (by assumption)) (by first | assumption | exact (cpf_lo (by decide)).trans (by assumption)) (by first | assumption | exact (cpf_lo (by decide)).trans (by assumption)) (by first | assumption | exact (cpf_lo (by decide)).trans (by assumption)) (by first | assumption | exact (cpf_lo (by decide)).trans (by assumption)) (by first | assumption | exact (cpf_lo (by decide)).trans (by assumption)) s.heap.size) hl.1 rfl (Nat.le_of_ble_eq_true rfl) rfl dX8_isElement_3 ⟨⟨Nat.le_of_ble_eq_true rfl, Nat.le_of_ble_eq_true rfl⟩, Nat.le_of_ble_eq_true rfl, Nat.le_of_ble_eq_true rfl⟩) rfl rfl (fun r_1 _ H locs hw_2 hP hD hK hS => ?_)
  have hK : va_K D vwCl [(K, .int)] s := hK
  have hP : va_P D vwCl [(mo, .inr (8, [.ref ms, .int sv, .ref mb, .int 0, .int th, .ref mk, .int ml, .ref mfd, .int mf, .int sp, .int on, .int tw])), (ms, .inl (K, 889, .inl sf))] H := hP
  have hD : va_D A [(mo, .inr (8, [.ref ms, .int sv, .ref mb, .int 0, .int th, .ref mk, .int ml, .ref mfd, .int mf, .int sp, .int on, .int tw])), (ms, .inl (K, 889, .inl sf))] := hD
  have hw_2 : r_1 = 0 := hw_2
  have hw_2 := hw_2.symm
  subst hw_2
  refine k_nrm (y := 0) rfl ?_
  refine lv_iconst (v := 1) hx hb dX8_isElement_6 (by decide) ?_
  refine lv_isub hx hb dX8_isElement_7 ?_
  refine k_nrm (y := (-1)) (by decide) ?_
  have ct := k_cut_of (wc := []) (wr := [(mo, .inr (8, [.ref ms, .int sv, .ref mb, .int 0, .int th, .ref mk, .int ml, .ref mfd, .int mf, .int sp, .int on, .int tw])), (ms, .inl (K, 889, .inl sf))]) (tc := []) hG hS hA hK hP hD [] [0, 1] [] rfl rfl (by decide) (by decide) (by decide) rfl
  refine k_endi (As := [.int v, .int 0, .int (-1)]) ct (k_runS (As := [.int v, .int 0, .int (-1)]) (rest := []) S0 Ls_X8_46 ct (c_M_in_n1 l D v H.size) hl.1 rfl (Nat.le_of_ble_eq_true rfl) rfl dX8_isElement_8 ⟨⟨Nat.le_of_ble_eq_true rfl, Nat.le_of_ble_eq_true rfl⟩, Nat.le_of_ble_eq_true rfl, Nat.le_of_ble_eq_true rfl⟩) rfl rfl (fun r_3 _ H locs hw_4 hP hD hK hS => ?_)
  have hK : va_K D vwCl [(K, .int)] s := hK
  have hP : va_P D vwCl [(mo, .inr (8, [.ref ms, .int sv, .ref mb, .int 0, .int th, .ref mk, .int ml, .ref mfd, .int mf, .int sp, .int on, .int tw])), (ms, .inl (K, 889, .inl sf))] H := hP
  have hD : va_D A [(mo, .inr (8, [.ref ms, .int sv, .ref mb, .int 0, .int th, .ref mk, .int ml, .ref mfd, .int mf, .int sp, .int on, .int tw])), (ms, .inl (K, 889, .inl sf))] := hD
  have hw_4 : r_3 = 0 := hw_4
  have hw_4 := hw_4.symm
  subst hw_4
  refine k_nrm (y := 0) rfl ?_
  have hP9 : va_P D vwCl [(mo, .inr (8, [.ref ms, .int sv, .ref mb, .int 0, .int th, .ref mk, .int ml, .ref mfd, .int mf, .int sp, .int on, .int tw])), (ms, .inl (K, 889, .inl sf))] H := hP.sub [0, 1] rfl
  have hD9 : va_D A [(mo, .inr (8, [.ref ms, .int sv, .ref mb, .int 0, .int th, .ref mk, .int ml, .ref mfd, .int mf, .int sp, .int on, .int tw])), (ms, .inl (K, 889, .inl sf))] := hD.sub [0, 1] (by decide) rfl
  have hK9 : va_K D vwCl [] s := hK.sub [] rfl
  exact W.zret (v := 0) hx hb hr (rfl) (fun t ht9 hW9 => ⟨⟨0, (), rfl, by first | rfl | trivial | assumption, ⟨by rw [ht9]; exact hP9, va_K.moved hW9.alike hK9, hD9⟩⟩, hS.F ht9⟩) hS.2.2 dX8_isElement_11
set_option maxHeartbeats 4000000 in
set_option maxRecDepth 100000 in
theorem c_M_isCode (l : Launch) (D : va_G) (mo : Nat) (ms : Nat) (sv : Int32) (mb : Nat) (th : Int32) (mk : Nat) (ml : Int32) (mfd : Nat) (mf : Int32) (sp : Int32) (on : Int32) (tw : Int32) (K : ClassId) (sf : Nat → Int32) (v : Int32) (hs0 : sf 0 = 0) (hs51 : sf 51 = 0) (hs93 : sf 93 = 4) (hs94 : sf 94 = 0) (hs125 : sf 125 = 0) (hs126 : sf 126 = 0) (sz : Nat) : k_Mi (S := Unit) l D yX8_isCode cX8_isCode 2 (some .boolean) 1 0 0 22 [.ref mo, .int v] [(mo, .inr (8, [.ref ms, .int sv, .ref mb, .int 0, .int th, .ref mk, .int ml, .ref mfd, .int mf, .int sp, .int on, .int tw])), (ms, .inl (K, 889, .inl sf))] [(K, .int)] (fun (r : Int32) (_ : Unit) => r = 0) (fun _ => [(mo, .inr (8, [.ref ms, .int sv, .ref mb, .int 0, .int th, .ref mk, .int ml, .ref mfd, .int mf, .int sp, .int on, .int tw])), (ms, .inl (K, 889, .inl sf))]) (fun _ => []) sz := by
  refine Met.ofW (cc := cX8_isCode) (maxL := 2) (ret := (some .boolean)) (by decide) rfl ?_
  intro p e s m args below meth c s₁ B hml hv
  obtain ⟨rfl, hsz, hP, hK, hD0, hG⟩ := hv
  have hx := B.exec
  have hb := B.bytes
  have hr := B.returns
  have ht : ∀ v9 ∈ wsA, v9.before ([.ref mo, .int v] : List Value).toArray s = true := fun v9 h9 => atoms_spec (ws := k_ws yX8_isCode cX8_isCode 2 (some .boolean)) B.pre v9 (List.mem_cons_of_mem _ h9)
  have hown : s.vm.findClass RX8 = some m.cls := findClass_of_methodNamed B.named
  have S0 : k_C p s m ([.ref mo, .int v] : List Value).toArray c cX8_isCode 2 RX8 := ⟨hx, hb, hml, hown, ht⟩
  have hlocks := B.notSynchronized
  subst hsz
  have hD := hD0.self (sz := s.heap.size)
  generalize hAe : va_A [(mo, .inr (8, [.ref ms, .int sv, .ref mb, .int 0, .int th, .ref mk, .int ml, .ref mfd, .int mf, .int sp, .int on, .int tw])), (ms, .inl (K, 889, .inl sf))] s.heap.size = A at hD hG ⊢
  have hA : ∀ q : Nat, s.heap.size ≤ q → A q := fun q h => by rw [← hAe]; exact Or.inr h
  have hS : va_S A s.heap s.heap [] := va_S.rf
  have hl := lv_entry ([.ref mo, .int v]) (n := 2) (Nat.le_of_ble_eq_true rfl)
  rw [lg_entry_eq]
  generalize (lg_sl ([.ref mo, .int v]) ++ List.replicate (2 - (lg_sl ([.ref mo, .int v])).length) Slot.unset).toArray = ls at hl ⊢
  have hl : lv_has ls 2 [(0, .ref mo), (1, .int v)] := hl
  have hP : va_P D vwCl [(mo, .inr (8, [.ref ms, .int sv, .ref mb, .int 0, .int th, .ref mk, .int ml, .ref mfd, .int mf, .int sp, .int on, .int tw])), (ms, .inl (K, 889, .inl sf))] s.heap := hP
  refine lv_iload_n hx hb dX8_isCode_0 rfl (lv_at hl 1 rfl) ?_
  refine lv_iconst (v := 0) hx hb dX8_isCode_1 (by decide) ?_
  refine lv_aload_n hx hb dX8_isCode_2 rfl (lv_at hl 0 rfl) ?_
  refine va_get (D := D) (ci := 8) (v := .ref ms) (C := RX8) (T := TX8) (N := 12) hx hb ht inA_X8 hown hK hP 0 rfl rfl 0 (by decide) (ht _ lf_X8_7) (fun _ h9 => h9) rfl dX8_isCode_3 ?_
  refine lv_bipush (v := 94) hx hb dX8_isCode_6 (by decide) ?_
  refine va_iald hx hb hK hP 1 0 rfl rfl (by unfold vp_in; decide) dX8_isCode_8 ?_
  refine k_nrm (y := 0) (show sf (94 : Int32).toNatClampNeg = 0 from hs94) ?_
  refine lv_iconst (v := 1) hx hb dX8_isCode_9 (by decide) ?_
  refine lv_isub hx hb dX8_isCode_10 ?_
  refine k_nrm (y := (-1)) (by decide) ?_
  have ct := k_cut_of (wc := []) (wr := [(mo, .inr (8, [.ref ms, .int sv, .ref mb, .int 0, .int th, .ref mk, .int ml, .ref mfd, .int mf, .int sp, .int on, .int tw])), (ms, .inl (K, 889, .inl sf))]) (tc := []) hG hS hA hK hP hD [] [0, 1] [] rfl rfl (by decide) (by decide) (by decide) rfl
  refine k_endi (As := [.int v, .int 0, .int (-1)]) ct (k_runS (As := [.int v, .int 0, .int (-1)]) (rest := []) S0 Ls_X8_46 ct (c_M_in_n1 l D v s.heap.size) hl.1 rfl (Nat.le_of_ble_eq_true rfl) rfl dX8_isCode_11 ⟨⟨Nat.le_of_ble_eq_true rfl, Nat.le_of_ble_eq_true rfl⟩, Nat.le_of_ble_eq_true rfl, Nat.le_of_ble_eq_true rfl⟩) rfl rfl (fun r_1 _ H locs hw_2 hP hD hK hS => ?_)
  have hK : va_K D vwCl [(K, .int)] s := hK
  have hP : va_P D vwCl [(mo, .inr (8, [.ref ms, .int sv, .ref mb, .int 0, .int th, .ref mk, .int ml, .ref mfd, .int mf, .int sp, .int on, .int tw])), (ms, .inl (K, 889, .inl sf))] H := hP
  have hD : va_D A [(mo, .inr (8, [.ref ms, .int sv, .ref mb, .int 0, .int th, .ref mk, .int ml, .ref mfd, .int mf, .int sp, .int on, .int tw])), (ms, .inl (K, 889, .inl sf))] := hD
  have hw_2 : r_1 = 0 := hw_2
  have hw_2 := hw_2.symm
  subst hw_2
  refine k_nrm (y := 0) rfl ?_
  have hP9 : va_P D vwCl [(mo, .inr (8, [.ref ms, .int sv, .ref mb, .int 0, .int th, .ref mk, .int ml, .ref mfd, .int mf, .int sp, .int on, .int tw])), (ms, .inl (K, 889, .inl sf))] H := hP.sub [0, 1] rfl
  have hD9 : va_D A [(mo, .inr (8, [.ref ms, .int sv, .ref mb, .int 0, .int th, .ref mk, .int ml, .ref mfd, .int mf, .int sp, .int on, .int tw])), (ms, .inl (K, 889, .inl sf))] := hD.sub [0, 1] (by decide) rfl
  have hK9 : va_K D vwCl [] s := hK.sub [] rfl
  exact W.zret (v := 0) hx hb hr (rfl) (fun t ht9 hW9 => ⟨⟨0, (), rfl, by first | rfl | trivial | assumption, ⟨by rw [ht9]; exact hP9, va_K.moved hW9.alike hK9, hD9⟩⟩, hS.F ht9⟩) hS.2.2 dX8_isCode_14
set_option maxHeartbeats 4000000 in
set_option maxRecDepth 100000 in
theorem c_M_elements (l : Launch) (D : va_G) (mo : Nat) (ms : Nat) (sv : Int32) (mb : Nat) (th : Int32) (mk : Nat) (ml : Int32) (mfd : Nat) (mf : Int32) (sp : Int32) (on : Int32) (tw : Int32) (K : ClassId) (sf : Nat → Int32) (hs0 : sf 0 = 0) (hs51 : sf 51 = 0) (hs93 : sf 93 = 4) (hs94 : sf 94 = 0) (hs125 : sf 125 = 0) (hs126 : sf 126 = 0) (sz : Nat) : k_Mi (S := Unit) l D yX8_elements cX8_elements 1 (some .int) 1 0 0 20 [.ref mo] [(mo, .inr (8, [.ref ms, .int sv, .ref mb, .int 0, .int th, .ref mk, .int ml, .ref mfd, .int mf, .int sp, .int on, .int tw])), (ms, .inl (K, 889, .inl sf))] [(K, .int)] (fun (r : Int32) (_ : Unit) => r = 0) (fun _ => [(mo, .inr (8, [.ref ms, .int sv, .ref mb, .int 0, .int 0, .ref mk, .int ml, .ref mfd, .int mf, .int sp, .int on, .int tw])), (ms, .inl (K, 889, .inl sf))]) (fun _ => []) sz := by
  refine Met.ofW (cc := cX8_elements) (maxL := 1) (ret := (some .int)) (by decide) rfl ?_
  intro p e s m args below meth c s₁ B hml hv
  obtain ⟨rfl, hsz, hP, hK, hD0, hG⟩ := hv
  have hx := B.exec
  have hb := B.bytes
  have hr := B.returns
  have ht : ∀ v9 ∈ wsA, v9.before ([.ref mo] : List Value).toArray s = true := fun v9 h9 => atoms_spec (ws := k_ws yX8_elements cX8_elements 1 (some .int)) B.pre v9 (List.mem_cons_of_mem _ h9)
  have hown : s.vm.findClass RX8 = some m.cls := findClass_of_methodNamed B.named
  have S0 : k_C p s m ([.ref mo] : List Value).toArray c cX8_elements 1 RX8 := ⟨hx, hb, hml, hown, ht⟩
  have hlocks := B.notSynchronized
  subst hsz
  have hD := hD0.self (sz := s.heap.size)
  generalize hAe : va_A [(mo, .inr (8, [.ref ms, .int sv, .ref mb, .int 0, .int th, .ref mk, .int ml, .ref mfd, .int mf, .int sp, .int on, .int tw])), (ms, .inl (K, 889, .inl sf))] s.heap.size = A at hD hG ⊢
  have hA : ∀ q : Nat, s.heap.size ≤ q → A q := fun q h => by rw [← hAe]; exact Or.inr h
  have hS : va_S A s.heap s.heap [] := va_S.rf
  have hl := lv_entry ([.ref mo]) (n := 1) (Nat.le_of_ble_eq_true rfl)
  rw [lg_entry_eq]
  generalize (lg_sl ([.ref mo]) ++ List.replicate (1 - (lg_sl ([.ref mo])).length) Slot.unset).toArray = ls at hl ⊢
  have hl : lv_has ls 1 [(0, .ref mo)] := hl
  have hP : va_P D vwCl [(mo, .inr (8, [.ref ms, .int sv, .ref mb, .int 0, .int th, .ref mk, .int ml, .ref mfd, .int mf, .int sp, .int on, .int tw])), (ms, .inl (K, 889, .inl sf))] s.heap := hP
  refine lv_aload_n hx hb dX8_elements_0 rfl (lv_at hl 0 rfl) ?_
  refine lv_iconst (v := 0) hx hb dX8_elements_1 (by decide) ?_
  refine va_put (D := D) (ci := 8) (v := .int 0) (ty := .int) (C := RX8) (T := TX8) (N := 12) hx hb ht inA_X8 tyX8 tyX8_ok nmX8 hown hK hP hD hS 0 rfl rfl 4 (by decide) (ht _ lf_X8_23) (fun _ h9 => h9) rfl (tyX8_ok 4 (by decide)) rfl rfl (Nat.le_of_ble_eq_true rfl) dX8_elements_2 (fun H locs hP hD hS => ?_)
  have hP : va_P D vwCl [(mo, .inr (8, [.ref ms, .int sv, .ref mb, .int 0, .int 0, .ref mk, .int ml, .ref mfd, .int mf, .int sp, .int on, .int tw])), (ms, .inl (K, 889, .inl sf))] H := hP
  have hD : va_D A [(mo, .inr (8, [.ref ms, .int sv, .ref mb, .int 0, .int 0, .ref mk, .int ml, .ref mfd, .int mf, .int sp, .int on, .int tw])), (ms, .inl (K, 889, .inl sf))] := hD
  refine lv_aload_n hx hb dX8_elements_5 rfl (lv_at hl 0 rfl) ?_
  have ct := k_cut_of (wc := [(mo, .inr (8, [.ref ms, .int sv, .ref mb, .int 0, .int 0, .ref mk, .int ml, .ref mfd, .int mf, .int sp, .int on, .int tw])), (ms, .inl (K, 889, .inl sf))]) (wr := []) (tc := [(K, .int)]) hG hS hA hK hP hD [0, 1] [] [0] rfl rfl (by decide) (by decide) (by decide) rfl
  refine k_endi (As := [.ref mo]) ct (k_runV (As := []) (rest := []) S0 Lv_X8_38 rfl (ci := 8) (q0 := 0) rfl rfl ct (c_M_many l D mo ms sv mb 0 mk ml mfd mf sp on tw K sf (by first | assumption | exact (cpf_lo (by decide)).trans (by assumption)) (by first | assumption | exact (cpf_lo (by decide)).trans (by assumption)) (by first | assumption | exact (cpf_lo (by decide)).trans (by assumption)) (by first | assumption | exact (cpf_lo (by decide)).trans (by assumption)) (by first | assumption | exact (cpf_lo (by decide)).trans (by assumption)) (by first | assumption | exact (cpf_lo (by decide)).trans (by assumption)) H.size) hl.1 rfl (Nat.le_of_ble_eq_true rfl) rfl dX8_elements_6 ⟨⟨Nat.le_of_ble_eq_true rfl, Nat.le_of_ble_eq_true rfl⟩, Nat.le_of_ble_eq_true rfl, Nat.le_of_ble_eq_true rfl⟩) rfl rfl (fun r_1 _ H locs hw_2 hP hD hK hS => ?_)
  have hK : va_K D vwCl [(K, .int)] s := hK
  have hP : va_P D vwCl [(mo, .inr (8, [.ref ms, .int sv, .ref mb, .int 0, .int 0, .ref mk, .int ml, .ref mfd, .int mf, .int sp, .int on, .int tw])), (ms, .inl (K, 889, .inl sf))] H := hP
  have hD : va_D A [(mo, .inr (8, [.ref ms, .int sv, .ref mb, .int 0, .int 0, .ref mk, .int ml, .ref mfd, .int mf, .int sp, .int on, .int tw])), (ms, .inl (K, 889, .inl sf))] := hD
  have hw_2 : r_1 = 0 := hw_2
  have hw_2 := hw_2.symm
  subst hw_2
  refine k_nrm (y := 0) rfl ?_
  have hP9 : va_P D vwCl [(mo, .inr (8, [.ref ms, .int sv, .ref mb, .int 0, .int 0, .ref mk, .int ml, .ref mfd, .int mf, .int sp, .int on, .int tw])), (ms, .inl (K, 889, .inl sf))] H := hP.sub [0, 1] rfl
  have hD9 : va_D A [(mo, .inr (8, [.ref ms, .int sv, .ref mb, .int 0, .int 0, .ref mk, .int ml, .ref mfd, .int mf, .int sp, .int on, .int tw])), (ms, .inl (K, 889, .inl sf))] := hD.sub [0, 1] (by decide) rfl
  have hK9 : va_K D vwCl [] s := hK.sub [] rfl
  exact W.iret (v := 0) hx hb hr (fun t ht9 hW9 => ⟨⟨0, (), rfl, by first | rfl | trivial | assumption, ⟨by rw [ht9]; exact hP9, va_K.moved hW9.alike hK9, hD9⟩⟩, hS.F ht9⟩) hS.2.2 dX8_elements_9
set_option maxHeartbeats 4000000 in
set_option maxRecDepth 100000 in
theorem c_M_times (l : Launch) (D : va_G) (mo : Nat) (ms : Nat) (sv : Int32) (mb : Nat) (th : Int32) (mk : Nat) (ml : Int32) (mfd : Nat) (mf : Int32) (sp : Int32) (on : Int32) (tw : Int32) (K : ClassId) (sf : Nat → Int32) (hs0 : sf 0 = 0) (hs51 : sf 51 = 0) (hs93 : sf 93 = 4) (hs94 : sf 94 = 0) (hs125 : sf 125 = 0) (hs126 : sf 126 = 0) (sz : Nat) : k_Mi (S := Unit) l D yX8_times cX8_times 1 (some .int) 0 0 0 0 [.ref mo] [(mo, .inr (8, [.ref ms, .int sv, .ref mb, .int 0, .int th, .ref mk, .int ml, .ref mfd, .int mf, .int sp, .int on, .int tw])), (ms, .inl (K, 889, .inl sf))] [(K, .int)] (fun (r : Int32) (_ : Unit) => r = 0) (fun _ => [(mo, .inr (8, [.ref ms, .int sv, .ref mb, .int 0, .int 0, .ref mk, .int ml, .ref mfd, .int mf, .int sp, .int on, .int tw])), (ms, .inl (K, 889, .inl sf))]) (fun _ => []) sz := by
  refine Met.ofW (cc := cX8_times) (maxL := 1) (ret := (some .int)) (by decide) rfl ?_
  intro p e s m args below meth c s₁ B hml hv
  obtain ⟨rfl, hsz, hP, hK, hD0, hG⟩ := hv
  have hx := B.exec
  have hb := B.bytes
  have hr := B.returns
  have ht : ∀ v9 ∈ wsA, v9.before ([.ref mo] : List Value).toArray s = true := fun v9 h9 => atoms_spec (ws := k_ws yX8_times cX8_times 1 (some .int)) B.pre v9 (List.mem_cons_of_mem _ h9)
  have hown : s.vm.findClass RX8 = some m.cls := findClass_of_methodNamed B.named
  have S0 : k_C p s m ([.ref mo] : List Value).toArray c cX8_times 1 RX8 := ⟨hx, hb, hml, hown, ht⟩
  have hlocks := B.notSynchronized
  subst hsz
  have hD := hD0.self (sz := s.heap.size)
  generalize hAe : va_A [(mo, .inr (8, [.ref ms, .int sv, .ref mb, .int 0, .int th, .ref mk, .int ml, .ref mfd, .int mf, .int sp, .int on, .int tw])), (ms, .inl (K, 889, .inl sf))] s.heap.size = A at hD hG ⊢
  have hA : ∀ q : Nat, s.heap.size ≤ q → A q := fun q h => by rw [← hAe]; exact Or.inr h
  have hS : va_S A s.heap s.heap [] := va_S.rf
  have hl := lv_entry ([.ref mo]) (n := 1) (Nat.le_of_ble_eq_true rfl)
  rw [lg_entry_eq]
  generalize (lg_sl ([.ref mo]) ++ List.replicate (1 - (lg_sl ([.ref mo])).length) Slot.unset).toArray = ls at hl ⊢
  have hl : lv_has ls 1 [(0, .ref mo)] := hl
  have hP : va_P D vwCl [(mo, .inr (8, [.ref ms, .int sv, .ref mb, .int 0, .int th, .ref mk, .int ml, .ref mfd, .int mf, .int sp, .int on, .int tw])), (ms, .inl (K, 889, .inl sf))] s.heap := hP
  refine lv_aload_n hx hb dX8_times_0 rfl (lv_at hl 0 rfl) ?_
  refine lv_iconst (v := 0) hx hb dX8_times_1 (by decide) ?_
  refine va_put (D := D) (ci := 8) (v := .int 0) (ty := .int) (C := RX8) (T := TX8) (N := 12) hx hb ht inA_X8 tyX8 tyX8_ok nmX8 hown hK hP hD hS 0 rfl rfl 4 (by decide) (ht _ lf_X8_23) (fun _ h9 => h9) rfl (tyX8_ok 4 (by decide)) rfl rfl (Nat.le_of_ble_eq_true rfl) dX8_times_2 (fun H locs hP hD hS => ?_)
  have hP : va_P D vwCl [(mo, .inr (8, [.ref ms, .int sv, .ref mb, .int 0, .int 0, .ref mk, .int ml, .ref mfd, .int mf, .int sp, .int on, .int tw])), (ms, .inl (K, 889, .inl sf))] H := hP
  have hD : va_D A [(mo, .inr (8, [.ref ms, .int sv, .ref mb, .int 0, .int 0, .ref mk, .int ml, .ref mfd, .int mf, .int sp, .int on, .int tw])), (ms, .inl (K, 889, .inl sf))] := hD
  refine lv_aload_n hx hb dX8_times_5 rfl (lv_at hl 0 rfl) ?_
  refine va_get (D := D) (ci := 8) (v := .ref ms) (C := RX8) (T := TX8) (N := 12) hx hb ht inA_X8 hown hK hP 0 rfl rfl 0 (by decide) (ht _ lf_X8_7) (fun _ h9 => h9) rfl dX8_times_6 ?_
  refine lv_bipush (v := 51) hx hb dX8_times_9 (by decide) ?_
  refine va_iald hx hb hK hP 1 0 rfl rfl (by unfold vp_in; decide) dX8_times_11 ?_
  refine k_nrm (y := 0) (show sf (51 : Int32).toNatClampNeg = 0 from hs51) ?_
  have hP9 : va_P D vwCl [(mo, .inr (8, [.ref ms, .int sv, .ref mb, .int 0, .int 0, .ref mk, .int ml, .ref mfd, .int mf, .int sp, .int on, .int tw])), (ms, .inl (K, 889, .inl sf))] H := hP.sub [0, 1] rfl
  have hD9 : va_D A [(mo, .inr (8, [.ref ms, .int sv, .ref mb, .int 0, .int 0, .ref mk, .int ml, .ref mfd, .int mf, .int sp, .int on, .int tw])), (ms, .inl (K, 889, .inl sf))] := hD.sub [0, 1] (by decide) rfl
  have hK9 : va_K D vwCl [] s := hK.sub [] rfl
  exact W.iret (v := 0) hx hb hr (fun t ht9 hW9 => ⟨⟨0, (), rfl, by first | rfl | trivial | assumption, ⟨by rw [ht9]; exact hP9, va_K.moved hW9.alike hK9, hD9⟩⟩, hS.F ht9⟩) hS.2.2 dX8_times_12
set_option maxHeartbeats 4000000 in
set_option maxRecDepth 100000 in
theorem c_M_codes (l : Launch) (D : va_G) (mo : Nat) (ms : Nat) (sv : Int32) (mb : Nat) (th : Int32) (mk : Nat) (ml : Int32) (mfd : Nat) (mf : Int32) (sp : Int32) (on : Int32) (tw : Int32) (K : ClassId) (sf : Nat → Int32) (hs0 : sf 0 = 0) (hs51 : sf 51 = 0) (hs93 : sf 93 = 4) (hs94 : sf 94 = 0) (hs125 : sf 125 = 0) (hs126 : sf 126 = 0) (sz : Nat) : k_Mi (S := Unit) l D yX8_codes cX8_codes 1 (some .int) 0 0 0 0 [.ref mo] [(mo, .inr (8, [.ref ms, .int sv, .ref mb, .int 0, .int th, .ref mk, .int ml, .ref mfd, .int mf, .int sp, .int on, .int tw])), (ms, .inl (K, 889, .inl sf))] [(K, .int)] (fun (r : Int32) (_ : Unit) => r = 0) (fun _ => [(mo, .inr (8, [.ref ms, .int sv, .ref mb, .int 0, .int 0, .ref mk, .int ml, .ref mfd, .int mf, .int sp, .int on, .int tw])), (ms, .inl (K, 889, .inl sf))]) (fun _ => []) sz := by
  refine Met.ofW (cc := cX8_codes) (maxL := 1) (ret := (some .int)) (by decide) rfl ?_
  intro p e s m args below meth c s₁ B hml hv
  obtain ⟨rfl, hsz, hP, hK, hD0, hG⟩ := hv
  have hx := B.exec
  have hb := B.bytes
  have hr := B.returns
  have ht : ∀ v9 ∈ wsA, v9.before ([.ref mo] : List Value).toArray s = true := fun v9 h9 => atoms_spec (ws := k_ws yX8_codes cX8_codes 1 (some .int)) B.pre v9 (List.mem_cons_of_mem _ h9)
  have hown : s.vm.findClass RX8 = some m.cls := findClass_of_methodNamed B.named
  have S0 : k_C p s m ([.ref mo] : List Value).toArray c cX8_codes 1 RX8 := ⟨hx, hb, hml, hown, ht⟩
  have hlocks := B.notSynchronized
  subst hsz
  have hD := hD0.self (sz := s.heap.size)
  generalize hAe : va_A [(mo, .inr (8, [.ref ms, .int sv, .ref mb, .int 0, .int th, .ref mk, .int ml, .ref mfd, .int mf, .int sp, .int on, .int tw])), (ms, .inl (K, 889, .inl sf))] s.heap.size = A at hD hG ⊢
  have hA : ∀ q : Nat, s.heap.size ≤ q → A q := fun q h => by rw [← hAe]; exact Or.inr h
  have hS : va_S A s.heap s.heap [] := va_S.rf
  have hl := lv_entry ([.ref mo]) (n := 1) (Nat.le_of_ble_eq_true rfl)
  rw [lg_entry_eq]
  generalize (lg_sl ([.ref mo]) ++ List.replicate (1 - (lg_sl ([.ref mo])).length) Slot.unset).toArray = ls at hl ⊢
  have hl : lv_has ls 1 [(0, .ref mo)] := hl
  have hP : va_P D vwCl [(mo, .inr (8, [.ref ms, .int sv, .ref mb, .int 0, .int th, .ref mk, .int ml, .ref mfd, .int mf, .int sp, .int on, .int tw])), (ms, .inl (K, 889, .inl sf))] s.heap := hP
  refine lv_aload_n hx hb dX8_codes_0 rfl (lv_at hl 0 rfl) ?_
  refine lv_iconst (v := 0) hx hb dX8_codes_1 (by decide) ?_
  refine va_put (D := D) (ci := 8) (v := .int 0) (ty := .int) (C := RX8) (T := TX8) (N := 12) hx hb ht inA_X8 tyX8 tyX8_ok nmX8 hown hK hP hD hS 0 rfl rfl 4 (by decide) (ht _ lf_X8_23) (fun _ h9 => h9) rfl (tyX8_ok 4 (by decide)) rfl rfl (Nat.le_of_ble_eq_true rfl) dX8_codes_2 (fun H locs hP hD hS => ?_)
  have hP : va_P D vwCl [(mo, .inr (8, [.ref ms, .int sv, .ref mb, .int 0, .int 0, .ref mk, .int ml, .ref mfd, .int mf, .int sp, .int on, .int tw])), (ms, .inl (K, 889, .inl sf))] H := hP
  have hD : va_D A [(mo, .inr (8, [.ref ms, .int sv, .ref mb, .int 0, .int 0, .ref mk, .int ml, .ref mfd, .int mf, .int sp, .int on, .int tw])), (ms, .inl (K, 889, .inl sf))] := hD
  refine lv_aload_n hx hb dX8_codes_5 rfl (lv_at hl 0 rfl) ?_
  refine va_get (D := D) (ci := 8) (v := .ref ms) (C := RX8) (T := TX8) (N := 12) hx hb ht inA_X8 hown hK hP 0 rfl rfl 0 (by decide) (ht _ lf_X8_7) (fun _ h9 => h9) rfl dX8_codes_6 ?_
  refine lv_bipush (v := 94) hx hb dX8_codes_9 (by decide) ?_
  refine va_iald hx hb hK hP 1 0 rfl rfl (by unfold vp_in; decide) dX8_codes_11 ?_
  refine k_nrm (y := 0) (show sf (94 : Int32).toNatClampNeg = 0 from hs94) ?_
  have hP9 : va_P D vwCl [(mo, .inr (8, [.ref ms, .int sv, .ref mb, .int 0, .int 0, .ref mk, .int ml, .ref mfd, .int mf, .int sp, .int on, .int tw])), (ms, .inl (K, 889, .inl sf))] H := hP.sub [0, 1] rfl
  have hD9 : va_D A [(mo, .inr (8, [.ref ms, .int sv, .ref mb, .int 0, .int 0, .ref mk, .int ml, .ref mfd, .int mf, .int sp, .int on, .int tw])), (ms, .inl (K, 889, .inl sf))] := hD.sub [0, 1] (by decide) rfl
  have hK9 : va_K D vwCl [] s := hK.sub [] rfl
  exact W.iret (v := 0) hx hb hr (fun t ht9 hW9 => ⟨⟨0, (), rfl, by first | rfl | trivial | assumption, ⟨by rw [ht9]; exact hP9, va_K.moved hW9.alike hK9, hD9⟩⟩, hS.F ht9⟩) hS.2.2 dX8_codes_12
set_option maxHeartbeats 4000000 in
set_option maxRecDepth 100000 in
theorem c_M_successes (l : Launch) (D : va_G) (mo : Nat) (ms : Nat) (sv : Int32) (mb : Nat) (th : Int32) (mk : Nat) (ml : Int32) (mfd : Nat) (mf : Int32) (sp : Int32) (on : Int32) (tw : Int32) (K : ClassId) (sf : Nat → Int32) (hs0 : sf 0 = 0) (hs51 : sf 51 = 0) (hs93 : sf 93 = 4) (hs94 : sf 94 = 0) (hs125 : sf 125 = 0) (hs126 : sf 126 = 0) (sz : Nat) : k_Mi (S := Unit) l D yX8_successes cX8_successes 1 (some .int) 0 0 0 0 [.ref mo] [(mo, .inr (8, [.ref ms, .int sv, .ref mb, .int 0, .int th, .ref mk, .int ml, .ref mfd, .int mf, .int sp, .int on, .int tw])), (ms, .inl (K, 889, .inl sf))] [(K, .int)] (fun (r : Int32) (_ : Unit) => r = 0) (fun _ => [(mo, .inr (8, [.ref ms, .int sv, .ref mb, .int 0, .int 0, .ref mk, .int ml, .ref mfd, .int mf, .int sp, .int on, .int tw])), (ms, .inl (K, 889, .inl sf))]) (fun _ => []) sz := by
  refine Met.ofW (cc := cX8_successes) (maxL := 1) (ret := (some .int)) (by decide) rfl ?_
  intro p e s m args below meth c s₁ B hml hv
  obtain ⟨rfl, hsz, hP, hK, hD0, hG⟩ := hv
  have hx := B.exec
  have hb := B.bytes
  have hr := B.returns
  have ht : ∀ v9 ∈ wsA, v9.before ([.ref mo] : List Value).toArray s = true := fun v9 h9 => atoms_spec (ws := k_ws yX8_successes cX8_successes 1 (some .int)) B.pre v9 (List.mem_cons_of_mem _ h9)
  have hown : s.vm.findClass RX8 = some m.cls := findClass_of_methodNamed B.named
  have S0 : k_C p s m ([.ref mo] : List Value).toArray c cX8_successes 1 RX8 := ⟨hx, hb, hml, hown, ht⟩
  have hlocks := B.notSynchronized
  subst hsz
  have hD := hD0.self (sz := s.heap.size)
  generalize hAe : va_A [(mo, .inr (8, [.ref ms, .int sv, .ref mb, .int 0, .int th, .ref mk, .int ml, .ref mfd, .int mf, .int sp, .int on, .int tw])), (ms, .inl (K, 889, .inl sf))] s.heap.size = A at hD hG ⊢
  have hA : ∀ q : Nat, s.heap.size ≤ q → A q := fun q h => by rw [← hAe]; exact Or.inr h
  have hS : va_S A s.heap s.heap [] := va_S.rf
  have hl := lv_entry ([.ref mo]) (n := 1) (Nat.le_of_ble_eq_true rfl)
  rw [lg_entry_eq]
  generalize (lg_sl ([.ref mo]) ++ List.replicate (1 - (lg_sl ([.ref mo])).length) Slot.unset).toArray = ls at hl ⊢
  have hl : lv_has ls 1 [(0, .ref mo)] := hl
  have hP : va_P D vwCl [(mo, .inr (8, [.ref ms, .int sv, .ref mb, .int 0, .int th, .ref mk, .int ml, .ref mfd, .int mf, .int sp, .int on, .int tw])), (ms, .inl (K, 889, .inl sf))] s.heap := hP
  refine lv_aload_n hx hb dX8_successes_0 rfl (lv_at hl 0 rfl) ?_
  refine lv_iconst (v := 0) hx hb dX8_successes_1 (by decide) ?_
  refine va_put (D := D) (ci := 8) (v := .int 0) (ty := .int) (C := RX8) (T := TX8) (N := 12) hx hb ht inA_X8 tyX8 tyX8_ok nmX8 hown hK hP hD hS 0 rfl rfl 4 (by decide) (ht _ lf_X8_23) (fun _ h9 => h9) rfl (tyX8_ok 4 (by decide)) rfl rfl (Nat.le_of_ble_eq_true rfl) dX8_successes_2 (fun H locs hP hD hS => ?_)
  have hP : va_P D vwCl [(mo, .inr (8, [.ref ms, .int sv, .ref mb, .int 0, .int 0, .ref mk, .int ml, .ref mfd, .int mf, .int sp, .int on, .int tw])), (ms, .inl (K, 889, .inl sf))] H := hP
  have hD : va_D A [(mo, .inr (8, [.ref ms, .int sv, .ref mb, .int 0, .int 0, .ref mk, .int ml, .ref mfd, .int mf, .int sp, .int on, .int tw])), (ms, .inl (K, 889, .inl sf))] := hD
  refine lv_aload_n hx hb dX8_successes_5 rfl (lv_at hl 0 rfl) ?_
  refine va_get (D := D) (ci := 8) (v := .ref ms) (C := RX8) (T := TX8) (N := 12) hx hb ht inA_X8 hown hK hP 0 rfl rfl 0 (by decide) (ht _ lf_X8_7) (fun _ h9 => h9) rfl dX8_successes_6 ?_
  refine lv_bipush (v := 125) hx hb dX8_successes_9 (by decide) ?_
  refine va_iald hx hb hK hP 1 0 rfl rfl (by unfold vp_in; decide) dX8_successes_11 ?_
  refine k_nrm (y := 0) (show sf (125 : Int32).toNatClampNeg = 0 from hs125) ?_
  have hP9 : va_P D vwCl [(mo, .inr (8, [.ref ms, .int sv, .ref mb, .int 0, .int 0, .ref mk, .int ml, .ref mfd, .int mf, .int sp, .int on, .int tw])), (ms, .inl (K, 889, .inl sf))] H := hP.sub [0, 1] rfl
  have hD9 : va_D A [(mo, .inr (8, [.ref ms, .int sv, .ref mb, .int 0, .int 0, .ref mk, .int ml, .ref mfd, .int mf, .int sp, .int on, .int tw])), (ms, .inl (K, 889, .inl sf))] := hD.sub [0, 1] (by decide) rfl
  have hK9 : va_K D vwCl [] s := hK.sub [] rfl
  exact W.iret (v := 0) hx hb hr (fun t ht9 hW9 => ⟨⟨0, (), rfl, by first | rfl | trivial | assumption, ⟨by rw [ht9]; exact hP9, va_K.moved hW9.alike hK9, hD9⟩⟩, hS.F ht9⟩) hS.2.2 dX8_successes_12
set_option maxHeartbeats 4000000 in
set_option maxRecDepth 100000 in
theorem c_M_failures (l : Launch) (D : va_G) (mo : Nat) (ms : Nat) (sv : Int32) (mb : Nat) (th : Int32) (mk : Nat) (ml : Int32) (mfd : Nat) (mf : Int32) (sp : Int32) (on : Int32) (tw : Int32) (K : ClassId) (sf : Nat → Int32) (hs0 : sf 0 = 0) (hs51 : sf 51 = 0) (hs93 : sf 93 = 4) (hs94 : sf 94 = 0) (hs125 : sf 125 = 0) (hs126 : sf 126 = 0) (sz : Nat) : k_Mi (S := Unit) l D yX8_failures cX8_failures 1 (some .int) 0 0 0 0 [.ref mo] [(mo, .inr (8, [.ref ms, .int sv, .ref mb, .int 0, .int th, .ref mk, .int ml, .ref mfd, .int mf, .int sp, .int on, .int tw])), (ms, .inl (K, 889, .inl sf))] [(K, .int)] (fun (r : Int32) (_ : Unit) => r = 0) (fun _ => [(mo, .inr (8, [.ref ms, .int sv, .ref mb, .int 0, .int 0, .ref mk, .int ml, .ref mfd, .int mf, .int sp, .int on, .int tw])), (ms, .inl (K, 889, .inl sf))]) (fun _ => []) sz := by
  refine Met.ofW (cc := cX8_failures) (maxL := 1) (ret := (some .int)) (by decide) rfl ?_
  intro p e s m args below meth c s₁ B hml hv
  obtain ⟨rfl, hsz, hP, hK, hD0, hG⟩ := hv
  have hx := B.exec
  have hb := B.bytes
  have hr := B.returns
  have ht : ∀ v9 ∈ wsA, v9.before ([.ref mo] : List Value).toArray s = true := fun v9 h9 => atoms_spec (ws := k_ws yX8_failures cX8_failures 1 (some .int)) B.pre v9 (List.mem_cons_of_mem _ h9)
  have hown : s.vm.findClass RX8 = some m.cls := findClass_of_methodNamed B.named
  have S0 : k_C p s m ([.ref mo] : List Value).toArray c cX8_failures 1 RX8 := ⟨hx, hb, hml, hown, ht⟩
  have hlocks := B.notSynchronized
  subst hsz
  have hD := hD0.self (sz := s.heap.size)
  generalize hAe : va_A [(mo, .inr (8, [.ref ms, .int sv, .ref mb, .int 0, .int th, .ref mk, .int ml, .ref mfd, .int mf, .int sp, .int on, .int tw])), (ms, .inl (K, 889, .inl sf))] s.heap.size = A at hD hG ⊢
  have hA : ∀ q : Nat, s.heap.size ≤ q → A q := fun q h => by rw [← hAe]; exact Or.inr h
  have hS : va_S A s.heap s.heap [] := va_S.rf
  have hl := lv_entry ([.ref mo]) (n := 1) (Nat.le_of_ble_eq_true rfl)
  rw [lg_entry_eq]
  generalize (lg_sl ([.ref mo]) ++ List.replicate (1 - (lg_sl ([.ref mo])).length) Slot.unset).toArray = ls at hl ⊢
  have hl : lv_has ls 1 [(0, .ref mo)] := hl
  have hP : va_P D vwCl [(mo, .inr (8, [.ref ms, .int sv, .ref mb, .int 0, .int th, .ref mk, .int ml, .ref mfd, .int mf, .int sp, .int on, .int tw])), (ms, .inl (K, 889, .inl sf))] s.heap := hP
  refine lv_aload_n hx hb dX8_failures_0 rfl (lv_at hl 0 rfl) ?_
  refine lv_iconst (v := 0) hx hb dX8_failures_1 (by decide) ?_
  refine va_put (D := D) (ci := 8) (v := .int 0) (ty := .int) (C := RX8) (T := TX8) (N := 12) hx hb ht inA_X8 tyX8 tyX8_ok nmX8 hown hK hP hD hS 0 rfl rfl 4 (by decide) (ht _ lf_X8_23) (fun _ h9 => h9) rfl (tyX8_ok 4 (by decide)) rfl rfl (Nat.le_of_ble_eq_true rfl) dX8_failures_2 (fun H locs hP hD hS => ?_)
  have hP : va_P D vwCl [(mo, .inr (8, [.ref ms, .int sv, .ref mb, .int 0, .int 0, .ref mk, .int ml, .ref mfd, .int mf, .int sp, .int on, .int tw])), (ms, .inl (K, 889, .inl sf))] H := hP
  have hD : va_D A [(mo, .inr (8, [.ref ms, .int sv, .ref mb, .int 0, .int 0, .ref mk, .int ml, .ref mfd, .int mf, .int sp, .int on, .int tw])), (ms, .inl (K, 889, .inl sf))] := hD
  refine lv_aload_n hx hb dX8_failures_5 rfl (lv_at hl 0 rfl) ?_
  refine va_get (D := D) (ci := 8) (v := .ref ms) (C := RX8) (T := TX8) (N := 12) hx hb ht inA_X8 hown hK hP 0 rfl rfl 0 (by decide) (ht _ lf_X8_7) (fun _ h9 => h9) rfl dX8_failures_6 ?_
  refine lv_bipush (v := 126) hx hb dX8_failures_9 (by decide) ?_
  refine va_iald hx hb hK hP 1 0 rfl rfl (by unfold vp_in; decide) dX8_failures_11 ?_
  refine k_nrm (y := 0) (show sf (126 : Int32).toNatClampNeg = 0 from hs126) ?_
  have hP9 : va_P D vwCl [(mo, .inr (8, [.ref ms, .int sv, .ref mb, .int 0, .int 0, .ref mk, .int ml, .ref mfd, .int mf, .int sp, .int on, .int tw])), (ms, .inl (K, 889, .inl sf))] H := hP.sub [0, 1] rfl
  have hD9 : va_D A [(mo, .inr (8, [.ref ms, .int sv, .ref mb, .int 0, .int 0, .ref mk, .int ml, .ref mfd, .int mf, .int sp, .int on, .int tw])), (ms, .inl (K, 889, .inl sf))] := hD.sub [0, 1] (by decide) rfl
  have hK9 : va_K D vwCl [] s := hK.sub [] rfl
  exact W.iret (v := 0) hx hb hr (fun t ht9 hW9 => ⟨⟨0, (), rfl, by first | rfl | trivial | assumption, ⟨by rw [ht9]; exact hP9, va_K.moved hW9.alike hK9, hD9⟩⟩, hS.F ht9⟩) hS.2.2 dX8_failures_12
set_option maxHeartbeats 4000000 in
set_option maxRecDepth 100000 in
theorem c_M_saved (l : Launch) (D : va_G) (mo : Nat) (ms : Nat) (sv : Int32) (mb : Nat) (th : Int32) (mk : Nat) (ml : Int32) (mfd : Nat) (mf : Int32) (sp : Int32) (on : Int32) (tw : Int32) (sz : Nat) : k_Mi (S := Unit) l D yX8_savedStates cX8_savedStates 1 (some .int) 0 0 0 0 [.ref mo] [(mo, .inr (8, [.ref ms, .int sv, .ref mb, .int 0, .int th, .ref mk, .int ml, .ref mfd, .int mf, .int sp, .int on, .int tw]))] [] (fun (r : Int32) (_ : Unit) => r = sv) (fun _ => [(mo, .inr (8, [.ref ms, .int sv, .ref mb, .int 0, .int 0, .ref mk, .int ml, .ref mfd, .int mf, .int sp, .int on, .int tw]))]) (fun _ => []) sz := by
  refine Met.ofW (cc := cX8_savedStates) (maxL := 1) (ret := (some .int)) (by decide) rfl ?_
  intro p e s m args below meth c s₁ B hml hv
  obtain ⟨rfl, hsz, hP, hK, hD0, hG⟩ := hv
  have hx := B.exec
  have hb := B.bytes
  have hr := B.returns
  have ht : ∀ v9 ∈ wsA, v9.before ([.ref mo] : List Value).toArray s = true := fun v9 h9 => atoms_spec (ws := k_ws yX8_savedStates cX8_savedStates 1 (some .int)) B.pre v9 (List.mem_cons_of_mem _ h9)
  have hown : s.vm.findClass RX8 = some m.cls := findClass_of_methodNamed B.named
  have S0 : k_C p s m ([.ref mo] : List Value).toArray c cX8_savedStates 1 RX8 := ⟨hx, hb, hml, hown, ht⟩
  have hlocks := B.notSynchronized
  subst hsz
  have hD := hD0.self (sz := s.heap.size)
  generalize hAe : va_A [(mo, .inr (8, [.ref ms, .int sv, .ref mb, .int 0, .int th, .ref mk, .int ml, .ref mfd, .int mf, .int sp, .int on, .int tw]))] s.heap.size = A at hD hG ⊢
  have hA : ∀ q : Nat, s.heap.size ≤ q → A q := fun q h => by rw [← hAe]; exact Or.inr h
  have hS : va_S A s.heap s.heap [] := va_S.rf
  have hl := lv_entry ([.ref mo]) (n := 1) (Nat.le_of_ble_eq_true rfl)
  rw [lg_entry_eq]
  generalize (lg_sl ([.ref mo]) ++ List.replicate (1 - (lg_sl ([.ref mo])).length) Slot.unset).toArray = ls at hl ⊢
  have hl : lv_has ls 1 [(0, .ref mo)] := hl
  have hP : va_P D vwCl [(mo, .inr (8, [.ref ms, .int sv, .ref mb, .int 0, .int th, .ref mk, .int ml, .ref mfd, .int mf, .int sp, .int on, .int tw]))] s.heap := hP
  refine lv_aload_n hx hb dX8_savedStates_0 rfl (lv_at hl 0 rfl) ?_
  refine lv_iconst (v := 0) hx hb dX8_savedStates_1 (by decide) ?_
  refine va_put (D := D) (ci := 8) (v := .int 0) (ty := .int) (C := RX8) (T := TX8) (N := 12) hx hb ht inA_X8 tyX8 tyX8_ok nmX8 hown hK hP hD hS 0 rfl rfl 4 (by decide) (ht _ lf_X8_23) (fun _ h9 => h9) rfl (tyX8_ok 4 (by decide)) rfl rfl (Nat.le_of_ble_eq_true rfl) dX8_savedStates_2 (fun H locs hP hD hS => ?_)
  have hP : va_P D vwCl [(mo, .inr (8, [.ref ms, .int sv, .ref mb, .int 0, .int 0, .ref mk, .int ml, .ref mfd, .int mf, .int sp, .int on, .int tw]))] H := hP
  have hD : va_D A [(mo, .inr (8, [.ref ms, .int sv, .ref mb, .int 0, .int 0, .ref mk, .int ml, .ref mfd, .int mf, .int sp, .int on, .int tw]))] := hD
  refine lv_aload_n hx hb dX8_savedStates_5 rfl (lv_at hl 0 rfl) ?_
  refine va_get (D := D) (ci := 8) (v := .int sv) (C := RX8) (T := TX8) (N := 12) hx hb ht inA_X8 hown hK hP 0 rfl rfl 1 (by decide) (ht _ lf_X8_27) (fun _ h9 => h9) rfl dX8_savedStates_6 ?_
  have hP9 : va_P D vwCl [(mo, .inr (8, [.ref ms, .int sv, .ref mb, .int 0, .int 0, .ref mk, .int ml, .ref mfd, .int mf, .int sp, .int on, .int tw]))] H := hP.sub [0] rfl
  have hD9 : va_D A [(mo, .inr (8, [.ref ms, .int sv, .ref mb, .int 0, .int 0, .ref mk, .int ml, .ref mfd, .int mf, .int sp, .int on, .int tw]))] := hD.sub [0] (by decide) rfl
  have hK9 : va_K D vwCl [] s := hK.sub [] rfl
  exact W.iret (v := sv) hx hb hr (fun t ht9 hW9 => ⟨⟨sv, (), rfl, by first | rfl | trivial | assumption, ⟨by rw [ht9]; exact hP9, va_K.moved hW9.alike hK9, hD9⟩⟩, hS.F ht9⟩) hS.2.2 dX8_savedStates_9
set_option maxHeartbeats 4000000 in
set_option maxRecDepth 100000 in
theorem c_M_width (l : Launch) (D : va_G) (mo : Nat) (ms : Nat) (sv : Int32) (mb : Nat) (th : Int32) (mk : Nat) (ml : Int32) (mfd : Nat) (mf : Int32) (sp : Int32) (on : Int32) (tw : Int32) (K : ClassId) (sf : Nat → Int32) (i : Int32) (hs0 : sf 0 = 0) (hs51 : sf 51 = 0) (hs93 : sf 93 = 4) (hs94 : sf 94 = 0) (hs125 : sf 125 = 0) (hs126 : sf 126 = 0) (sz : Nat) : k_Mi (S := Unit) l D yX8_width cX8_width 2 (some .int) 2 0 0 43 [.ref mo, .int i] [(mo, .inr (8, [.ref ms, .int sv, .ref mb, .int 0, .int th, .ref mk, .int ml, .ref mfd, .int mf, .int sp, .int on, .int tw])), (ms, .inl (K, 889, .inl sf))] [(K, .int)] (fun (r : Int32) (_ : Unit) => r = 0) (fun _ => [(mo, .inr (8, [.ref ms, .int sv, .ref mb, .int 0, .int 1, .ref mk, .int ml, .ref mfd, .int mf, .int sp, .int on, .int tw])), (ms, .inl (K, 889, .inl sf))]) (fun _ => []) sz := by
  refine Met.ofW (cc := cX8_width) (maxL := 2) (ret := (some .int)) (by decide) rfl ?_
  intro p e s m args below meth c s₁ B hml hv
  obtain ⟨rfl, hsz, hP, hK, hD0, hG⟩ := hv
  have hx := B.exec
  have hb := B.bytes
  have hr := B.returns
  have ht : ∀ v9 ∈ wsA, v9.before ([.ref mo, .int i] : List Value).toArray s = true := fun v9 h9 => atoms_spec (ws := k_ws yX8_width cX8_width 2 (some .int)) B.pre v9 (List.mem_cons_of_mem _ h9)
  have hown : s.vm.findClass RX8 = some m.cls := findClass_of_methodNamed B.named
  have S0 : k_C p s m ([.ref mo, .int i] : List Value).toArray c cX8_width 2 RX8 := ⟨hx, hb, hml, hown, ht⟩
  have hlocks := B.notSynchronized
  subst hsz
  have hD := hD0.self (sz := s.heap.size)
  generalize hAe : va_A [(mo, .inr (8, [.ref ms, .int sv, .ref mb, .int 0, .int th, .ref mk, .int ml, .ref mfd, .int mf, .int sp, .int on, .int tw])), (ms, .inl (K, 889, .inl sf))] s.heap.size = A at hD hG ⊢
  have hA : ∀ q : Nat, s.heap.size ≤ q → A q := fun q h => by rw [← hAe]; exact Or.inr h
  have hS : va_S A s.heap s.heap [] := va_S.rf
  have hl := lv_entry ([.ref mo, .int i]) (n := 2) (Nat.le_of_ble_eq_true rfl)
  rw [lg_entry_eq]
  generalize (lg_sl ([.ref mo, .int i]) ++ List.replicate (2 - (lg_sl ([.ref mo, .int i])).length) Slot.unset).toArray = ls at hl ⊢
  have hl : lv_has ls 2 [(0, .ref mo), (1, .int i)] := hl
  have hP : va_P D vwCl [(mo, .inr (8, [.ref ms, .int sv, .ref mb, .int 0, .int th, .ref mk, .int ml, .ref mfd, .int mf, .int sp, .int on, .int tw])), (ms, .inl (K, 889, .inl sf))] s.heap := hP
  refine lv_aload_n hx hb dX8_width_0 rfl (lv_at hl 0 rfl) ?_
  refine lv_aload_n hx hb dX8_width_1 rfl (lv_at hl 0 rfl) ?_
  refine lv_iload_n hx hb dX8_width_2 rfl (lv_at hl 1 rfl) ?_
  have ct := k_cut_of (wc := [(mo, .inr (8, [.ref ms, .int sv, .ref mb, .int 0, .int th, .ref mk, .int ml, .ref mfd, .int mf, .int sp, .int on, .int tw])), (ms, .inl (K, 889, .inl sf))]) (wr := []) (tc := [(K, .int)]) hG hS hA hK hP hD [0, 1] [] [0] rfl rfl (by decide) (by decide) (by decide) rfl
  refine k_endi (As := [.ref mo, .int i]) ct (k_runV (As := [.int i]) (rest := [.ref mo]) S0 Lv_X8_68 rfl (ci := 8) (q0 := 0) rfl rfl ct (c_M_isElement l D mo ms sv mb th mk ml mfd mf sp on tw K sf i (by first | assumption | exact (cpf_lo (by decide)).trans (by assumption)) (by first | assumption | exact (cpf_lo (by decide)).trans (by assumption)) (by first | assumption | exact (cpf_lo (by decide)).trans (by assumption)) (by first | assumption | exact (cpf_lo (by decide)).trans (by assumption)) (by first | assumption | exact (cpf_lo (by decide)).trans (by assumption)) (by first | assumption | exact (cpf_lo (by decide)).trans (by assumption)) s.heap.size) hl.1 rfl (Nat.le_of_ble_eq_true rfl) rfl dX8_width_3 ⟨⟨Nat.le_of_ble_eq_true rfl, Nat.le_of_ble_eq_true rfl⟩, Nat.le_of_ble_eq_true rfl, Nat.le_of_ble_eq_true rfl⟩) rfl rfl (fun r_1 _ H locs hw_2 hP hD hK hS => ?_)
  have hK : va_K D vwCl [(K, .int)] s := hK
  have hP : va_P D vwCl [(mo, .inr (8, [.ref ms, .int sv, .ref mb, .int 0, .int th, .ref mk, .int ml, .ref mfd, .int mf, .int sp, .int on, .int tw])), (ms, .inl (K, 889, .inl sf))] H := hP
  have hD : va_D A [(mo, .inr (8, [.ref ms, .int sv, .ref mb, .int 0, .int th, .ref mk, .int ml, .ref mfd, .int mf, .int sp, .int on, .int tw])), (ms, .inl (K, 889, .inl sf))] := hD
  have hw_2 : r_1 = 0 := hw_2
  have hw_2 := hw_2.symm
  subst hw_2
  refine k_nrm (y := 0) rfl ?_
  refine lv_iconst (v := 1) hx hb dX8_width_6 (by decide) ?_
  have ct := k_cut_of (wc := [(mo, .inr (8, [.ref ms, .int sv, .ref mb, .int 0, .int th, .ref mk, .int ml, .ref mfd, .int mf, .int sp, .int on, .int tw]))]) (wr := [(ms, .inl (K, 889, .inl sf))]) (tc := []) hG hS hA hK hP hD [0] [1] [] rfl rfl (by decide) (by decide) (by decide) rfl
  refine k_endi (As := [.ref mo, .int 0, .int 1]) ct (k_runV (As := [.int 0, .int 1]) (rest := []) S0 Lv_X8_58 rfl (ci := 8) (q0 := 0) rfl rfl ct (c_M_goes0 l D mo ms sv mb th mk ml mfd mf sp on tw 1 H.size) hl.1 rfl (Nat.le_of_ble_eq_true rfl) rfl dX8_width_7 ⟨⟨Nat.le_of_ble_eq_true rfl, Nat.le_of_ble_eq_true rfl⟩, Nat.le_of_ble_eq_true rfl, Nat.le_of_ble_eq_true rfl⟩) rfl rfl (fun r_3 _ H locs hw_4 hP hD hK hS => ?_)
  have hK : va_K D vwCl [(K, .int)] s := hK
  have hP : va_P D vwCl [(ms, .inl (K, 889, .inl sf)), (mo, .inr (8, [.ref ms, .int sv, .ref mb, .int 0, .int 1, .ref mk, .int ml, .ref mfd, .int mf, .int sp, .int on, .int tw]))] H := hP
  have hD : va_D A [(ms, .inl (K, 889, .inl sf)), (mo, .inr (8, [.ref ms, .int sv, .ref mb, .int 0, .int 1, .ref mk, .int ml, .ref mfd, .int mf, .int sp, .int on, .int tw]))] := hD
  have hw_4 : r_3 = 0 := hw_4
  have hw_4 := hw_4.symm
  subst hw_4
  refine k_nrm (y := 0) rfl ?_
  refine lv_if_eq (tgt := 21) hx hb dX8_width_10 (by decide) (fun _ => ?_) (fun c9 => absurd (by decide) c9)
  refine lv_iconst (v := 0) hx hb dX8_width_21 (by decide) ?_
  have hP9 : va_P D vwCl [(mo, .inr (8, [.ref ms, .int sv, .ref mb, .int 0, .int 1, .ref mk, .int ml, .ref mfd, .int mf, .int sp, .int on, .int tw])), (ms, .inl (K, 889, .inl sf))] H := hP.sub [1, 0] rfl
  have hD9 : va_D A [(mo, .inr (8, [.ref ms, .int sv, .ref mb, .int 0, .int 1, .ref mk, .int ml, .ref mfd, .int mf, .int sp, .int on, .int tw])), (ms, .inl (K, 889, .inl sf))] := hD.sub [1, 0] (by decide) rfl
  have hK9 : va_K D vwCl [] s := hK.sub [] rfl
  exact W.iret (v := 0) hx hb hr (fun t ht9 hW9 => ⟨⟨0, (), rfl, by first | rfl | trivial | assumption, ⟨by rw [ht9]; exact hP9, va_K.moved hW9.alike hK9, hD9⟩⟩, hS.F ht9⟩) hS.2.2 dX8_width_22
set_option maxHeartbeats 4000000 in
set_option maxRecDepth 100000 in
theorem c_M_labelDigit (l : Launch) (D : va_G) (mo : Nat) (ms : Nat) (sv : Int32) (mb : Nat) (th : Int32) (mk : Nat) (ml : Int32) (mfd : Nat) (mf : Int32) (sp : Int32) (on : Int32) (tw : Int32) (K : ClassId) (sf : Nat → Int32) (i : Int32) (hs0 : sf 0 = 0) (hs51 : sf 51 = 0) (hs93 : sf 93 = 4) (hs94 : sf 94 = 0) (hs125 : sf 125 = 0) (hs126 : sf 126 = 0) (sz : Nat) : k_Mi (S := Unit) l D yX8_labelDigit cX8_labelDigit 2 (some .int) 1 0 0 22 [.ref mo, .int i] [(mo, .inr (8, [.ref ms, .int sv, .ref mb, .int 0, .int th, .ref mk, .int ml, .ref mfd, .int mf, .int sp, .int on, .int tw])), (ms, .inl (K, 889, .inl sf))] [(K, .int)] (fun (r : Int32) (_ : Unit) => r = 0) (fun _ => [(mo, .inr (8, [.ref ms, .int sv, .ref mb, .int 0, .int 1, .ref mk, .int ml, .ref mfd, .int mf, .int sp, .int on, .int tw])), (ms, .inl (K, 889, .inl sf))]) (fun _ => []) sz := by
  refine Met.ofW (cc := cX8_labelDigit) (maxL := 2) (ret := (some .int)) (by decide) rfl ?_
  intro p e s m args below meth c s₁ B hml hv
  obtain ⟨rfl, hsz, hP, hK, hD0, hG⟩ := hv
  have hx := B.exec
  have hb := B.bytes
  have hr := B.returns
  have ht : ∀ v9 ∈ wsA, v9.before ([.ref mo, .int i] : List Value).toArray s = true := fun v9 h9 => atoms_spec (ws := k_ws yX8_labelDigit cX8_labelDigit 2 (some .int)) B.pre v9 (List.mem_cons_of_mem _ h9)
  have hown : s.vm.findClass RX8 = some m.cls := findClass_of_methodNamed B.named
  have S0 : k_C p s m ([.ref mo, .int i] : List Value).toArray c cX8_labelDigit 2 RX8 := ⟨hx, hb, hml, hown, ht⟩
  have hlocks := B.notSynchronized
  subst hsz
  have hD := hD0.self (sz := s.heap.size)
  generalize hAe : va_A [(mo, .inr (8, [.ref ms, .int sv, .ref mb, .int 0, .int th, .ref mk, .int ml, .ref mfd, .int mf, .int sp, .int on, .int tw])), (ms, .inl (K, 889, .inl sf))] s.heap.size = A at hD hG ⊢
  have hA : ∀ q : Nat, s.heap.size ≤ q → A q := fun q h => by rw [← hAe]; exact Or.inr h
  have hS : va_S A s.heap s.heap [] := va_S.rf
  have hl := lv_entry ([.ref mo, .int i]) (n := 2) (Nat.le_of_ble_eq_true rfl)
  rw [lg_entry_eq]
  generalize (lg_sl ([.ref mo, .int i]) ++ List.replicate (2 - (lg_sl ([.ref mo, .int i])).length) Slot.unset).toArray = ls at hl ⊢
  have hl : lv_has ls 2 [(0, .ref mo), (1, .int i)] := hl
  have hP : va_P D vwCl [(mo, .inr (8, [.ref ms, .int sv, .ref mb, .int 0, .int th, .ref mk, .int ml, .ref mfd, .int mf, .int sp, .int on, .int tw])), (ms, .inl (K, 889, .inl sf))] s.heap := hP
  refine lv_aload_n hx hb dX8_labelDigit_0 rfl (lv_at hl 0 rfl) ?_
  refine lv_iload_n hx hb dX8_labelDigit_1 rfl (lv_at hl 1 rfl) ?_
  refine lv_iconst (v := 0) hx hb dX8_labelDigit_2 (by decide) ?_
  refine lv_aload_n hx hb dX8_labelDigit_3 rfl (lv_at hl 0 rfl) ?_
  refine va_get (D := D) (ci := 8) (v := .ref ms) (C := RX8) (T := TX8) (N := 12) hx hb ht inA_X8 hown hK hP 0 rfl rfl 0 (by decide) (ht _ lf_X8_7) (fun _ h9 => h9) rfl dX8_labelDigit_4 ?_
  refine lv_iconst (v := 0) hx hb dX8_labelDigit_7 (by decide) ?_
  refine va_iald hx hb hK hP 1 0 rfl rfl (by unfold vp_in; decide) dX8_labelDigit_8 ?_
  refine k_nrm (y := 0) (show sf (0 : Int32).toNatClampNeg = 0 from hs0) ?_
  refine lv_iconst (v := 1) hx hb dX8_labelDigit_9 (by decide) ?_
  refine lv_isub hx hb dX8_labelDigit_10 ?_
  refine k_nrm (y := (-1)) (by decide) ?_
  have ct := k_cut_of (wc := []) (wr := [(mo, .inr (8, [.ref ms, .int sv, .ref mb, .int 0, .int th, .ref mk, .int ml, .ref mfd, .int mf, .int sp, .int on, .int tw])), (ms, .inl (K, 889, .inl sf))]) (tc := []) hG hS hA hK hP hD [] [0, 1] [] rfl rfl (by decide) (by decide) (by decide) rfl
  refine k_endi (As := [.int i, .int 0, .int (-1)]) ct (k_runS (As := [.int i, .int 0, .int (-1)]) (rest := [.ref mo]) S0 Ls_X8_46 ct (c_M_in_n1 l D i s.heap.size) hl.1 rfl (Nat.le_of_ble_eq_true rfl) rfl dX8_labelDigit_11 ⟨⟨Nat.le_of_ble_eq_true rfl, Nat.le_of_ble_eq_true rfl⟩, Nat.le_of_ble_eq_true rfl, Nat.le_of_ble_eq_true rfl⟩) rfl rfl (fun r_1 _ H locs hw_2 hP hD hK hS => ?_)
  have hK : va_K D vwCl [(K, .int)] s := hK
  have hP : va_P D vwCl [(mo, .inr (8, [.ref ms, .int sv, .ref mb, .int 0, .int th, .ref mk, .int ml, .ref mfd, .int mf, .int sp, .int on, .int tw])), (ms, .inl (K, 889, .inl sf))] H := hP
  have hD : va_D A [(mo, .inr (8, [.ref ms, .int sv, .ref mb, .int 0, .int th, .ref mk, .int ml, .ref mfd, .int mf, .int sp, .int on, .int tw])), (ms, .inl (K, 889, .inl sf))] := hD
  have hw_2 : r_1 = 0 := hw_2
  have hw_2 := hw_2.symm
  subst hw_2
  refine k_nrm (y := 0) rfl ?_
  refine lv_iconst (v := 1) hx hb dX8_labelDigit_14 (by decide) ?_
  have ct := k_cut_of (wc := [(mo, .inr (8, [.ref ms, .int sv, .ref mb, .int 0, .int th, .ref mk, .int ml, .ref mfd, .int mf, .int sp, .int on, .int tw]))]) (wr := [(ms, .inl (K, 889, .inl sf))]) (tc := []) hG hS hA hK hP hD [0] [1] [] rfl rfl (by decide) (by decide) (by decide) rfl
  refine k_endi (As := [.ref mo, .int 0, .int 1]) ct (k_runV (As := [.int 0, .int 1]) (rest := []) S0 Lv_X8_58 rfl (ci := 8) (q0 := 0) rfl rfl ct (c_M_goes0 l D mo ms sv mb th mk ml mfd mf sp on tw 1 H.size) hl.1 rfl (Nat.le_of_ble_eq_true rfl) rfl dX8_labelDigit_15 ⟨⟨Nat.le_of_ble_eq_true rfl, Nat.le_of_ble_eq_true rfl⟩, Nat.le_of_ble_eq_true rfl, Nat.le_of_ble_eq_true rfl⟩) rfl rfl (fun r_3 _ H locs hw_4 hP hD hK hS => ?_)
  have hK : va_K D vwCl [(K, .int)] s := hK
  have hP : va_P D vwCl [(ms, .inl (K, 889, .inl sf)), (mo, .inr (8, [.ref ms, .int sv, .ref mb, .int 0, .int 1, .ref mk, .int ml, .ref mfd, .int mf, .int sp, .int on, .int tw]))] H := hP
  have hD : va_D A [(ms, .inl (K, 889, .inl sf)), (mo, .inr (8, [.ref ms, .int sv, .ref mb, .int 0, .int 1, .ref mk, .int ml, .ref mfd, .int mf, .int sp, .int on, .int tw]))] := hD
  have hw_4 : r_3 = 0 := hw_4
  have hw_4 := hw_4.symm
  subst hw_4
  refine k_nrm (y := 0) rfl ?_
  refine lv_if_eq (tgt := 32) hx hb dX8_labelDigit_18 (by decide) (fun _ => ?_) (fun c9 => absurd (by decide) c9)
  refine lv_iconst (v := 0) hx hb dX8_labelDigit_32 (by decide) ?_
  have hP9 : va_P D vwCl [(mo, .inr (8, [.ref ms, .int sv, .ref mb, .int 0, .int 1, .ref mk, .int ml, .ref mfd, .int mf, .int sp, .int on, .int tw])), (ms, .inl (K, 889, .inl sf))] H := hP.sub [1, 0] rfl
  have hD9 : va_D A [(mo, .inr (8, [.ref ms, .int sv, .ref mb, .int 0, .int 1, .ref mk, .int ml, .ref mfd, .int mf, .int sp, .int on, .int tw])), (ms, .inl (K, 889, .inl sf))] := hD.sub [1, 0] (by decide) rfl
  have hK9 : va_K D vwCl [] s := hK.sub [] rfl
  exact W.iret (v := 0) hx hb hr (fun t ht9 hW9 => ⟨⟨0, (), rfl, by first | rfl | trivial | assumption, ⟨by rw [ht9]; exact hP9, va_K.moved hW9.alike hK9, hD9⟩⟩, hS.F ht9⟩) hS.2.2 dX8_labelDigit_33
set_option maxHeartbeats 4000000 in
set_option maxRecDepth 100000 in
theorem c_M_time_ (l : Launch) (D : va_G) (mo : Nat) (ms : Nat) (sv : Int32) (mb : Nat) (th : Int32) (mk : Nat) (ml : Int32) (mfd : Nat) (mf : Int32) (sp : Int32) (on : Int32) (tw : Int32) (K : ClassId) (sf : Nat → Int32) (i : Int32) (hs0 : sf 0 = 0) (hs51 : sf 51 = 0) (hs93 : sf 93 = 4) (hs94 : sf 94 = 0) (hs125 : sf 125 = 0) (hs126 : sf 126 = 0) (sz : Nat) : k_Mi (S := Unit) l D yX8_time_ cX8_time_ 2 (some .int) 1 0 0 22 [.ref mo, .int i] [(mo, .inr (8, [.ref ms, .int sv, .ref mb, .int 0, .int th, .ref mk, .int ml, .ref mfd, .int mf, .int sp, .int on, .int tw])), (ms, .inl (K, 889, .inl sf))] [(K, .int)] (fun (r : Int32) (_ : Unit) => r = 0) (fun _ => [(mo, .inr (8, [.ref ms, .int sv, .ref mb, .int 0, .int 1, .ref mk, .int ml, .ref mfd, .int mf, .int sp, .int on, .int tw])), (ms, .inl (K, 889, .inl sf))]) (fun _ => []) sz := by
  refine Met.ofW (cc := cX8_time_) (maxL := 2) (ret := (some .int)) (by decide) rfl ?_
  intro p e s m args below meth c s₁ B hml hv
  obtain ⟨rfl, hsz, hP, hK, hD0, hG⟩ := hv
  have hx := B.exec
  have hb := B.bytes
  have hr := B.returns
  have ht : ∀ v9 ∈ wsA, v9.before ([.ref mo, .int i] : List Value).toArray s = true := fun v9 h9 => atoms_spec (ws := k_ws yX8_time_ cX8_time_ 2 (some .int)) B.pre v9 (List.mem_cons_of_mem _ h9)
  have hown : s.vm.findClass RX8 = some m.cls := findClass_of_methodNamed B.named
  have S0 : k_C p s m ([.ref mo, .int i] : List Value).toArray c cX8_time_ 2 RX8 := ⟨hx, hb, hml, hown, ht⟩
  have hlocks := B.notSynchronized
  subst hsz
  have hD := hD0.self (sz := s.heap.size)
  generalize hAe : va_A [(mo, .inr (8, [.ref ms, .int sv, .ref mb, .int 0, .int th, .ref mk, .int ml, .ref mfd, .int mf, .int sp, .int on, .int tw])), (ms, .inl (K, 889, .inl sf))] s.heap.size = A at hD hG ⊢
  have hA : ∀ q : Nat, s.heap.size ≤ q → A q := fun q h => by rw [← hAe]; exact Or.inr h
  have hS : va_S A s.heap s.heap [] := va_S.rf
  have hl := lv_entry ([.ref mo, .int i]) (n := 2) (Nat.le_of_ble_eq_true rfl)
  rw [lg_entry_eq]
  generalize (lg_sl ([.ref mo, .int i]) ++ List.replicate (2 - (lg_sl ([.ref mo, .int i])).length) Slot.unset).toArray = ls at hl ⊢
  have hl : lv_has ls 2 [(0, .ref mo), (1, .int i)] := hl
  have hP : va_P D vwCl [(mo, .inr (8, [.ref ms, .int sv, .ref mb, .int 0, .int th, .ref mk, .int ml, .ref mfd, .int mf, .int sp, .int on, .int tw])), (ms, .inl (K, 889, .inl sf))] s.heap := hP
  refine lv_aload_n hx hb dX8_time__0 rfl (lv_at hl 0 rfl) ?_
  refine lv_iload_n hx hb dX8_time__1 rfl (lv_at hl 1 rfl) ?_
  refine lv_iconst (v := 0) hx hb dX8_time__2 (by decide) ?_
  refine lv_aload_n hx hb dX8_time__3 rfl (lv_at hl 0 rfl) ?_
  refine va_get (D := D) (ci := 8) (v := .ref ms) (C := RX8) (T := TX8) (N := 12) hx hb ht inA_X8 hown hK hP 0 rfl rfl 0 (by decide) (ht _ lf_X8_7) (fun _ h9 => h9) rfl dX8_time__4 ?_
  refine lv_bipush (v := 51) hx hb dX8_time__7 (by decide) ?_
  refine va_iald hx hb hK hP 1 0 rfl rfl (by unfold vp_in; decide) dX8_time__9 ?_
  refine k_nrm (y := 0) (show sf (51 : Int32).toNatClampNeg = 0 from hs51) ?_
  refine lv_iconst (v := 1) hx hb dX8_time__10 (by decide) ?_
  refine lv_isub hx hb dX8_time__11 ?_
  refine k_nrm (y := (-1)) (by decide) ?_
  have ct := k_cut_of (wc := []) (wr := [(mo, .inr (8, [.ref ms, .int sv, .ref mb, .int 0, .int th, .ref mk, .int ml, .ref mfd, .int mf, .int sp, .int on, .int tw])), (ms, .inl (K, 889, .inl sf))]) (tc := []) hG hS hA hK hP hD [] [0, 1] [] rfl rfl (by decide) (by decide) (by decide) rfl
  refine k_endi (As := [.int i, .int 0, .int (-1)]) ct (k_runS (As := [.int i, .int 0, .int (-1)]) (rest := [.ref mo]) S0 Ls_X8_46 ct (c_M_in_n1 l D i s.heap.size) hl.1 rfl (Nat.le_of_ble_eq_true rfl) rfl dX8_time__12 ⟨⟨Nat.le_of_ble_eq_true rfl, Nat.le_of_ble_eq_true rfl⟩, Nat.le_of_ble_eq_true rfl, Nat.le_of_ble_eq_true rfl⟩) rfl rfl (fun r_1 _ H locs hw_2 hP hD hK hS => ?_)
  have hK : va_K D vwCl [(K, .int)] s := hK
  have hP : va_P D vwCl [(mo, .inr (8, [.ref ms, .int sv, .ref mb, .int 0, .int th, .ref mk, .int ml, .ref mfd, .int mf, .int sp, .int on, .int tw])), (ms, .inl (K, 889, .inl sf))] H := hP
  have hD : va_D A [(mo, .inr (8, [.ref ms, .int sv, .ref mb, .int 0, .int th, .ref mk, .int ml, .ref mfd, .int mf, .int sp, .int on, .int tw])), (ms, .inl (K, 889, .inl sf))] := hD
  have hw_2 : r_1 = 0 := hw_2
  have hw_2 := hw_2.symm
  subst hw_2
  refine k_nrm (y := 0) rfl ?_
  refine lv_iconst (v := 1) hx hb dX8_time__15 (by decide) ?_
  have ct := k_cut_of (wc := [(mo, .inr (8, [.ref ms, .int sv, .ref mb, .int 0, .int th, .ref mk, .int ml, .ref mfd, .int mf, .int sp, .int on, .int tw]))]) (wr := [(ms, .inl (K, 889, .inl sf))]) (tc := []) hG hS hA hK hP hD [0] [1] [] rfl rfl (by decide) (by decide) (by decide) rfl
  refine k_endi (As := [.ref mo, .int 0, .int 1]) ct (k_runV (As := [.int 0, .int 1]) (rest := []) S0 Lv_X8_58 rfl (ci := 8) (q0 := 0) rfl rfl ct (c_M_goes0 l D mo ms sv mb th mk ml mfd mf sp on tw 1 H.size) hl.1 rfl (Nat.le_of_ble_eq_true rfl) rfl dX8_time__16 ⟨⟨Nat.le_of_ble_eq_true rfl, Nat.le_of_ble_eq_true rfl⟩, Nat.le_of_ble_eq_true rfl, Nat.le_of_ble_eq_true rfl⟩) rfl rfl (fun r_3 _ H locs hw_4 hP hD hK hS => ?_)
  have hK : va_K D vwCl [(K, .int)] s := hK
  have hP : va_P D vwCl [(ms, .inl (K, 889, .inl sf)), (mo, .inr (8, [.ref ms, .int sv, .ref mb, .int 0, .int 1, .ref mk, .int ml, .ref mfd, .int mf, .int sp, .int on, .int tw]))] H := hP
  have hD : va_D A [(ms, .inl (K, 889, .inl sf)), (mo, .inr (8, [.ref ms, .int sv, .ref mb, .int 0, .int 1, .ref mk, .int ml, .ref mfd, .int mf, .int sp, .int on, .int tw]))] := hD
  have hw_4 : r_3 = 0 := hw_4
  have hw_4 := hw_4.symm
  subst hw_4
  refine k_nrm (y := 0) rfl ?_
  refine lv_if_eq (tgt := 34) hx hb dX8_time__19 (by decide) (fun _ => ?_) (fun c9 => absurd (by decide) c9)
  refine lv_iconst (v := 0) hx hb dX8_time__34 (by decide) ?_
  have hP9 : va_P D vwCl [(mo, .inr (8, [.ref ms, .int sv, .ref mb, .int 0, .int 1, .ref mk, .int ml, .ref mfd, .int mf, .int sp, .int on, .int tw])), (ms, .inl (K, 889, .inl sf))] H := hP.sub [1, 0] rfl
  have hD9 : va_D A [(mo, .inr (8, [.ref ms, .int sv, .ref mb, .int 0, .int 1, .ref mk, .int ml, .ref mfd, .int mf, .int sp, .int on, .int tw])), (ms, .inl (K, 889, .inl sf))] := hD.sub [1, 0] (by decide) rfl
  have hK9 : va_K D vwCl [] s := hK.sub [] rfl
  exact W.iret (v := 0) hx hb hr (fun t ht9 hW9 => ⟨⟨0, (), rfl, by first | rfl | trivial | assumption, ⟨by rw [ht9]; exact hP9, va_K.moved hW9.alike hK9, hD9⟩⟩, hS.F ht9⟩) hS.2.2 dX8_time__35
set_option maxHeartbeats 4000000 in
set_option maxRecDepth 100000 in
theorem c_M_code (l : Launch) (D : va_G) (mo : Nat) (ms : Nat) (sv : Int32) (mb : Nat) (th : Int32) (mk : Nat) (ml : Int32) (mfd : Nat) (mf : Int32) (sp : Int32) (on : Int32) (tw : Int32) (K : ClassId) (sf : Nat → Int32) (i : Int32) (hs0 : sf 0 = 0) (hs51 : sf 51 = 0) (hs93 : sf 93 = 4) (hs94 : sf 94 = 0) (hs125 : sf 125 = 0) (hs126 : sf 126 = 0) (sz : Nat) : k_Mi (S := Unit) l D yX8_code cX8_code 2 (some .int) 2 0 0 43 [.ref mo, .int i] [(mo, .inr (8, [.ref ms, .int sv, .ref mb, .int 0, .int th, .ref mk, .int ml, .ref mfd, .int mf, .int sp, .int on, .int tw])), (ms, .inl (K, 889, .inl sf))] [(K, .int)] (fun (r : Int32) (_ : Unit) => r = 0) (fun _ => [(mo, .inr (8, [.ref ms, .int sv, .ref mb, .int 0, .int 1, .ref mk, .int ml, .ref mfd, .int mf, .int sp, .int on, .int tw])), (ms, .inl (K, 889, .inl sf))]) (fun _ => []) sz := by
  refine Met.ofW (cc := cX8_code) (maxL := 2) (ret := (some .int)) (by decide) rfl ?_
  intro p e s m args below meth c s₁ B hml hv
  obtain ⟨rfl, hsz, hP, hK, hD0, hG⟩ := hv
  have hx := B.exec
  have hb := B.bytes
  have hr := B.returns
  have ht : ∀ v9 ∈ wsA, v9.before ([.ref mo, .int i] : List Value).toArray s = true := fun v9 h9 => atoms_spec (ws := k_ws yX8_code cX8_code 2 (some .int)) B.pre v9 (List.mem_cons_of_mem _ h9)
  have hown : s.vm.findClass RX8 = some m.cls := findClass_of_methodNamed B.named
  have S0 : k_C p s m ([.ref mo, .int i] : List Value).toArray c cX8_code 2 RX8 := ⟨hx, hb, hml, hown, ht⟩
  have hlocks := B.notSynchronized
  subst hsz
  have hD := hD0.self (sz := s.heap.size)
  generalize hAe : va_A [(mo, .inr (8, [.ref ms, .int sv, .ref mb, .int 0, .int th, .ref mk, .int ml, .ref mfd, .int mf, .int sp, .int on, .int tw])), (ms, .inl (K, 889, .inl sf))] s.heap.size = A at hD hG ⊢
  have hA : ∀ q : Nat, s.heap.size ≤ q → A q := fun q h => by rw [← hAe]; exact Or.inr h
  have hS : va_S A s.heap s.heap [] := va_S.rf
  have hl := lv_entry ([.ref mo, .int i]) (n := 2) (Nat.le_of_ble_eq_true rfl)
  rw [lg_entry_eq]
  generalize (lg_sl ([.ref mo, .int i]) ++ List.replicate (2 - (lg_sl ([.ref mo, .int i])).length) Slot.unset).toArray = ls at hl ⊢
  have hl : lv_has ls 2 [(0, .ref mo), (1, .int i)] := hl
  have hP : va_P D vwCl [(mo, .inr (8, [.ref ms, .int sv, .ref mb, .int 0, .int th, .ref mk, .int ml, .ref mfd, .int mf, .int sp, .int on, .int tw])), (ms, .inl (K, 889, .inl sf))] s.heap := hP
  refine lv_aload_n hx hb dX8_code_0 rfl (lv_at hl 0 rfl) ?_
  refine lv_aload_n hx hb dX8_code_1 rfl (lv_at hl 0 rfl) ?_
  refine lv_iload_n hx hb dX8_code_2 rfl (lv_at hl 1 rfl) ?_
  have ct := k_cut_of (wc := [(mo, .inr (8, [.ref ms, .int sv, .ref mb, .int 0, .int th, .ref mk, .int ml, .ref mfd, .int mf, .int sp, .int on, .int tw])), (ms, .inl (K, 889, .inl sf))]) (wr := []) (tc := [(K, .int)]) hG hS hA hK hP hD [0, 1] [] [0] rfl rfl (by decide) (by decide) (by decide) rfl
  refine k_endi (As := [.ref mo, .int i]) ct (k_runV (As := [.int i]) (rest := [.ref mo]) S0 Lv_X8_141 rfl (ci := 8) (q0 := 0) rfl rfl ct (c_M_isCode l D mo ms sv mb th mk ml mfd mf sp on tw K sf i (by first | assumption | exact (cpf_lo (by decide)).trans (by assumption)) (by first | assumption | exact (cpf_lo (by decide)).trans (by assumption)) (by first | assumption | exact (cpf_lo (by decide)).trans (by assumption)) (by first | assumption | exact (cpf_lo (by decide)).trans (by assumption)) (by first | assumption | exact (cpf_lo (by decide)).trans (by assumption)) (by first | assumption | exact (cpf_lo (by decide)).trans (by assumption)) s.heap.size) hl.1 rfl (Nat.le_of_ble_eq_true rfl) rfl dX8_code_3 ⟨⟨Nat.le_of_ble_eq_true rfl, Nat.le_of_ble_eq_true rfl⟩, Nat.le_of_ble_eq_true rfl, Nat.le_of_ble_eq_true rfl⟩) rfl rfl (fun r_1 _ H locs hw_2 hP hD hK hS => ?_)
  have hK : va_K D vwCl [(K, .int)] s := hK
  have hP : va_P D vwCl [(mo, .inr (8, [.ref ms, .int sv, .ref mb, .int 0, .int th, .ref mk, .int ml, .ref mfd, .int mf, .int sp, .int on, .int tw])), (ms, .inl (K, 889, .inl sf))] H := hP
  have hD : va_D A [(mo, .inr (8, [.ref ms, .int sv, .ref mb, .int 0, .int th, .ref mk, .int ml, .ref mfd, .int mf, .int sp, .int on, .int tw])), (ms, .inl (K, 889, .inl sf))] := hD
  have hw_2 : r_1 = 0 := hw_2
  have hw_2 := hw_2.symm
  subst hw_2
  refine k_nrm (y := 0) rfl ?_
  refine lv_iconst (v := 1) hx hb dX8_code_6 (by decide) ?_
  have ct := k_cut_of (wc := [(mo, .inr (8, [.ref ms, .int sv, .ref mb, .int 0, .int th, .ref mk, .int ml, .ref mfd, .int mf, .int sp, .int on, .int tw]))]) (wr := [(ms, .inl (K, 889, .inl sf))]) (tc := []) hG hS hA hK hP hD [0] [1] [] rfl rfl (by decide) (by decide) (by decide) rfl
  refine k_endi (As := [.ref mo, .int 0, .int 1]) ct (k_runV (As := [.int 0, .int 1]) (rest := []) S0 Lv_X8_58 rfl (ci := 8) (q0 := 0) rfl rfl ct (c_M_goes0 l D mo ms sv mb th mk ml mfd mf sp on tw 1 H.size) hl.1 rfl (Nat.le_of_ble_eq_true rfl) rfl dX8_code_7 ⟨⟨Nat.le_of_ble_eq_true rfl, Nat.le_of_ble_eq_true rfl⟩, Nat.le_of_ble_eq_true rfl, Nat.le_of_ble_eq_true rfl⟩) rfl rfl (fun r_3 _ H locs hw_4 hP hD hK hS => ?_)
  have hK : va_K D vwCl [(K, .int)] s := hK
  have hP : va_P D vwCl [(ms, .inl (K, 889, .inl sf)), (mo, .inr (8, [.ref ms, .int sv, .ref mb, .int 0, .int 1, .ref mk, .int ml, .ref mfd, .int mf, .int sp, .int on, .int tw]))] H := hP
  have hD : va_D A [(ms, .inl (K, 889, .inl sf)), (mo, .inr (8, [.ref ms, .int sv, .ref mb, .int 0, .int 1, .ref mk, .int ml, .ref mfd, .int mf, .int sp, .int on, .int tw]))] := hD
  have hw_4 : r_3 = 0 := hw_4
  have hw_4 := hw_4.symm
  subst hw_4
  refine k_nrm (y := 0) rfl ?_
  refine lv_if_eq (tgt := 25) hx hb dX8_code_10 (by decide) (fun _ => ?_) (fun c9 => absurd (by decide) c9)
  refine lv_iconst (v := 0) hx hb dX8_code_25 (by decide) ?_
  have hP9 : va_P D vwCl [(mo, .inr (8, [.ref ms, .int sv, .ref mb, .int 0, .int 1, .ref mk, .int ml, .ref mfd, .int mf, .int sp, .int on, .int tw])), (ms, .inl (K, 889, .inl sf))] H := hP.sub [1, 0] rfl
  have hD9 : va_D A [(mo, .inr (8, [.ref ms, .int sv, .ref mb, .int 0, .int 1, .ref mk, .int ml, .ref mfd, .int mf, .int sp, .int on, .int tw])), (ms, .inl (K, 889, .inl sf))] := hD.sub [1, 0] (by decide) rfl
  have hK9 : va_K D vwCl [] s := hK.sub [] rfl
  exact W.iret (v := 0) hx hb hr (fun t ht9 hW9 => ⟨⟨0, (), rfl, by first | rfl | trivial | assumption, ⟨by rw [ht9]; exact hP9, va_K.moved hW9.alike hK9, hD9⟩⟩, hS.F ht9⟩) hS.2.2 dX8_code_26
set_option maxHeartbeats 4000000 in
set_option maxRecDepth 100000 in
theorem c_M_codeLength (l : Launch) (D : va_G) (mo : Nat) (ms : Nat) (sv : Int32) (mb : Nat) (th : Int32) (mk : Nat) (ml : Int32) (mfd : Nat) (mf : Int32) (sp : Int32) (on : Int32) (tw : Int32) (K : ClassId) (sf : Nat → Int32) (i : Int32) (hs0 : sf 0 = 0) (hs51 : sf 51 = 0) (hs93 : sf 93 = 4) (hs94 : sf 94 = 0) (hs125 : sf 125 = 0) (hs126 : sf 126 = 0) (sz : Nat) : k_Mi (S := Unit) l D yX8_codeLength cX8_codeLength 2 (some .int) 2 0 0 43 [.ref mo, .int i] [(mo, .inr (8, [.ref ms, .int sv, .ref mb, .int 0, .int th, .ref mk, .int ml, .ref mfd, .int mf, .int sp, .int on, .int tw])), (ms, .inl (K, 889, .inl sf))] [(K, .int)] (fun (r : Int32) (_ : Unit) => r = 0) (fun _ => [(mo, .inr (8, [.ref ms, .int sv, .ref mb, .int 0, .int 1, .ref mk, .int ml, .ref mfd, .int mf, .int sp, .int on, .int tw])), (ms, .inl (K, 889, .inl sf))]) (fun _ => []) sz := by
  refine Met.ofW (cc := cX8_codeLength) (maxL := 2) (ret := (some .int)) (by decide) rfl ?_
  intro p e s m args below meth c s₁ B hml hv
  obtain ⟨rfl, hsz, hP, hK, hD0, hG⟩ := hv
  have hx := B.exec
  have hb := B.bytes
  have hr := B.returns
  have ht : ∀ v9 ∈ wsA, v9.before ([.ref mo, .int i] : List Value).toArray s = true := fun v9 h9 => atoms_spec (ws := k_ws yX8_codeLength cX8_codeLength 2 (some .int)) B.pre v9 (List.mem_cons_of_mem _ h9)
  have hown : s.vm.findClass RX8 = some m.cls := findClass_of_methodNamed B.named
  have S0 : k_C p s m ([.ref mo, .int i] : List Value).toArray c cX8_codeLength 2 RX8 := ⟨hx, hb, hml, hown, ht⟩
  have hlocks := B.notSynchronized
  subst hsz
  have hD := hD0.self (sz := s.heap.size)
  generalize hAe : va_A [(mo, .inr (8, [.ref ms, .int sv, .ref mb, .int 0, .int th, .ref mk, .int ml, .ref mfd, .int mf, .int sp, .int on, .int tw])), (ms, .inl (K, 889, .inl sf))] s.heap.size = A at hD hG ⊢
  have hA : ∀ q : Nat, s.heap.size ≤ q → A q := fun q h => by rw [← hAe]; exact Or.inr h
  have hS : va_S A s.heap s.heap [] := va_S.rf
  have hl := lv_entry ([.ref mo, .int i]) (n := 2) (Nat.le_of_ble_eq_true rfl)
  rw [lg_entry_eq]
  generalize (lg_sl ([.ref mo, .int i]) ++ List.replicate (2 - (lg_sl ([.ref mo, .int i])).length) Slot.unset).toArray = ls at hl ⊢
  have hl : lv_has ls 2 [(0, .ref mo), (1, .int i)] := hl
  have hP : va_P D vwCl [(mo, .inr (8, [.ref ms, .int sv, .ref mb, .int 0, .int th, .ref mk, .int ml, .ref mfd, .int mf, .int sp, .int on, .int tw])), (ms, .inl (K, 889, .inl sf))] s.heap := hP
  refine lv_aload_n hx hb dX8_codeLength_0 rfl (lv_at hl 0 rfl) ?_
  refine lv_aload_n hx hb dX8_codeLength_1 rfl (lv_at hl 0 rfl) ?_
  refine lv_iload_n hx hb dX8_codeLength_2 rfl (lv_at hl 1 rfl) ?_
  have ct := k_cut_of (wc := [(mo, .inr (8, [.ref ms, .int sv, .ref mb, .int 0, .int th, .ref mk, .int ml, .ref mfd, .int mf, .int sp, .int on, .int tw])), (ms, .inl (K, 889, .inl sf))]) (wr := []) (tc := [(K, .int)]) hG hS hA hK hP hD [0, 1] [] [0] rfl rfl (by decide) (by decide) (by decide) rfl
  refine k_endi (As := [.ref mo, .int i]) ct (k_runV (As := [.int i]) (rest := [.ref mo]) S0 Lv_X8_141 rfl (ci := 8) (q0 := 0) rfl rfl ct (c_M_isCode l D mo ms sv mb th mk ml mfd mf sp on tw K sf i (by first | assumption | exact (cpf_lo (by decide)).trans (by assumption)) (by first | assumption | exact (cpf_lo (by decide)).trans (by assumption)) (by first | assumption | exact (cpf_lo (by decide)).trans (by assumption)) (by first | assumption | exact (cpf_lo (by decide)).trans (by assumption)) (by first | assumption | exact (cpf_lo (by decide)).trans (by assumption)) (by first | assumption | exact (cpf_lo (by decide)).trans (by assumption)) s.heap.size) hl.1 rfl (Nat.le_of_ble_eq_true rfl) rfl dX8_codeLength_3 ⟨⟨Nat.le_of_ble_eq_true rfl, Nat.le_of_ble_eq_true rfl⟩, Nat.le_of_ble_eq_true rfl, Nat.le_of_ble_eq_true rfl⟩) rfl rfl (fun r_1 _ H locs hw_2 hP hD hK hS => ?_)
  have hK : va_K D vwCl [(K, .int)] s := hK
  have hP : va_P D vwCl [(mo, .inr (8, [.ref ms, .int sv, .ref mb, .int 0, .int th, .ref mk, .int ml, .ref mfd, .int mf, .int sp, .int on, .int tw])), (ms, .inl (K, 889, .inl sf))] H := hP
  have hD : va_D A [(mo, .inr (8, [.ref ms, .int sv, .ref mb, .int 0, .int th, .ref mk, .int ml, .ref mfd, .int mf, .int sp, .int on, .int tw])), (ms, .inl (K, 889, .inl sf))] := hD
  have hw_2 : r_1 = 0 := hw_2
  have hw_2 := hw_2.symm
  subst hw_2
  refine k_nrm (y := 0) rfl ?_
  refine lv_iconst (v := 1) hx hb dX8_codeLength_6 (by decide) ?_
  have ct := k_cut_of (wc := [(mo, .inr (8, [.ref ms, .int sv, .ref mb, .int 0, .int th, .ref mk, .int ml, .ref mfd, .int mf, .int sp, .int on, .int tw]))]) (wr := [(ms, .inl (K, 889, .inl sf))]) (tc := []) hG hS hA hK hP hD [0] [1] [] rfl rfl (by decide) (by decide) (by decide) rfl
  refine k_endi (As := [.ref mo, .int 0, .int 1]) ct (k_runV (As := [.int 0, .int 1]) (rest := []) S0 Lv_X8_58 rfl (ci := 8) (q0 := 0) rfl rfl ct (c_M_goes0 l D mo ms sv mb th mk ml mfd mf sp on tw 1 H.size) hl.1 rfl (Nat.le_of_ble_eq_true rfl) rfl dX8_codeLength_7 ⟨⟨Nat.le_of_ble_eq_true rfl, Nat.le_of_ble_eq_true rfl⟩, Nat.le_of_ble_eq_true rfl, Nat.le_of_ble_eq_true rfl⟩) rfl rfl (fun r_3 _ H locs hw_4 hP hD hK hS => ?_)
  have hK : va_K D vwCl [(K, .int)] s := hK
  have hP : va_P D vwCl [(ms, .inl (K, 889, .inl sf)), (mo, .inr (8, [.ref ms, .int sv, .ref mb, .int 0, .int 1, .ref mk, .int ml, .ref mfd, .int mf, .int sp, .int on, .int tw]))] H := hP
  have hD : va_D A [(ms, .inl (K, 889, .inl sf)), (mo, .inr (8, [.ref ms, .int sv, .ref mb, .int 0, .int 1, .ref mk, .int ml, .ref mfd, .int mf, .int sp, .int on, .int tw]))] := hD
  have hw_4 : r_3 = 0 := hw_4
  have hw_4 := hw_4.symm
  subst hw_4
  refine k_nrm (y := 0) rfl ?_
  refine lv_if_eq (tgt := 25) hx hb dX8_codeLength_10 (by decide) (fun _ => ?_) (fun c9 => absurd (by decide) c9)
  refine lv_iconst (v := 0) hx hb dX8_codeLength_25 (by decide) ?_
  have hP9 : va_P D vwCl [(mo, .inr (8, [.ref ms, .int sv, .ref mb, .int 0, .int 1, .ref mk, .int ml, .ref mfd, .int mf, .int sp, .int on, .int tw])), (ms, .inl (K, 889, .inl sf))] H := hP.sub [1, 0] rfl
  have hD9 : va_D A [(mo, .inr (8, [.ref ms, .int sv, .ref mb, .int 0, .int 1, .ref mk, .int ml, .ref mfd, .int mf, .int sp, .int on, .int tw])), (ms, .inl (K, 889, .inl sf))] := hD.sub [1, 0] (by decide) rfl
  have hK9 : va_K D vwCl [] s := hK.sub [] rfl
  exact W.iret (v := 0) hx hb hr (fun t ht9 hW9 => ⟨⟨0, (), rfl, by first | rfl | trivial | assumption, ⟨by rw [ht9]; exact hP9, va_K.moved hW9.alike hK9, hD9⟩⟩, hS.F ht9⟩) hS.2.2 dX8_codeLength_26
set_option maxHeartbeats 4000000 in
set_option maxRecDepth 100000 in
theorem c_M_count (l : Launch) (D : va_G) (mo : Nat) (ms : Nat) (sv : Int32) (mb : Nat) (th : Int32) (mk : Nat) (ml : Int32) (mfd : Nat) (mf : Int32) (sp : Int32) (on : Int32) (tw : Int32) (K : ClassId) (sf : Nat → Int32) (i : Int32) (hs0 : sf 0 = 0) (hs51 : sf 51 = 0) (hs93 : sf 93 = 4) (hs94 : sf 94 = 0) (hs125 : sf 125 = 0) (hs126 : sf 126 = 0) (sz : Nat) : k_Mi (S := Unit) l D yX8_count cX8_count 2 (some .int) 2 0 0 43 [.ref mo, .int i] [(mo, .inr (8, [.ref ms, .int sv, .ref mb, .int 0, .int th, .ref mk, .int ml, .ref mfd, .int mf, .int sp, .int on, .int tw])), (ms, .inl (K, 889, .inl sf))] [(K, .int)] (fun (r : Int32) (_ : Unit) => r = 0) (fun _ => [(mo, .inr (8, [.ref ms, .int sv, .ref mb, .int 0, .int 1, .ref mk, .int ml, .ref mfd, .int mf, .int sp, .int on, .int tw])), (ms, .inl (K, 889, .inl sf))]) (fun _ => []) sz := by
  refine Met.ofW (cc := cX8_count) (maxL := 2) (ret := (some .int)) (by decide) rfl ?_
  intro p e s m args below meth c s₁ B hml hv
  obtain ⟨rfl, hsz, hP, hK, hD0, hG⟩ := hv
  have hx := B.exec
  have hb := B.bytes
  have hr := B.returns
  have ht : ∀ v9 ∈ wsA, v9.before ([.ref mo, .int i] : List Value).toArray s = true := fun v9 h9 => atoms_spec (ws := k_ws yX8_count cX8_count 2 (some .int)) B.pre v9 (List.mem_cons_of_mem _ h9)
  have hown : s.vm.findClass RX8 = some m.cls := findClass_of_methodNamed B.named
  have S0 : k_C p s m ([.ref mo, .int i] : List Value).toArray c cX8_count 2 RX8 := ⟨hx, hb, hml, hown, ht⟩
  have hlocks := B.notSynchronized
  subst hsz
  have hD := hD0.self (sz := s.heap.size)
  generalize hAe : va_A [(mo, .inr (8, [.ref ms, .int sv, .ref mb, .int 0, .int th, .ref mk, .int ml, .ref mfd, .int mf, .int sp, .int on, .int tw])), (ms, .inl (K, 889, .inl sf))] s.heap.size = A at hD hG ⊢
  have hA : ∀ q : Nat, s.heap.size ≤ q → A q := fun q h => by rw [← hAe]; exact Or.inr h
  have hS : va_S A s.heap s.heap [] := va_S.rf
  have hl := lv_entry ([.ref mo, .int i]) (n := 2) (Nat.le_of_ble_eq_true rfl)
  rw [lg_entry_eq]
  generalize (lg_sl ([.ref mo, .int i]) ++ List.replicate (2 - (lg_sl ([.ref mo, .int i])).length) Slot.unset).toArray = ls at hl ⊢
  have hl : lv_has ls 2 [(0, .ref mo), (1, .int i)] := hl
  have hP : va_P D vwCl [(mo, .inr (8, [.ref ms, .int sv, .ref mb, .int 0, .int th, .ref mk, .int ml, .ref mfd, .int mf, .int sp, .int on, .int tw])), (ms, .inl (K, 889, .inl sf))] s.heap := hP
  refine lv_aload_n hx hb dX8_count_0 rfl (lv_at hl 0 rfl) ?_
  refine lv_aload_n hx hb dX8_count_1 rfl (lv_at hl 0 rfl) ?_
  refine lv_iload_n hx hb dX8_count_2 rfl (lv_at hl 1 rfl) ?_
  have ct := k_cut_of (wc := [(mo, .inr (8, [.ref ms, .int sv, .ref mb, .int 0, .int th, .ref mk, .int ml, .ref mfd, .int mf, .int sp, .int on, .int tw])), (ms, .inl (K, 889, .inl sf))]) (wr := []) (tc := [(K, .int)]) hG hS hA hK hP hD [0, 1] [] [0] rfl rfl (by decide) (by decide) (by decide) rfl
  refine k_endi (As := [.ref mo, .int i]) ct (k_runV (As := [.int i]) (rest := [.ref mo]) S0 Lv_X8_141 rfl (ci := 8) (q0 := 0) rfl rfl ct (c_M_isCode l D mo ms sv mb th mk ml mfd mf sp on tw K sf i (by first | assumption | exact (cpf_lo (by decide)).trans (by assumption)) (by first | assumption | exact (cpf_lo (by decide)).trans (by assumption)) (by first | assumption | exact (cpf_lo (by decide)).trans (by assumption)) (by first | assumption | exact (cpf_lo (by decide)).trans (by assumption)) (by first | assumption | exact (cpf_lo (by decide)).trans (by assumption)) (by first | assumption | exact (cpf_lo (by decide)).trans (by assumption)) s.heap.size) hl.1 rfl (Nat.le_of_ble_eq_true rfl) rfl dX8_count_3 ⟨⟨Nat.le_of_ble_eq_true rfl, Nat.le_of_ble_eq_true rfl⟩, Nat.le_of_ble_eq_true rfl, Nat.le_of_ble_eq_true rfl⟩) rfl rfl (fun r_1 _ H locs hw_2 hP hD hK hS => ?_)
  have hK : va_K D vwCl [(K, .int)] s := hK
  have hP : va_P D vwCl [(mo, .inr (8, [.ref ms, .int sv, .ref mb, .int 0, .int th, .ref mk, .int ml, .ref mfd, .int mf, .int sp, .int on, .int tw])), (ms, .inl (K, 889, .inl sf))] H := hP
  have hD : va_D A [(mo, .inr (8, [.ref ms, .int sv, .ref mb, .int 0, .int th, .ref mk, .int ml, .ref mfd, .int mf, .int sp, .int on, .int tw])), (ms, .inl (K, 889, .inl sf))] := hD
  have hw_2 : r_1 = 0 := hw_2
  have hw_2 := hw_2.symm
  subst hw_2
  refine k_nrm (y := 0) rfl ?_
  refine lv_iconst (v := 1) hx hb dX8_count_6 (by decide) ?_
  have ct := k_cut_of (wc := [(mo, .inr (8, [.ref ms, .int sv, .ref mb, .int 0, .int th, .ref mk, .int ml, .ref mfd, .int mf, .int sp, .int on, .int tw]))]) (wr := [(ms, .inl (K, 889, .inl sf))]) (tc := []) hG hS hA hK hP hD [0] [1] [] rfl rfl (by decide) (by decide) (by decide) rfl
  refine k_endi (As := [.ref mo, .int 0, .int 1]) ct (k_runV (As := [.int 0, .int 1]) (rest := []) S0 Lv_X8_58 rfl (ci := 8) (q0 := 0) rfl rfl ct (c_M_goes0 l D mo ms sv mb th mk ml mfd mf sp on tw 1 H.size) hl.1 rfl (Nat.le_of_ble_eq_true rfl) rfl dX8_count_7 ⟨⟨Nat.le_of_ble_eq_true rfl, Nat.le_of_ble_eq_true rfl⟩, Nat.le_of_ble_eq_true rfl, Nat.le_of_ble_eq_true rfl⟩) rfl rfl (fun r_3 _ H locs hw_4 hP hD hK hS => ?_)
  have hK : va_K D vwCl [(K, .int)] s := hK
  have hP : va_P D vwCl [(ms, .inl (K, 889, .inl sf)), (mo, .inr (8, [.ref ms, .int sv, .ref mb, .int 0, .int 1, .ref mk, .int ml, .ref mfd, .int mf, .int sp, .int on, .int tw]))] H := hP
  have hD : va_D A [(ms, .inl (K, 889, .inl sf)), (mo, .inr (8, [.ref ms, .int sv, .ref mb, .int 0, .int 1, .ref mk, .int ml, .ref mfd, .int mf, .int sp, .int on, .int tw]))] := hD
  have hw_4 : r_3 = 0 := hw_4
  have hw_4 := hw_4.symm
  subst hw_4
  refine k_nrm (y := 0) rfl ?_
  refine lv_if_eq (tgt := 25) hx hb dX8_count_10 (by decide) (fun _ => ?_) (fun c9 => absurd (by decide) c9)
  refine lv_iconst (v := 0) hx hb dX8_count_25 (by decide) ?_
  have hP9 : va_P D vwCl [(mo, .inr (8, [.ref ms, .int sv, .ref mb, .int 0, .int 1, .ref mk, .int ml, .ref mfd, .int mf, .int sp, .int on, .int tw])), (ms, .inl (K, 889, .inl sf))] H := hP.sub [1, 0] rfl
  have hD9 : va_D A [(mo, .inr (8, [.ref ms, .int sv, .ref mb, .int 0, .int 1, .ref mk, .int ml, .ref mfd, .int mf, .int sp, .int on, .int tw])), (ms, .inl (K, 889, .inl sf))] := hD.sub [1, 0] (by decide) rfl
  have hK9 : va_K D vwCl [] s := hK.sub [] rfl
  exact W.iret (v := 0) hx hb hr (fun t ht9 hW9 => ⟨⟨0, (), rfl, by first | rfl | trivial | assumption, ⟨by rw [ht9]; exact hP9, va_K.moved hW9.alike hK9, hD9⟩⟩, hS.F ht9⟩) hS.2.2 dX8_count_26
set_option maxHeartbeats 4000000 in
set_option maxRecDepth 100000 in
theorem c_M_greatestSmudge (l : Launch) (D : va_G) (mo : Nat) (ms : Nat) (sv : Int32) (mb : Nat) (th : Int32) (mk : Nat) (ml : Int32) (mfd : Nat) (mf : Int32) (sp : Int32) (on : Int32) (tw : Int32) (K : ClassId) (sf : Nat → Int32) (i : Int32) (hs0 : sf 0 = 0) (hs51 : sf 51 = 0) (hs93 : sf 93 = 4) (hs94 : sf 94 = 0) (hs125 : sf 125 = 0) (hs126 : sf 126 = 0) (sz : Nat) : k_Mi (S := Unit) l D yX8_greatestSmudge cX8_greatestSmudge 2 (some .int) 2 0 0 43 [.ref mo, .int i] [(mo, .inr (8, [.ref ms, .int sv, .ref mb, .int 0, .int th, .ref mk, .int ml, .ref mfd, .int mf, .int sp, .int on, .int tw])), (ms, .inl (K, 889, .inl sf))] [(K, .int)] (fun (r : Int32) (_ : Unit) => r = 0) (fun _ => [(mo, .inr (8, [.ref ms, .int sv, .ref mb, .int 0, .int 1, .ref mk, .int ml, .ref mfd, .int mf, .int sp, .int on, .int tw])), (ms, .inl (K, 889, .inl sf))]) (fun _ => []) sz := by
  refine Met.ofW (cc := cX8_greatestSmudge) (maxL := 2) (ret := (some .int)) (by decide) rfl ?_
  intro p e s m args below meth c s₁ B hml hv
  obtain ⟨rfl, hsz, hP, hK, hD0, hG⟩ := hv
  have hx := B.exec
  have hb := B.bytes
  have hr := B.returns
  have ht : ∀ v9 ∈ wsA, v9.before ([.ref mo, .int i] : List Value).toArray s = true := fun v9 h9 => atoms_spec (ws := k_ws yX8_greatestSmudge cX8_greatestSmudge 2 (some .int)) B.pre v9 (List.mem_cons_of_mem _ h9)
  have hown : s.vm.findClass RX8 = some m.cls := findClass_of_methodNamed B.named
  have S0 : k_C p s m ([.ref mo, .int i] : List Value).toArray c cX8_greatestSmudge 2 RX8 := ⟨hx, hb, hml, hown, ht⟩
  have hlocks := B.notSynchronized
  subst hsz
  have hD := hD0.self (sz := s.heap.size)
  generalize hAe : va_A [(mo, .inr (8, [.ref ms, .int sv, .ref mb, .int 0, .int th, .ref mk, .int ml, .ref mfd, .int mf, .int sp, .int on, .int tw])), (ms, .inl (K, 889, .inl sf))] s.heap.size = A at hD hG ⊢
  have hA : ∀ q : Nat, s.heap.size ≤ q → A q := fun q h => by rw [← hAe]; exact Or.inr h
  have hS : va_S A s.heap s.heap [] := va_S.rf
  have hl := lv_entry ([.ref mo, .int i]) (n := 2) (Nat.le_of_ble_eq_true rfl)
  rw [lg_entry_eq]
  generalize (lg_sl ([.ref mo, .int i]) ++ List.replicate (2 - (lg_sl ([.ref mo, .int i])).length) Slot.unset).toArray = ls at hl ⊢
  have hl : lv_has ls 2 [(0, .ref mo), (1, .int i)] := hl
  have hP : va_P D vwCl [(mo, .inr (8, [.ref ms, .int sv, .ref mb, .int 0, .int th, .ref mk, .int ml, .ref mfd, .int mf, .int sp, .int on, .int tw])), (ms, .inl (K, 889, .inl sf))] s.heap := hP
  refine lv_aload_n hx hb dX8_greatestSmudge_0 rfl (lv_at hl 0 rfl) ?_
  refine lv_aload_n hx hb dX8_greatestSmudge_1 rfl (lv_at hl 0 rfl) ?_
  refine lv_iload_n hx hb dX8_greatestSmudge_2 rfl (lv_at hl 1 rfl) ?_
  have ct := k_cut_of (wc := [(mo, .inr (8, [.ref ms, .int sv, .ref mb, .int 0, .int th, .ref mk, .int ml, .ref mfd, .int mf, .int sp, .int on, .int tw])), (ms, .inl (K, 889, .inl sf))]) (wr := []) (tc := [(K, .int)]) hG hS hA hK hP hD [0, 1] [] [0] rfl rfl (by decide) (by decide) (by decide) rfl
  refine k_endi (As := [.ref mo, .int i]) ct (k_runV (As := [.int i]) (rest := [.ref mo]) S0 Lv_X8_68 rfl (ci := 8) (q0 := 0) rfl rfl ct (c_M_isElement l D mo ms sv mb th mk ml mfd mf sp on tw K sf i (by first | assumption | exact (cpf_lo (by decide)).trans (by assumption)) (by first | assumption | exact (cpf_lo (by decide)).trans (by assumption)) (by first | assumption | exact (cpf_lo (by decide)).trans (by assumption)) (by first | assumption | exact (cpf_lo (by decide)).trans (by assumption)) (by first | assumption | exact (cpf_lo (by decide)).trans (by assumption)) (by first | assumption | exact (cpf_lo (by decide)).trans (by assumption)) s.heap.size) hl.1 rfl (Nat.le_of_ble_eq_true rfl) rfl dX8_greatestSmudge_3 ⟨⟨Nat.le_of_ble_eq_true rfl, Nat.le_of_ble_eq_true rfl⟩, Nat.le_of_ble_eq_true rfl, Nat.le_of_ble_eq_true rfl⟩) rfl rfl (fun r_1 _ H locs hw_2 hP hD hK hS => ?_)
  have hK : va_K D vwCl [(K, .int)] s := hK
  have hP : va_P D vwCl [(mo, .inr (8, [.ref ms, .int sv, .ref mb, .int 0, .int th, .ref mk, .int ml, .ref mfd, .int mf, .int sp, .int on, .int tw])), (ms, .inl (K, 889, .inl sf))] H := hP
  have hD : va_D A [(mo, .inr (8, [.ref ms, .int sv, .ref mb, .int 0, .int th, .ref mk, .int ml, .ref mfd, .int mf, .int sp, .int on, .int tw])), (ms, .inl (K, 889, .inl sf))] := hD
  have hw_2 : r_1 = 0 := hw_2
  have hw_2 := hw_2.symm
  subst hw_2
  refine k_nrm (y := 0) rfl ?_
  refine lv_iconst (v := 1) hx hb dX8_greatestSmudge_6 (by decide) ?_
  have ct := k_cut_of (wc := [(mo, .inr (8, [.ref ms, .int sv, .ref mb, .int 0, .int th, .ref mk, .int ml, .ref mfd, .int mf, .int sp, .int on, .int tw]))]) (wr := [(ms, .inl (K, 889, .inl sf))]) (tc := []) hG hS hA hK hP hD [0] [1] [] rfl rfl (by decide) (by decide) (by decide) rfl
  refine k_endi (As := [.ref mo, .int 0, .int 1]) ct (k_runV (As := [.int 0, .int 1]) (rest := []) S0 Lv_X8_58 rfl (ci := 8) (q0 := 0) rfl rfl ct (c_M_goes0 l D mo ms sv mb th mk ml mfd mf sp on tw 1 H.size) hl.1 rfl (Nat.le_of_ble_eq_true rfl) rfl dX8_greatestSmudge_7 ⟨⟨Nat.le_of_ble_eq_true rfl, Nat.le_of_ble_eq_true rfl⟩, Nat.le_of_ble_eq_true rfl, Nat.le_of_ble_eq_true rfl⟩) rfl rfl (fun r_3 _ H locs hw_4 hP hD hK hS => ?_)
  have hK : va_K D vwCl [(K, .int)] s := hK
  have hP : va_P D vwCl [(ms, .inl (K, 889, .inl sf)), (mo, .inr (8, [.ref ms, .int sv, .ref mb, .int 0, .int 1, .ref mk, .int ml, .ref mfd, .int mf, .int sp, .int on, .int tw]))] H := hP
  have hD : va_D A [(ms, .inl (K, 889, .inl sf)), (mo, .inr (8, [.ref ms, .int sv, .ref mb, .int 0, .int 1, .ref mk, .int ml, .ref mfd, .int mf, .int sp, .int on, .int tw]))] := hD
  have hw_4 : r_3 = 0 := hw_4
  have hw_4 := hw_4.symm
  subst hw_4
  refine k_nrm (y := 0) rfl ?_
  refine lv_if_eq (tgt := 21) hx hb dX8_greatestSmudge_10 (by decide) (fun _ => ?_) (fun c9 => absurd (by decide) c9)
  refine lv_iconst (v := 0) hx hb dX8_greatestSmudge_21 (by decide) ?_
  have hP9 : va_P D vwCl [(mo, .inr (8, [.ref ms, .int sv, .ref mb, .int 0, .int 1, .ref mk, .int ml, .ref mfd, .int mf, .int sp, .int on, .int tw])), (ms, .inl (K, 889, .inl sf))] H := hP.sub [1, 0] rfl
  have hD9 : va_D A [(mo, .inr (8, [.ref ms, .int sv, .ref mb, .int 0, .int 1, .ref mk, .int ml, .ref mfd, .int mf, .int sp, .int on, .int tw])), (ms, .inl (K, 889, .inl sf))] := hD.sub [1, 0] (by decide) rfl
  have hK9 : va_K D vwCl [] s := hK.sub [] rfl
  exact W.iret (v := 0) hx hb hr (fun t ht9 hW9 => ⟨⟨0, (), rfl, by first | rfl | trivial | assumption, ⟨by rw [ht9]; exact hP9, va_K.moved hW9.alike hK9, hD9⟩⟩, hS.F ht9⟩) hS.2.2 dX8_greatestSmudge_22
set_option maxHeartbeats 4000000 in
set_option maxRecDepth 100000 in
theorem c_M_nearest (l : Launch) (D : va_G) (mo : Nat) (ms : Nat) (sv : Int32) (mb : Nat) (th : Int32) (mk : Nat) (ml : Int32) (mfd : Nat) (mf : Int32) (sp : Int32) (on : Int32) (tw : Int32) (K : ClassId) (sf : Nat → Int32) (i : Int32) (hs0 : sf 0 = 0) (hs51 : sf 51 = 0) (hs93 : sf 93 = 4) (hs94 : sf 94 = 0) (hs125 : sf 125 = 0) (hs126 : sf 126 = 0) (sz : Nat) : k_Mi (S := Unit) l D yX8_nearest cX8_nearest 2 (some .int) 1 0 0 22 [.ref mo, .int i] [(mo, .inr (8, [.ref ms, .int sv, .ref mb, .int 0, .int th, .ref mk, .int ml, .ref mfd, .int mf, .int sp, .int on, .int tw])), (ms, .inl (K, 889, .inl sf))] [(K, .int)] (fun (r : Int32) (_ : Unit) => r = 0) (fun _ => [(mo, .inr (8, [.ref ms, .int sv, .ref mb, .int 0, .int 1, .ref mk, .int ml, .ref mfd, .int mf, .int sp, .int on, .int tw])), (ms, .inl (K, 889, .inl sf))]) (fun _ => []) sz := by
  refine Met.ofW (cc := cX8_nearest) (maxL := 2) (ret := (some .int)) (by decide) rfl ?_
  intro p e s m args below meth c s₁ B hml hv
  obtain ⟨rfl, hsz, hP, hK, hD0, hG⟩ := hv
  have hx := B.exec
  have hb := B.bytes
  have hr := B.returns
  have ht : ∀ v9 ∈ wsA, v9.before ([.ref mo, .int i] : List Value).toArray s = true := fun v9 h9 => atoms_spec (ws := k_ws yX8_nearest cX8_nearest 2 (some .int)) B.pre v9 (List.mem_cons_of_mem _ h9)
  have hown : s.vm.findClass RX8 = some m.cls := findClass_of_methodNamed B.named
  have S0 : k_C p s m ([.ref mo, .int i] : List Value).toArray c cX8_nearest 2 RX8 := ⟨hx, hb, hml, hown, ht⟩
  have hlocks := B.notSynchronized
  subst hsz
  have hD := hD0.self (sz := s.heap.size)
  generalize hAe : va_A [(mo, .inr (8, [.ref ms, .int sv, .ref mb, .int 0, .int th, .ref mk, .int ml, .ref mfd, .int mf, .int sp, .int on, .int tw])), (ms, .inl (K, 889, .inl sf))] s.heap.size = A at hD hG ⊢
  have hA : ∀ q : Nat, s.heap.size ≤ q → A q := fun q h => by rw [← hAe]; exact Or.inr h
  have hS : va_S A s.heap s.heap [] := va_S.rf
  have hl := lv_entry ([.ref mo, .int i]) (n := 2) (Nat.le_of_ble_eq_true rfl)
  rw [lg_entry_eq]
  generalize (lg_sl ([.ref mo, .int i]) ++ List.replicate (2 - (lg_sl ([.ref mo, .int i])).length) Slot.unset).toArray = ls at hl ⊢
  have hl : lv_has ls 2 [(0, .ref mo), (1, .int i)] := hl
  have hP : va_P D vwCl [(mo, .inr (8, [.ref ms, .int sv, .ref mb, .int 0, .int th, .ref mk, .int ml, .ref mfd, .int mf, .int sp, .int on, .int tw])), (ms, .inl (K, 889, .inl sf))] s.heap := hP
  refine lv_aload_n hx hb dX8_nearest_0 rfl (lv_at hl 0 rfl) ?_
  refine lv_iload_n hx hb dX8_nearest_1 rfl (lv_at hl 1 rfl) ?_
  refine lv_iconst (v := 0) hx hb dX8_nearest_2 (by decide) ?_
  refine lv_aload_n hx hb dX8_nearest_3 rfl (lv_at hl 0 rfl) ?_
  refine va_get (D := D) (ci := 8) (v := .ref ms) (C := RX8) (T := TX8) (N := 12) hx hb ht inA_X8 hown hK hP 0 rfl rfl 0 (by decide) (ht _ lf_X8_7) (fun _ h9 => h9) rfl dX8_nearest_4 ?_
  refine lv_bipush (v := 51) hx hb dX8_nearest_7 (by decide) ?_
  refine va_iald hx hb hK hP 1 0 rfl rfl (by unfold vp_in; decide) dX8_nearest_9 ?_
  refine k_nrm (y := 0) (show sf (51 : Int32).toNatClampNeg = 0 from hs51) ?_
  refine lv_iconst (v := 4) hx hb dX8_nearest_10 (by decide) ?_
  refine lv_isub hx hb dX8_nearest_11 ?_
  refine k_nrm (y := (-4)) (by decide) ?_
  have ct := k_cut_of (wc := []) (wr := [(mo, .inr (8, [.ref ms, .int sv, .ref mb, .int 0, .int th, .ref mk, .int ml, .ref mfd, .int mf, .int sp, .int on, .int tw])), (ms, .inl (K, 889, .inl sf))]) (tc := []) hG hS hA hK hP hD [] [0, 1] [] rfl rfl (by decide) (by decide) (by decide) rfl
  refine k_endi (As := [.int i, .int 0, .int (-4)]) ct (k_runS (As := [.int i, .int 0, .int (-4)]) (rest := [.ref mo]) S0 Ls_X8_46 ct (c_M_in_n4 l D i s.heap.size) hl.1 rfl (Nat.le_of_ble_eq_true rfl) rfl dX8_nearest_12 ⟨⟨Nat.le_of_ble_eq_true rfl, Nat.le_of_ble_eq_true rfl⟩, Nat.le_of_ble_eq_true rfl, Nat.le_of_ble_eq_true rfl⟩) rfl rfl (fun r_1 _ H locs hw_2 hP hD hK hS => ?_)
  have hK : va_K D vwCl [(K, .int)] s := hK
  have hP : va_P D vwCl [(mo, .inr (8, [.ref ms, .int sv, .ref mb, .int 0, .int th, .ref mk, .int ml, .ref mfd, .int mf, .int sp, .int on, .int tw])), (ms, .inl (K, 889, .inl sf))] H := hP
  have hD : va_D A [(mo, .inr (8, [.ref ms, .int sv, .ref mb, .int 0, .int th, .ref mk, .int ml, .ref mfd, .int mf, .int sp, .int on, .int tw])), (ms, .inl (K, 889, .inl sf))] := hD
  have hw_2 : r_1 = 0 := hw_2
  have hw_2 := hw_2.symm
  subst hw_2
  refine k_nrm (y := 0) rfl ?_
  refine lv_iconst (v := 1) hx hb dX8_nearest_15 (by decide) ?_
  have ct := k_cut_of (wc := [(mo, .inr (8, [.ref ms, .int sv, .ref mb, .int 0, .int th, .ref mk, .int ml, .ref mfd, .int mf, .int sp, .int on, .int tw]))]) (wr := [(ms, .inl (K, 889, .inl sf))]) (tc := []) hG hS hA hK hP hD [0] [1] [] rfl rfl (by decide) (by decide) (by decide) rfl
  refine k_endi (As := [.ref mo, .int 0, .int 1]) ct (k_runV (As := [.int 0, .int 1]) (rest := []) S0 Lv_X8_58 rfl (ci := 8) (q0 := 0) rfl rfl ct (c_M_goes0 l D mo ms sv mb th mk ml mfd mf sp on tw 1 H.size) hl.1 rfl (Nat.le_of_ble_eq_true rfl) rfl dX8_nearest_16 ⟨⟨Nat.le_of_ble_eq_true rfl, Nat.le_of_ble_eq_true rfl⟩, Nat.le_of_ble_eq_true rfl, Nat.le_of_ble_eq_true rfl⟩) rfl rfl (fun r_3 _ H locs hw_4 hP hD hK hS => ?_)
  have hK : va_K D vwCl [(K, .int)] s := hK
  have hP : va_P D vwCl [(ms, .inl (K, 889, .inl sf)), (mo, .inr (8, [.ref ms, .int sv, .ref mb, .int 0, .int 1, .ref mk, .int ml, .ref mfd, .int mf, .int sp, .int on, .int tw]))] H := hP
  have hD : va_D A [(ms, .inl (K, 889, .inl sf)), (mo, .inr (8, [.ref ms, .int sv, .ref mb, .int 0, .int 1, .ref mk, .int ml, .ref mfd, .int mf, .int sp, .int on, .int tw]))] := hD
  have hw_4 : r_3 = 0 := hw_4
  have hw_4 := hw_4.symm
  subst hw_4
  refine k_nrm (y := 0) rfl ?_
  refine lv_if_ne (tgt := 24) hx hb dX8_nearest_19 (by decide) (fun c9 => absurd (by decide) c9) (fun _ => ?_)
  refine lv_iconst (v := 0) hx hb dX8_nearest_22 (by decide) ?_
  have hP9 : va_P D vwCl [(mo, .inr (8, [.ref ms, .int sv, .ref mb, .int 0, .int 1, .ref mk, .int ml, .ref mfd, .int mf, .int sp, .int on, .int tw])), (ms, .inl (K, 889, .inl sf))] H := hP.sub [1, 0] rfl
  have hD9 : va_D A [(mo, .inr (8, [.ref ms, .int sv, .ref mb, .int 0, .int 1, .ref mk, .int ml, .ref mfd, .int mf, .int sp, .int on, .int tw])), (ms, .inl (K, 889, .inl sf))] := hD.sub [1, 0] (by decide) rfl
  have hK9 : va_K D vwCl [] s := hK.sub [] rfl
  exact W.iret (v := 0) hx hb hr (fun t ht9 hW9 => ⟨⟨0, (), rfl, by first | rfl | trivial | assumption, ⟨by rw [ht9]; exact hP9, va_K.moved hW9.alike hK9, hD9⟩⟩, hS.F ht9⟩) hS.2.2 dX8_nearest_23
set_option maxHeartbeats 4000000 in
set_option maxRecDepth 100000 in
theorem c_M_undo (l : Launch) (D : va_G) (mo : Nat) (ms : Nat) (mb : Nat) (th : Int32) (mk : Nat) (ml : Int32) (mfd : Nat) (mf : Int32) (sp : Int32) (on : Int32) (tw : Int32) (sz : Nat) : k_Mi (S := Unit) l D yX8_undo cX8_undo 1 (some .int) 1 0 0 22 [.ref mo] [(mo, .inr (8, [.ref ms, .int 0, .ref mb, .int 0, .int th, .ref mk, .int ml, .ref mfd, .int mf, .int sp, .int on, .int tw]))] [] (fun (r : Int32) (_ : Unit) => r = 0) (fun _ => [(mo, .inr (8, [.ref ms, .int 0, .ref mb, .int 0, .int 1, .ref mk, .int ml, .ref mfd, .int mf, .int sp, .int on, .int tw]))]) (fun _ => []) sz := by
  refine Met.ofW (cc := cX8_undo) (maxL := 1) (ret := (some .int)) (by decide) rfl ?_
  intro p e s m args below meth c s₁ B hml hv
  obtain ⟨rfl, hsz, hP, hK, hD0, hG⟩ := hv
  have hx := B.exec
  have hb := B.bytes
  have hr := B.returns
  have ht : ∀ v9 ∈ wsA, v9.before ([.ref mo] : List Value).toArray s = true := fun v9 h9 => atoms_spec (ws := k_ws yX8_undo cX8_undo 1 (some .int)) B.pre v9 (List.mem_cons_of_mem _ h9)
  have hown : s.vm.findClass RX8 = some m.cls := findClass_of_methodNamed B.named
  have S0 : k_C p s m ([.ref mo] : List Value).toArray c cX8_undo 1 RX8 := ⟨hx, hb, hml, hown, ht⟩
  have hlocks := B.notSynchronized
  subst hsz
  have hD := hD0.self (sz := s.heap.size)
  generalize hAe : va_A [(mo, .inr (8, [.ref ms, .int 0, .ref mb, .int 0, .int th, .ref mk, .int ml, .ref mfd, .int mf, .int sp, .int on, .int tw]))] s.heap.size = A at hD hG ⊢
  have hA : ∀ q : Nat, s.heap.size ≤ q → A q := fun q h => by rw [← hAe]; exact Or.inr h
  have hS : va_S A s.heap s.heap [] := va_S.rf
  have hl := lv_entry ([.ref mo]) (n := 1) (Nat.le_of_ble_eq_true rfl)
  rw [lg_entry_eq]
  generalize (lg_sl ([.ref mo]) ++ List.replicate (1 - (lg_sl ([.ref mo])).length) Slot.unset).toArray = ls at hl ⊢
  have hl : lv_has ls 1 [(0, .ref mo)] := hl
  have hP : va_P D vwCl [(mo, .inr (8, [.ref ms, .int 0, .ref mb, .int 0, .int th, .ref mk, .int ml, .ref mfd, .int mf, .int sp, .int on, .int tw]))] s.heap := hP
  refine lv_aload_n hx hb dX8_undo_0 rfl (lv_at hl 0 rfl) ?_
  refine lv_aload_n hx hb dX8_undo_1 rfl (lv_at hl 0 rfl) ?_
  refine va_get (D := D) (ci := 8) (v := .int 0) (C := RX8) (T := TX8) (N := 12) hx hb ht inA_X8 hown hK hP 0 rfl rfl 1 (by decide) (ht _ lf_X8_27) (fun _ h9 => h9) rfl dX8_undo_2 ?_
  refine lv_if_le (tgt := 12) hx hb dX8_undo_5 (by decide) (fun _ => ?_) (fun c9 => absurd (by decide) c9)
  refine lv_iconst (v := 0) hx hb dX8_undo_12 (by decide) ?_
  refine lv_iconst (v := 1) hx hb dX8_undo_13 (by decide) ?_
  have ct := k_cut_of (wc := [(mo, .inr (8, [.ref ms, .int 0, .ref mb, .int 0, .int th, .ref mk, .int ml, .ref mfd, .int mf, .int sp, .int on, .int tw]))]) (wr := []) (tc := []) hG hS hA hK hP hD [0] [] [] rfl rfl (by decide) (by decide) (by decide) rfl
  refine k_endi (As := [.ref mo, .int 0, .int 1]) ct (k_runV (As := [.int 0, .int 1]) (rest := []) S0 Lv_X8_58 rfl (ci := 8) (q0 := 0) rfl rfl ct (c_M_goes0 l D mo ms 0 mb th mk ml mfd mf sp on tw 1 s.heap.size) hl.1 rfl (Nat.le_of_ble_eq_true rfl) rfl dX8_undo_14 ⟨⟨Nat.le_of_ble_eq_true rfl, Nat.le_of_ble_eq_true rfl⟩, Nat.le_of_ble_eq_true rfl, Nat.le_of_ble_eq_true rfl⟩) rfl rfl (fun r_1 _ H locs hw_2 hP hD hK hS => ?_)
  have hK : va_K D vwCl [] s := hK
  have hP : va_P D vwCl [(mo, .inr (8, [.ref ms, .int 0, .ref mb, .int 0, .int 1, .ref mk, .int ml, .ref mfd, .int mf, .int sp, .int on, .int tw]))] H := hP
  have hD : va_D A [(mo, .inr (8, [.ref ms, .int 0, .ref mb, .int 0, .int 1, .ref mk, .int ml, .ref mfd, .int mf, .int sp, .int on, .int tw]))] := hD
  have hw_2 : r_1 = 0 := hw_2
  have hw_2 := hw_2.symm
  subst hw_2
  refine k_nrm (y := 0) rfl ?_
  refine lv_if_ne (tgt := 22) hx hb dX8_undo_17 (by decide) (fun c9 => absurd (by decide) c9) (fun _ => ?_)
  refine lv_iconst (v := 0) hx hb dX8_undo_20 (by decide) ?_
  have hP9 : va_P D vwCl [(mo, .inr (8, [.ref ms, .int 0, .ref mb, .int 0, .int 1, .ref mk, .int ml, .ref mfd, .int mf, .int sp, .int on, .int tw]))] H := hP.sub [0] rfl
  have hD9 : va_D A [(mo, .inr (8, [.ref ms, .int 0, .ref mb, .int 0, .int 1, .ref mk, .int ml, .ref mfd, .int mf, .int sp, .int on, .int tw]))] := hD.sub [0] (by decide) rfl
  have hK9 : va_K D vwCl [] s := hK.sub [] rfl
  exact W.iret (v := 0) hx hb hr (fun t ht9 hW9 => ⟨⟨0, (), rfl, by first | rfl | trivial | assumption, ⟨by rw [ht9]; exact hP9, va_K.moved hW9.alike hK9, hD9⟩⟩, hS.F ht9⟩) hS.2.2 dX8_undo_21
set_option maxHeartbeats 4000000 in
set_option maxRecDepth 100000 in
theorem c_M_clearB (l : Launch) (D : va_G) (mo : Nat) (ms : Nat) (sv : Int32) (mb : Nat) (th : Int32) (mk : Nat) (ml : Int32) (mfd : Nat) (mf : Int32) (sp : Int32) (on : Int32) (tw : Int32) (sz : Nat) : k_Mi (S := Unit) l D yX8_clearBuffer cX8_clearBuffer 2 (some .int) 0 0 0 0 [.ref mo] [(mo, .inr (8, [.ref ms, .int sv, .ref mb, .int 0, .int th, .ref mk, .int ml, .ref mfd, .int mf, .int sp, .int on, .int tw]))] [] (fun (r : Int32) (_ : Unit) => r = 0) (fun _ => [(mo, .inr (8, [.ref ms, .int sv, .ref mb, .int 0, .int 0, .ref mk, .int ml, .ref mfd, .int mf, .int sp, .int on, .int tw]))]) (fun _ => []) sz := by
  refine Met.ofW (cc := cX8_clearBuffer) (maxL := 2) (ret := (some .int)) (by decide) rfl ?_
  intro p e s m args below meth c s₁ B hml hv
  obtain ⟨rfl, hsz, hP, hK, hD0, hG⟩ := hv
  have hx := B.exec
  have hb := B.bytes
  have hr := B.returns
  have ht : ∀ v9 ∈ wsA, v9.before ([.ref mo] : List Value).toArray s = true := fun v9 h9 => atoms_spec (ws := k_ws yX8_clearBuffer cX8_clearBuffer 2 (some .int)) B.pre v9 (List.mem_cons_of_mem _ h9)
  have hown : s.vm.findClass RX8 = some m.cls := findClass_of_methodNamed B.named
  have S0 : k_C p s m ([.ref mo] : List Value).toArray c cX8_clearBuffer 2 RX8 := ⟨hx, hb, hml, hown, ht⟩
  have hlocks := B.notSynchronized
  subst hsz
  have hD := hD0.self (sz := s.heap.size)
  generalize hAe : va_A [(mo, .inr (8, [.ref ms, .int sv, .ref mb, .int 0, .int th, .ref mk, .int ml, .ref mfd, .int mf, .int sp, .int on, .int tw]))] s.heap.size = A at hD hG ⊢
  have hA : ∀ q : Nat, s.heap.size ≤ q → A q := fun q h => by rw [← hAe]; exact Or.inr h
  have hS : va_S A s.heap s.heap [] := va_S.rf
  have hl := lv_entry ([.ref mo]) (n := 2) (Nat.le_of_ble_eq_true rfl)
  rw [lg_entry_eq]
  generalize (lg_sl ([.ref mo]) ++ List.replicate (2 - (lg_sl ([.ref mo])).length) Slot.unset).toArray = ls at hl ⊢
  have hl : lv_has ls 2 [(0, .ref mo)] := hl
  have hP : va_P D vwCl [(mo, .inr (8, [.ref ms, .int sv, .ref mb, .int 0, .int th, .ref mk, .int ml, .ref mfd, .int mf, .int sp, .int on, .int tw]))] s.heap := hP
  refine lv_aload_n hx hb dX8_clearBuffer_0 rfl (lv_at hl 0 rfl) ?_
  refine lv_iconst (v := 0) hx hb dX8_clearBuffer_1 (by decide) ?_
  refine va_put (D := D) (ci := 8) (v := .int 0) (ty := .int) (C := RX8) (T := TX8) (N := 12) hx hb ht inA_X8 tyX8 tyX8_ok nmX8 hown hK hP hD hS 0 rfl rfl 4 (by decide) (ht _ lf_X8_23) (fun _ h9 => h9) rfl (tyX8_ok 4 (by decide)) rfl rfl (Nat.le_of_ble_eq_true rfl) dX8_clearBuffer_2 (fun H locs hP hD hS => ?_)
  have hP : va_P D vwCl [(mo, .inr (8, [.ref ms, .int sv, .ref mb, .int 0, .int 0, .ref mk, .int ml, .ref mfd, .int mf, .int sp, .int on, .int tw]))] H := hP
  have hD : va_D A [(mo, .inr (8, [.ref ms, .int sv, .ref mb, .int 0, .int 0, .ref mk, .int ml, .ref mfd, .int mf, .int sp, .int on, .int tw]))] := hD
  refine lv_aload_n hx hb dX8_clearBuffer_5 rfl (lv_at hl 0 rfl) ?_
  refine va_get (D := D) (ci := 8) (v := .int 0) (C := RX8) (T := TX8) (N := 12) hx hb ht inA_X8 hown hK hP 0 rfl rfl 3 (by decide) (ht _ lf_X8_147) (fun _ h9 => h9) rfl dX8_clearBuffer_6 ?_
  refine lv_istore_n (lv' := [(1, .int 0), (0, .ref mo)]) hx hb dX8_clearBuffer_9 rfl hl (by decide) rfl (fun ls hl => ?_)
  refine lv_aload_n hx hb dX8_clearBuffer_10 rfl (lv_at hl 1 rfl) ?_
  refine lv_iconst (v := 0) hx hb dX8_clearBuffer_11 (by decide) ?_
  refine va_put (D := D) (ci := 8) (v := .int 0) (ty := .int) (C := RX8) (T := TX8) (N := 12) hx hb ht inA_X8 tyX8 tyX8_ok nmX8 hown hK hP hD hS 0 rfl rfl 3 (by decide) (ht _ lf_X8_147) (fun _ h9 => h9) rfl (tyX8_ok 3 (by decide)) rfl rfl (Nat.le_of_ble_eq_true rfl) dX8_clearBuffer_12 (fun H locs hP hD hS => ?_)
  have hP : va_P D vwCl [(mo, .inr (8, [.ref ms, .int sv, .ref mb, .int 0, .int 0, .ref mk, .int ml, .ref mfd, .int mf, .int sp, .int on, .int tw]))] H := hP
  have hD : va_D A [(mo, .inr (8, [.ref ms, .int sv, .ref mb, .int 0, .int 0, .ref mk, .int ml, .ref mfd, .int mf, .int sp, .int on, .int tw]))] := hD
  refine lv_iload_n hx hb dX8_clearBuffer_15 rfl (lv_at hl 0 rfl) ?_
  have hP9 : va_P D vwCl [(mo, .inr (8, [.ref ms, .int sv, .ref mb, .int 0, .int 0, .ref mk, .int ml, .ref mfd, .int mf, .int sp, .int on, .int tw]))] H := hP.sub [0] rfl
  have hD9 : va_D A [(mo, .inr (8, [.ref ms, .int sv, .ref mb, .int 0, .int 0, .ref mk, .int ml, .ref mfd, .int mf, .int sp, .int on, .int tw]))] := hD.sub [0] (by decide) rfl
  have hK9 : va_K D vwCl [] s := hK.sub [] rfl
  exact W.iret (v := 0) hx hb hr (fun t ht9 hW9 => ⟨⟨0, (), rfl, by first | rfl | trivial | assumption, ⟨by rw [ht9]; exact hP9, va_K.moved hW9.alike hK9, hD9⟩⟩, hS.F ht9⟩) hS.2.2 dX8_clearBuffer_16
