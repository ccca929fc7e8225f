set_option maxRecDepth 20000 in
theorem lk_X8_readsAndCounts : Cond.code yX8_readsAndCounts cX8_readsAndCounts 2 (some .int) ∈ wsA := mA 914 rfl rfl
theorem ly_X8_readsAndCounts : k_y yX8_readsAndCounts 0 := ⟨by decide +kernel, by decide +kernel, by decide +kernel⟩
set_option maxRecDepth 20000 in
theorem lm_X8_readsAndCounts : Cond.instanceMethod yX8_readsAndCounts ∈ wsA := mA 913 rfl rfl
theorem le_X8_readsAndCounts : Cond.selects (yX8_readsAndCounts).cls yX8_readsAndCounts yX8_readsAndCounts ∈ wsA := mS 31 rfl rfl
set_option maxRecDepth 20000 in
theorem Lv_X8_132 : k_LV RX8 132 yX8_readsAndCounts cX8_readsAndCounts 2 (some .int) 0 := ⟨mA 911 rfl rfl, lm_X8_readsAndCounts, le_X8_readsAndCounts, li_BarcodeWandModel, lk_X8_readsAndCounts, ly_X8_readsAndCounts⟩
set_option maxRecDepth 20000 in
theorem lk_X8_looksAtLabel : Cond.code yX8_looksAtLabel cX8_looksAtLabel 7 none ∈ wsA := mA 910 rfl rfl
theorem ly_X8_looksAtLabel : k_y yX8_looksAtLabel 3 := ⟨by decide +kernel, by decide +kernel, by decide +kernel⟩
set_option maxRecDepth 20000 in
theorem lm_X8_looksAtLabel : Cond.instanceMethod yX8_looksAtLabel ∈ wsA := mA 909 rfl rfl
theorem le_X8_looksAtLabel : Cond.selects (yX8_looksAtLabel).cls yX8_looksAtLabel yX8_looksAtLabel ∈ wsA := mS 30 rfl rfl
set_option maxRecDepth 20000 in
theorem Lv_X8_128 : k_LV RX8 128 yX8_looksAtLabel cX8_looksAtLabel 7 none 3 := ⟨mA 907 rfl rfl, lm_X8_looksAtLabel, le_X8_looksAtLabel, li_BarcodeWandModel, lk_X8_looksAtLabel, ly_X8_looksAtLabel⟩
set_option maxRecDepth 20000 in
theorem lk_X8_arePeriods : Cond.code yX8_arePeriods cX8_arePeriods 2 (some .boolean) ∈ wsA := mA 902 rfl rfl
theorem ly_X8_arePeriods : k_y yX8_arePeriods 2 := ⟨by decide +kernel, by decide +kernel, by decide +kernel⟩
set_option maxRecDepth 20000 in
theorem ls_X8_arePeriods : Cond.static yX8_arePeriods ∈ wsA := mA 901 rfl rfl
set_option maxRecDepth 20000 in
theorem Ls_X8_135 : k_LS RX8 135 yX8_arePeriods cX8_arePeriods 2 (some .boolean) 2 := ⟨mA 900 rfl rfl, ls_X8_arePeriods, li_BarcodeWandModel, lk_X8_arePeriods, ly_X8_arePeriods⟩
set_option maxRecDepth 20000 in
theorem lk_X8_draws : Cond.code yX8_draws cX8_draws 5 (some .int) ∈ wsA := mA 906 rfl rfl
theorem ly_X8_draws : k_y yX8_draws 3 := ⟨by decide +kernel, by decide +kernel, by decide +kernel⟩
set_option maxRecDepth 20000 in
theorem lm_X8_draws : Cond.instanceMethod yX8_draws ∈ wsA := mA 905 rfl rfl
theorem le_X8_draws : Cond.selects (yX8_draws).cls yX8_draws yX8_draws ∈ wsA := mS 29 rfl rfl
set_option maxRecDepth 20000 in
theorem Lv_X8_138 : k_LV RX8 138 yX8_draws cX8_draws 5 (some .int) 3 := ⟨mA 903 rfl rfl, lm_X8_draws, le_X8_draws, li_BarcodeWandModel, lk_X8_draws, ly_X8_draws⟩
theorem dX8_read_0 : decode cX8_read 0 = .ok (.aload_n 0, 1) := by decide +kernel
theorem dX8_read_1 : decode cX8_read 1 = .ok (.iconst 0, 1) := by decide +kernel
theorem dX8_read_2 : decode cX8_read 2 = .ok (.putfield 23, 3) := by decide +kernel
theorem dX8_read_5 : decode cX8_read 5 = .ok (.aload_n 0, 1) := by decide +kernel
theorem dX8_read_6 : decode cX8_read 6 = .ok (.invokevirtual 62, 3) := by decide +kernel
theorem dX8_read_9 : decode cX8_read 9 = .ok (.aload_n 0, 1) := by decide +kernel
theorem dX8_read_10 : decode cX8_read 10 = .ok (.invokevirtual 132, 3) := by decide +kernel
theorem dX8_read_13 : decode cX8_read 13 = .ok (.ireturn, 1) := by decide +kernel
theorem dX8_draws_0 : decode cX8_draws 0 = .ok (.aload_n 0, 1) := by decide +kernel
theorem dX8_draws_1 : decode cX8_draws 1 = .ok (.iload_n 1, 1) := by decide +kernel
theorem dX8_draws_2 : decode cX8_draws 2 = .ok (.iload_n 2, 1) := by decide +kernel
theorem dX8_draws_3 : decode cX8_draws 3 = .ok (.iload_n 3, 1) := by decide +kernel
theorem dX8_draws_4 : decode cX8_draws 4 = .ok (.invokevirtual 128, 3) := by decide +kernel
theorem dX8_draws_7 : decode cX8_draws 7 = .ok (.aload_n 0, 1) := by decide +kernel
theorem dX8_draws_8 : decode cX8_draws 8 = .ok (.getfield 7, 3) := by decide +kernel
theorem dX8_draws_11 : decode cX8_draws 11 = .ok (.bipush 51, 2) := by decide +kernel
theorem dX8_draws_13 : decode cX8_draws 13 = .ok (.aload_n 0, 1) := by decide +kernel
theorem dX8_draws_14 : decode cX8_draws 14 = .ok (.getfield 78, 3) := by decide +kernel
theorem dX8_draws_17 : decode cX8_draws 17 = .ok (.iastore, 1) := by decide +kernel
theorem dX8_draws_18 : decode cX8_draws 18 = .ok (.iconst 0, 1) := by decide +kernel
theorem dX8_draws_19 : decode cX8_draws 19 = .ok (.istore 4, 2) := by decide +kernel
theorem dX8_draws_21 : decode cX8_draws 21 = .ok (.iload 4, 2) := by decide +kernel
theorem dX8_draws_23 : decode cX8_draws 23 = .ok (.aload_n 0, 1) := by decide +kernel
theorem dX8_draws_24 : decode cX8_draws 24 = .ok (.getfield 78, 3) := by decide +kernel
theorem dX8_draws_27 : decode cX8_draws 27 = .ok (.if_icmp .ge 26, 3) := by decide +kernel
theorem dX8_draws_30 : decode cX8_draws 30 = .ok (.aload_n 0, 1) := by decide +kernel
theorem dX8_draws_31 : decode cX8_draws 31 = .ok (.getfield 7, 3) := by decide +kernel
theorem dX8_draws_34 : decode cX8_draws 34 = .ok (.bipush 52, 2) := by decide +kernel
theorem dX8_draws_36 : decode cX8_draws 36 = .ok (.iload 4, 2) := by decide +kernel
theorem dX8_draws_38 : decode cX8_draws 38 = .ok (.iadd, 1) := by decide +kernel
theorem dX8_draws_39 : decode cX8_draws 39 = .ok (.aload_n 0, 1) := by decide +kernel
theorem dX8_draws_40 : decode cX8_draws 40 = .ok (.getfield 17, 3) := by decide +kernel
theorem dX8_draws_43 : decode cX8_draws 43 = .ok (.iload 4, 2) := by decide +kernel
theorem dX8_draws_45 : decode cX8_draws 45 = .ok (.iaload, 1) := by decide +kernel
theorem dX8_draws_46 : decode cX8_draws 46 = .ok (.iastore, 1) := by decide +kernel
theorem dX8_draws_47 : decode cX8_draws 47 = .ok (.iinc 4 1, 3) := by decide +kernel
theorem dX8_draws_50 : decode cX8_draws 50 = .ok (.goto (-29), 3) := by decide +kernel
theorem dX8_draws_53 : decode cX8_draws 53 = .ok (.aload_n 0, 1) := by decide +kernel
theorem dX8_draws_54 : decode cX8_draws 54 = .ok (.invokevirtual 132, 3) := by decide +kernel
theorem dX8_draws_57 : decode cX8_draws 57 = .ok (.ireturn, 1) := by decide +kernel
theorem dX8_arePeriods_0 : decode cX8_arePeriods 0 = .ok (.iload_n 0, 1) := by decide +kernel
theorem dX8_arePeriods_1 : decode cX8_arePeriods 1 = .ok (.iconst 1, 1) := by decide +kernel
theorem dX8_arePeriods_2 : decode cX8_arePeriods 2 = .ok (.bipush 50, 2) := by decide +kernel
theorem dX8_arePeriods_4 : decode cX8_arePeriods 4 = .ok (.invokestatic 46, 3) := by decide +kernel
theorem dX8_arePeriods_7 : decode cX8_arePeriods 7 = .ok (.ifCond .eq 17, 3) := by decide +kernel
theorem dX8_arePeriods_10 : decode cX8_arePeriods 10 = .ok (.iload_n 1, 1) := by decide +kernel
theorem dX8_arePeriods_11 : decode cX8_arePeriods 11 = .ok (.iconst 1, 1) := by decide +kernel
theorem dX8_arePeriods_12 : decode cX8_arePeriods 12 = .ok (.bipush 50, 2) := by decide +kernel
theorem dX8_arePeriods_14 : decode cX8_arePeriods 14 = .ok (.invokestatic 46, 3) := by decide +kernel
theorem dX8_arePeriods_17 : decode cX8_arePeriods 17 = .ok (.ifCond .eq 7, 3) := by decide +kernel
theorem dX8_arePeriods_20 : decode cX8_arePeriods 20 = .ok (.iconst 1, 1) := by decide +kernel
theorem dX8_arePeriods_21 : decode cX8_arePeriods 21 = .ok (.goto 4, 3) := by decide +kernel
theorem dX8_arePeriods_24 : decode cX8_arePeriods 24 = .ok (.iconst 0, 1) := by decide +kernel
theorem dX8_arePeriods_25 : decode cX8_arePeriods 25 = .ok (.ireturn, 1) := by decide +kernel
theorem dX8_draw_0 : decode cX8_draw 0 = .ok (.aload_n 0, 1) := by decide +kernel
theorem dX8_draw_1 : decode cX8_draw 1 = .ok (.iload_n 1, 1) := by decide +kernel
theorem dX8_draw_2 : decode cX8_draw 2 = .ok (.iload_n 2, 1) := by decide +kernel
theorem dX8_draw_3 : decode cX8_draw 3 = .ok (.invokestatic 135, 3) := by decide +kernel
theorem dX8_draw_6 : decode cX8_draw 6 = .ok (.aload_n 0, 1) := by decide +kernel
theorem dX8_draw_7 : decode cX8_draw 7 = .ok (.getfield 7, 3) := by decide +kernel
theorem dX8_draw_10 : decode cX8_draw 10 = .ok (.iconst 0, 1) := by decide +kernel
theorem dX8_draw_11 : decode cX8_draw 11 = .ok (.iaload, 1) := by decide +kernel
theorem dX8_draw_12 : decode cX8_draw 12 = .ok (.ifCond .le 7, 3) := by decide +kernel
theorem dX8_draw_15 : decode cX8_draw 15 = .ok (.iconst 1, 1) := by decide +kernel
theorem dX8_draw_16 : decode cX8_draw 16 = .ok (.goto 4, 3) := by decide +kernel
theorem dX8_draw_19 : decode cX8_draw 19 = .ok (.iconst 0, 1) := by decide +kernel
theorem dX8_draw_20 : decode cX8_draw 20 = .ok (.invokevirtual 58, 3) := by decide +kernel
theorem dX8_draw_23 : decode cX8_draw 23 = .ok (.ifCond .ne 5, 3) := by decide +kernel
theorem dX8_draw_26 : decode cX8_draw 26 = .ok (.iconst 0, 1) := by decide +kernel
theorem dX8_draw_27 : decode cX8_draw 27 = .ok (.ireturn, 1) := by decide +kernel
theorem dX8_draw_28 : decode cX8_draw 28 = .ok (.aload_n 0, 1) := by decide +kernel
theorem dX8_draw_29 : decode cX8_draw 29 = .ok (.invokevirtual 62, 3) := by decide +kernel
theorem dX8_draw_32 : decode cX8_draw 32 = .ok (.aload_n 0, 1) := by decide +kernel
theorem dX8_draw_33 : decode cX8_draw 33 = .ok (.iload_n 1, 1) := by decide +kernel
theorem dX8_draw_34 : decode cX8_draw 34 = .ok (.iload_n 2, 1) := by decide +kernel
theorem dX8_draw_35 : decode cX8_draw 35 = .ok (.iload_n 3, 1) := by decide +kernel
theorem dX8_draw_36 : decode cX8_draw 36 = .ok (.invokevirtual 138, 3) := by decide +kernel
theorem dX8_draw_39 : decode cX8_draw 39 = .ok (.ireturn, 1) := by decide +kernel
theorem dX8_ifDrawn_0 : decode cX8_ifDrawn 0 = .ok (.aload_n 0, 1) := by decide +kernel
theorem dX8_ifDrawn_1 : decode cX8_ifDrawn 1 = .ok (.iload_n 1, 1) := by decide +kernel
theorem dX8_ifDrawn_2 : decode cX8_ifDrawn 2 = .ok (.iload_n 2, 1) := by decide +kernel
theorem dX8_ifDrawn_3 : decode cX8_ifDrawn 3 = .ok (.invokestatic 135, 3) := by decide +kernel
theorem dX8_ifDrawn_6 : decode cX8_ifDrawn 6 = .ok (.aload_n 0, 1) := by decide +kernel
theorem dX8_ifDrawn_7 : decode cX8_ifDrawn 7 = .ok (.getfield 7, 3) := by decide +kernel
theorem dX8_ifDrawn_10 : decode cX8_ifDrawn 10 = .ok (.iconst 0, 1) := by decide +kernel
theorem dX8_ifDrawn_11 : decode cX8_ifDrawn 11 = .ok (.iaload, 1) := by decide +kernel
theorem dX8_ifDrawn_12 : decode cX8_ifDrawn 12 = .ok (.ifCond .le 7, 3) := by decide +kernel
theorem dX8_ifDrawn_15 : decode cX8_ifDrawn 15 = .ok (.iconst 1, 1) := by decide +kernel
theorem dX8_ifDrawn_16 : decode cX8_ifDrawn 16 = .ok (.goto 4, 3) := by decide +kernel
theorem dX8_ifDrawn_19 : decode cX8_ifDrawn 19 = .ok (.iconst 0, 1) := by decide +kernel
theorem dX8_ifDrawn_20 : decode cX8_ifDrawn 20 = .ok (.invokevirtual 58, 3) := by decide +kernel
theorem dX8_ifDrawn_23 : decode cX8_ifDrawn 23 = .ok (.ifCond .ne 5, 3) := by decide +kernel
theorem dX8_ifDrawn_26 : decode cX8_ifDrawn 26 = .ok (.iconst 0, 1) := by decide +kernel
theorem dX8_ifDrawn_27 : decode cX8_ifDrawn 27 = .ok (.ireturn, 1) := by decide +kernel
theorem dX8_ifDrawn_28 : decode cX8_ifDrawn 28 = .ok (.aload_n 0, 1) := by decide +kernel
theorem dX8_ifDrawn_29 : decode cX8_ifDrawn 29 = .ok (.iload_n 1, 1) := by decide +kernel
theorem dX8_ifDrawn_30 : decode cX8_ifDrawn 30 = .ok (.iload_n 2, 1) := by decide +kernel
theorem dX8_ifDrawn_31 : decode cX8_ifDrawn 31 = .ok (.iload_n 3, 1) := by decide +kernel
theorem dX8_ifDrawn_32 : decode cX8_ifDrawn 32 = .ok (.invokevirtual 128, 3) := by decide +kernel
theorem dX8_ifDrawn_35 : decode cX8_ifDrawn 35 = .ok (.aload_n 0, 1) := by decide +kernel
theorem dX8_ifDrawn_36 : decode cX8_ifDrawn 36 = .ok (.aload_n 0, 1) := by decide +kernel
theorem dX8_ifDrawn_37 : decode cX8_ifDrawn 37 = .ok (.getfield 7, 3) := by decide +kernel
theorem dX8_ifDrawn_40 : decode cX8_ifDrawn 40 = .ok (.bipush 93, 2) := by decide +kernel
theorem dX8_ifDrawn_42 : decode cX8_ifDrawn 42 = .ok (.iaload, 1) := by decide +kernel
theorem dX8_ifDrawn_43 : decode cX8_ifDrawn 43 = .ok (.invokevirtual 122, 3) := by decide +kernel
theorem dX8_ifDrawn_46 : decode cX8_ifDrawn 46 = .ok (.ireturn, 1) := by decide +kernel
theorem dX8_result_0 : decode cX8_result 0 = .ok (.aload_n 0, 1) := by decide +kernel
theorem dX8_result_1 : decode cX8_result 1 = .ok (.iconst 0, 1) := by decide +kernel
theorem dX8_result_2 : decode cX8_result 2 = .ok (.putfield 23, 3) := by decide +kernel
theorem dX8_result_5 : decode cX8_result 5 = .ok (.aload_n 0, 1) := by decide +kernel
theorem dX8_result_6 : decode cX8_result 6 = .ok (.invokevirtual 119, 3) := by decide +kernel
theorem dX8_result_9 : decode cX8_result 9 = .ok (.aload_n 0, 1) := by decide +kernel
theorem dX8_result_10 : decode cX8_result 10 = .ok (.aload_n 0, 1) := by decide +kernel
theorem dX8_result_11 : decode cX8_result 11 = .ok (.getfield 7, 3) := by decide +kernel
theorem dX8_result_14 : decode cX8_result 14 = .ok (.bipush 93, 2) := by decide +kernel
theorem dX8_result_16 : decode cX8_result 16 = .ok (.iaload, 1) := by decide +kernel
theorem dX8_result_17 : decode cX8_result 17 = .ok (.invokevirtual 122, 3) := by decide +kernel
theorem dX8_result_20 : decode cX8_result 20 = .ok (.ireturn, 1) := by decide +kernel
theorem dX8_reason_0 : decode cX8_reason 0 = .ok (.aload_n 0, 1) := by decide +kernel
theorem dX8_reason_1 : decode cX8_reason 1 = .ok (.iconst 0, 1) := by decide +kernel
theorem dX8_reason_2 : decode cX8_reason 2 = .ok (.putfield 23, 3) := by decide +kernel
theorem dX8_reason_5 : decode cX8_reason 5 = .ok (.aload_n 0, 1) := by decide +kernel
theorem dX8_reason_6 : decode cX8_reason 6 = .ok (.invokevirtual 119, 3) := by decide +kernel
theorem dX8_reason_9 : decode cX8_reason 9 = .ok (.aload_n 0, 1) := by decide +kernel
theorem dX8_reason_10 : decode cX8_reason 10 = .ok (.iload_n 1, 1) := by decide +kernel
theorem dX8_reason_11 : decode cX8_reason 11 = .ok (.aload_n 0, 1) := by decide +kernel
theorem dX8_reason_12 : decode cX8_reason 12 = .ok (.getfield 7, 3) := by decide +kernel
theorem dX8_reason_15 : decode cX8_reason 15 = .ok (.bipush 93, 2) := by decide +kernel
theorem dX8_reason_17 : decode cX8_reason 17 = .ok (.iaload, 1) := by decide +kernel
theorem dX8_reason_18 : decode cX8_reason 18 = .ok (.invokevirtual 112, 3) := by decide +kernel
theorem dX8_reason_21 : decode cX8_reason 21 = .ok (.ireturn, 1) := by decide +kernel
theorem dX8_digit_0 : decode cX8_digit 0 = .ok (.aload_n 0, 1) := by decide +kernel
theorem dX8_digit_1 : decode cX8_digit 1 = .ok (.iload_n 1, 1) := by decide +kernel
theorem dX8_digit_2 : decode cX8_digit 2 = .ok (.iconst 0, 1) := by decide +kernel
theorem dX8_digit_3 : decode cX8_digit 3 = .ok (.bipush 8, 2) := by decide +kernel
theorem dX8_digit_5 : decode cX8_digit 5 = .ok (.invokestatic 46, 3) := by decide +kernel
theorem dX8_digit_8 : decode cX8_digit 8 = .ok (.iconst 1, 1) := by decide +kernel
theorem dX8_digit_9 : decode cX8_digit 9 = .ok (.invokevirtual 58, 3) := by decide +kernel
theorem dX8_digit_12 : decode cX8_digit 12 = .ok (.ifCond .ne 5, 3) := by decide +kernel
theorem dX8_digit_15 : decode cX8_digit 15 = .ok (.iconst 0, 1) := by decide +kernel
theorem dX8_digit_16 : decode cX8_digit 16 = .ok (.ireturn, 1) := by decide +kernel
theorem dX8_digit_17 : decode cX8_digit 17 = .ok (.aload_n 0, 1) := by decide +kernel
theorem dX8_digit_18 : decode cX8_digit 18 = .ok (.invokevirtual 119, 3) := by decide +kernel
theorem dX8_digit_21 : decode cX8_digit 21 = .ok (.aload_n 0, 1) := by decide +kernel
theorem dX8_digit_22 : decode cX8_digit 22 = .ok (.aload_n 0, 1) := by decide +kernel
theorem dX8_digit_23 : decode cX8_digit 23 = .ok (.getfield 7, 3) := by decide +kernel
theorem dX8_digit_26 : decode cX8_digit 26 = .ok (.bipush 93, 2) := by decide +kernel
theorem dX8_digit_28 : decode cX8_digit 28 = .ok (.iaload, 1) := by decide +kernel
theorem dX8_digit_29 : decode cX8_digit 29 = .ok (.invokevirtual 122, 3) := by decide +kernel
theorem dX8_digit_32 : decode cX8_digit 32 = .ok (.istore_n 2, 1) := by decide +kernel
theorem dX8_digit_33 : decode cX8_digit 33 = .ok (.iload_n 2, 1) := by decide +kernel
theorem dX8_digit_34 : decode cX8_digit 34 = .ok (.ifCond .gt 11, 3) := by decide +kernel
theorem dX8_digit_37 : decode cX8_digit 37 = .ok (.iload_n 1, 1) := by decide +kernel
theorem dX8_digit_38 : decode cX8_digit 38 = .ok (.aload_n 0, 1) := by decide +kernel
theorem dX8_digit_39 : decode cX8_digit 39 = .ok (.getfield 98, 3) := by decide +kernel
theorem dX8_digit_42 : decode cX8_digit 42 = .ok (.if_icmp .lt 7, 3) := by decide +kernel
theorem dX8_digit_45 : decode cX8_digit 45 = .ok (.iconst (-1), 1) := by decide +kernel
theorem dX8_digit_46 : decode cX8_digit 46 = .ok (.goto 9, 3) := by decide +kernel
theorem dX8_digit_49 : decode cX8_digit 49 = .ok (.aload_n 0, 1) := by decide +kernel
theorem dX8_digit_50 : decode cX8_digit 50 = .ok (.getfield 20, 3) := by decide +kernel
theorem dX8_digit_53 : decode cX8_digit 53 = .ok (.iload_n 1, 1) := by decide +kernel
theorem dX8_digit_54 : decode cX8_digit 54 = .ok (.iaload, 1) := by decide +kernel
theorem dX8_digit_55 : decode cX8_digit 55 = .ok (.ireturn, 1) := by decide +kernel
theorem dX8_nearest_0 : decode cX8_nearest 0 = .ok (.aload_n 0, 1) := by decide +kernel
theorem dX8_nearest_1 : decode cX8_nearest 1 = .ok (.iload_n 1, 1) := by decide +kernel
theorem dX8_nearest_2 : decode cX8_nearest 2 = .ok (.iconst 0, 1) := by decide +kernel
theorem dX8_nearest_3 : decode cX8_nearest 3 = .ok (.aload_n 0, 1) := by decide +kernel
theorem dX8_nearest_4 : decode cX8_nearest 4 = .ok (.getfield 7, 3) := by decide +kernel
theorem dX8_nearest_7 : decode cX8_nearest 7 = .ok (.bipush 51, 2) := by decide +kernel
theorem dX8_nearest_9 : decode cX8_nearest 9 = .ok (.iaload, 1) := by decide +kernel
theorem dX8_nearest_10 : decode cX8_nearest 10 = .ok (.iconst 4, 1) := by decide +kernel
theorem dX8_nearest_11 : decode cX8_nearest 11 = .ok (.isub, 1) := by decide +kernel
theorem dX8_nearest_12 : decode cX8_nearest 12 = .ok (.invokestatic 46, 3) := by decide +kernel
theorem dX8_nearest_15 : decode cX8_nearest 15 = .ok (.iconst 1, 1) := by decide +kernel
theorem dX8_nearest_16 : decode cX8_nearest 16 = .ok (.invokevirtual 58, 3) := by decide +kernel
theorem dX8_nearest_19 : decode cX8_nearest 19 = .ok (.ifCond .ne 5, 3) := by decide +kernel
theorem dX8_nearest_22 : decode cX8_nearest 22 = .ok (.iconst 0, 1) := by decide +kernel
theorem dX8_nearest_23 : decode cX8_nearest 23 = .ok (.ireturn, 1) := by decide +kernel
theorem dX8_nearest_24 : decode cX8_nearest 24 = .ok (.aload_n 0, 1) := by decide +kernel
theorem dX8_nearest_25 : decode cX8_nearest 25 = .ok (.invokevirtual 119, 3) := by decide +kernel
theorem dX8_nearest_28 : decode cX8_nearest 28 = .ok (.aload_n 0, 1) := by decide +kernel
theorem dX8_nearest_29 : decode cX8_nearest 29 = .ok (.iload_n 1, 1) := by decide +kernel
theorem dX8_nearest_30 : decode cX8_nearest 30 = .ok (.iconst 0, 1) := by decide +kernel
theorem dX8_nearest_31 : decode cX8_nearest 31 = .ok (.invokevirtual 95, 3) := by decide +kernel
theorem dX8_nearest_34 : decode cX8_nearest 34 = .ok (.ireturn, 1) := by decide +kernel
theorem dX8_leastTolerance_0 : decode cX8_leastTolerance 0 = .ok (.aload_n 0, 1) := by decide +kernel
theorem dX8_leastTolerance_1 : decode cX8_leastTolerance 1 = .ok (.iconst 0, 1) := by decide +kernel
theorem dX8_leastTolerance_2 : decode cX8_leastTolerance 2 = .ok (.putfield 23, 3) := by decide +kernel
theorem dX8_leastTolerance_5 : decode cX8_leastTolerance 5 = .ok (.aload_n 0, 1) := by decide +kernel
theorem dX8_leastTolerance_6 : decode cX8_leastTolerance 6 = .ok (.invokevirtual 119, 3) := by decide +kernel
theorem dX8_leastTolerance_9 : decode cX8_leastTolerance 9 = .ok (.iconst 1, 1) := by decide +kernel
theorem dX8_leastTolerance_10 : decode cX8_leastTolerance 10 = .ok (.istore_n 1, 1) := by decide +kernel
theorem dX8_leastTolerance_11 : decode cX8_leastTolerance 11 = .ok (.iload_n 1, 1) := by decide +kernel
theorem dX8_leastTolerance_12 : decode cX8_leastTolerance 12 = .ok (.bipush 8, 2) := by decide +kernel
theorem dX8_leastTolerance_14 : decode cX8_leastTolerance 14 = .ok (.if_icmp .gt 19, 3) := by decide +kernel
theorem dX8_leastTolerance_17 : decode cX8_leastTolerance 17 = .ok (.aload_n 0, 1) := by decide +kernel
theorem dX8_leastTolerance_18 : decode cX8_leastTolerance 18 = .ok (.iload_n 1, 1) := by decide +kernel
theorem dX8_leastTolerance_19 : decode cX8_leastTolerance 19 = .ok (.invokevirtual 122, 3) := by decide +kernel
theorem dX8_leastTolerance_22 : decode cX8_leastTolerance 22 = .ok (.ifCond .gt 5, 3) := by decide +kernel
theorem dX8_leastTolerance_25 : decode cX8_leastTolerance 25 = .ok (.iload_n 1, 1) := by decide +kernel
theorem dX8_leastTolerance_26 : decode cX8_leastTolerance 26 = .ok (.ireturn, 1) := by decide +kernel
theorem dX8_leastTolerance_27 : decode cX8_leastTolerance 27 = .ok (.iinc 1 1, 3) := by decide +kernel
theorem dX8_leastTolerance_30 : decode cX8_leastTolerance 30 = .ok (.goto (-19), 3) := by decide +kernel
theorem dX8_leastTolerance_33 : decode cX8_leastTolerance 33 = .ok (.iconst (-1), 1) := by decide +kernel
theorem dX8_leastTolerance_34 : decode cX8_leastTolerance 34 = .ok (.ireturn, 1) := by decide +kernel
set_option maxHeartbeats 4000000 in
set_option maxRecDepth 100000 in
theorem c_M_read (l : Launch) (D : va_G) (mo : Nat) (ms : Nat) (kp : Nat) (mb : Nat) (ty : Int32) (th : Int32) (mk : Nat) (ml : Int32) (mfd : Nat) (mf : Int32) (sp : Int32) (on : Int32) (tw : Int32) (K : ClassId) (sf : Nat → Int32) (lk : Nat → Int32) (fd : Nat → Int32) (x : ST) (x1 : ST) (r0 : Int32) (hR : RS x sf) (hbx : bST x) (hkp : kp ≤ 6) (hrc : RC x x1 r0) (sz : Nat) : k_Mi (S := Int32 × Int32 × (Nat → Int32) × (Nat → Int32) × (Nat → Int32)) l D yX8_read cX8_read 1 (some .int) 8 0 0 190 [.ref mo] [(mo, .inr (8, [.ref ms, .int (nI kp), .ref mb, .int ty, .int th, .ref mk, .int ml, .ref mfd, .int mf, .int sp, .int on, .int tw])), (ms, .inl (K, 889, .inl sf)), (mk, .inl (K, 41, .inl lk)), (mfd, .inl (K, 9, .inl fd))] [(K, .int)] (fun (r : Int32) (u : Int32 × Int32 × (Nat → Int32) × (Nat → Int32) × (Nat → Int32)) => match u with | (ml1, mf1, sg, lk1, fd1) => r = r0 ∧ RS x1 sg ∧ hiEq sg (svM kp sf)) (fun u => match u with | (ml1, mf1, sg, lk1, fd1) => [(mo, .inr (8, [.ref ms, .int (nI (min (kp + 1) 6)), .ref mb, .int ty, .int 0, .ref mk, .int ml1, .ref mfd, .int mf1, .int sp, .int on, .int tw])), (ms, .inl (K, 889, .inl sg)), (mk, .inl (K, 41, .inl lk1)), (mfd, .inl (K, 9, .inl fd1))]) (fun u => match u with | (ml1, mf1, sg, lk1, fd1) => []) sz := by
  refine Met.ofW (cc := cX8_read) (maxL := 1) (ret := (some .int)) (by decide) rfl ?_
  intro p e s m args below meth c s₁ B hml hv
  obtain ⟨rfl, hsz, hP, hK, hD0, hG⟩ := hv
  have hx := B.exec
  have hb := B.bytes
  have hr := B.returns
  have ht : ∀ v9 ∈ wsA, v9.before ([.ref mo] : List Value).toArray s = true := fun v9 h9 => atoms_spec (ws := k_ws yX8_read cX8_read 1 (some .int)) B.pre v9 (List.mem_cons_of_mem _ h9)
  have hown : s.vm.findClass RX8 = some m.cls := findClass_of_methodNamed B.named
  have S0 : k_C p s m ([.ref mo] : List Value).toArray c cX8_read 1 RX8 := ⟨hx, hb, hml, hown, ht⟩
  have hlocks := B.notSynchronized
  subst hsz
  have hD := hD0.self (sz := s.heap.size)
  generalize hAe : va_A [(mo, .inr (8, [.ref ms, .int (nI kp), .ref mb, .int ty, .int th, .ref mk, .int ml, .ref mfd, .int mf, .int sp, .int on, .int tw])), (ms, .inl (K, 889, .inl sf)), (mk, .inl (K, 41, .inl lk)), (mfd, .inl (K, 9, .inl fd))] s.heap.size = A at hD hG ⊢
  have hA : ∀ q : Nat, s.heap.size ≤ q → A q := fun q h => by rw [← hAe]; exact Or.inr h
  have hS : va_S A s.heap s.heap [] := va_S.rf
  have hl := lv_entry ([.ref mo]) (n := 1) (Nat.le_of_ble_eq_true rfl)
  rw [lg_entry_eq]
  generalize (lg_sl ([.ref mo]) ++ List.replicate (1 - (lg_sl ([.ref mo])).length) Slot.unset).toArray = ls at hl ⊢
  have hl : lv_has ls 1 [(0, .ref mo)] := hl
  have hP : va_P D vwCl [(mo, .inr (8, [.ref ms, .int (nI kp), .ref mb, .int ty, .int th, .ref mk, .int ml, .ref mfd, .int mf, .int sp, .int on, .int tw])), (ms, .inl (K, 889, .inl sf)), (mk, .inl (K, 41, .inl lk)), (mfd, .inl (K, 9, .inl fd))] s.heap := hP
  have hR9 := hR
  have hlx9 : True := trivial
  obtain ⟨q0, q1, q2, h51, q4, h93, ⟨h94, q7⟩, h125, h126⟩ := hR
  obtain ⟨b1, b2, b3, b4⟩ := bST_le hbx
  refine lv_aload_n hx hb dX8_read_0 rfl (lv_at hl 0 rfl) ?_
  refine lv_iconst (v := 0) hx hb dX8_read_1 (by decide) ?_
  refine va_put (D := D) (ci := 8) (v := .int 0) (ty := .int) (C := RX8) (T := TX8) (N := 12) hx hb ht inA_X8 tyX8 tyX8_ok nmX8 hown hK hP hD hS 0 rfl rfl 4 (by decide) (ht _ lf_X8_23) (fun _ h9 => h9) rfl (tyX8_ok 4 (by decide)) rfl rfl (Nat.le_of_ble_eq_true rfl) dX8_read_2 (fun H locs hP hD hS => ?_)
  have hP : va_P D vwCl [(mo, .inr (8, [.ref ms, .int (nI kp), .ref mb, .int ty, .int 0, .ref mk, .int ml, .ref mfd, .int mf, .int sp, .int on, .int tw])), (ms, .inl (K, 889, .inl sf)), (mk, .inl (K, 41, .inl lk)), (mfd, .inl (K, 9, .inl fd))] H := hP
  have hD : va_D A [(mo, .inr (8, [.ref ms, .int (nI kp), .ref mb, .int ty, .int 0, .ref mk, .int ml, .ref mfd, .int mf, .int sp, .int on, .int tw])), (ms, .inl (K, 889, .inl sf)), (mk, .inl (K, 41, .inl lk)), (mfd, .inl (K, 9, .inl fd))] := hD
  refine lv_aload_n hx hb dX8_read_5 rfl (lv_at hl 0 rfl) ?_
  have ct := k_cut_of (wc := [(mo, .inr (8, [.ref ms, .int (nI kp), .ref mb, .int ty, .int 0, .ref mk, .int ml, .ref mfd, .int mf, .int sp, .int on, .int tw])), (ms, .inl (K, 889, .inl sf))]) (wr := [(mk, .inl (K, 41, .inl lk)), (mfd, .inl (K, 9, .inl fd))]) (tc := [(K, .int)]) hG hS hA hK hP hD [0, 1] [2, 3] [0] rfl rfl (by decide) (by decide) (by decide) rfl
  refine k_endv (As := [.ref mo]) ct (k_runV (As := []) (rest := []) S0 Lv_X8_62 rfl (ci := 8) (q0 := 0) rfl rfl ct (c_M_saves l D mo ms kp mb ty 0 mk ml mfd mf sp on tw K sf (by first | assumption | omega) H.size) hl.1 rfl (Nat.le_of_ble_eq_true rfl) rfl dX8_read_6 ⟨⟨Nat.le_of_ble_eq_true rfl, Nat.le_of_ble_eq_true rfl⟩, Nat.le_of_ble_eq_true rfl, Nat.le_of_ble_eq_true rfl⟩) rfl rfl (fun _ _ H locs hw_2 hP hD hK hS => ?_)
  have hK : va_K D vwCl [(K, .int)] s := hK
  have hP : va_P D vwCl [(mk, .inl (K, 41, .inl lk)), (mfd, .inl (K, 9, .inl fd)), (mo, .inr (8, [.ref ms, .int (nI (min (kp + 1) 6)), .ref mb, .int ty, .int 0, .ref mk, .int ml, .ref mfd, .int mf, .int sp, .int on, .int tw])), (ms, .inl (K, 889, .inl (svM kp sf)))] H := hP
  have hD : va_D A [(mk, .inl (K, 41, .inl lk)), (mfd, .inl (K, 9, .inl fd)), (mo, .inr (8, [.ref ms, .int (nI (min (kp + 1) 6)), .ref mb, .int ty, .int 0, .ref mk, .int ml, .ref mfd, .int mf, .int sp, .int on, .int tw])), (ms, .inl (K, 889, .inl (svM kp sf)))] := hD
  have hRs : RS x (svM kp sf) := RS_sv hbx hR9
  have hRs9 := hRs
  obtain ⟨k0, k1, k2, h51s, k4, h93s, ⟨h94s, k7⟩, h125s, h126s⟩ := hRs
  refine lv_aload_n hx hb dX8_read_9 rfl (lv_at hl 0 rfl) ?_
  have ct := k_cut_of (wc := [(mo, .inr (8, [.ref ms, .int (nI (min (kp + 1) 6)), .ref mb, .int ty, .int 0, .ref mk, .int ml, .ref mfd, .int mf, .int sp, .int on, .int tw])), (ms, .inl (K, 889, .inl (svM kp sf))), (mk, .inl (K, 41, .inl lk)), (mfd, .inl (K, 9, .inl fd))]) (wr := []) (tc := [(K, .int)]) hG hS hA hK hP hD [2, 3, 0, 1] [] [0] rfl rfl (by decide) (by decide) (by decide) rfl
  refine k_endi (As := [.ref mo]) ct (k_runV (As := []) (rest := []) S0 Lv_X8_132 rfl (ci := 8) (q0 := 0) rfl rfl ct (c_M_readCount l D mo ms (nI (min (kp + 1) 6)) mb ty 0 mk ml mfd mf sp on tw K (svM kp sf) lk fd x x1 r0 hRs9 (by assumption) (by assumption) H.size) hl.1 rfl (Nat.le_of_ble_eq_true rfl) rfl dX8_read_10 ⟨⟨Nat.le_of_ble_eq_true rfl, Nat.le_of_ble_eq_true rfl⟩, Nat.le_of_ble_eq_true rfl, Nat.le_of_ble_eq_true rfl⟩) rfl rfl (fun r_3 u H locs hw_9 hP hD hK hS => ?_)
  obtain ⟨ml1v_4, mf1v_5, sg_6, lk1v_7, fd1v_8⟩ := u
  have hK : va_K D vwCl [(K, .int)] s := hK
  have hP : va_P D vwCl [(mo, .inr (8, [.ref ms, .int (nI (min (kp + 1) 6)), .ref mb, .int ty, .int 0, .ref mk, .int ml1v_4, .ref mfd, .int mf1v_5, .int sp, .int on, .int tw])), (ms, .inl (K, 889, .inl sg_6)), (mk, .inl (K, 41, .inl lk1v_7)), (mfd, .inl (K, 9, .inl fd1v_8))] H := hP
  have hD : va_D A [(mo, .inr (8, [.ref ms, .int (nI (min (kp + 1) 6)), .ref mb, .int ty, .int 0, .ref mk, .int ml1v_4, .ref mfd, .int mf1v_5, .int sp, .int on, .int tw])), (ms, .inl (K, 889, .inl sg_6)), (mk, .inl (K, 41, .inl lk1v_7)), (mfd, .inl (K, 9, .inl fd1v_8))] := hD
  have hw_9 : r_3 = r0 ∧ RS x1 sg_6 ∧ hiEq sg_6 (svM kp sf) := hw_9
  have hP9 : va_P D vwCl [(mo, .inr (8, [.ref ms, .int (nI (min (kp + 1) 6)), .ref mb, .int ty, .int 0, .ref mk, .int ml1v_4, .ref mfd, .int mf1v_5, .int sp, .int on, .int tw])), (ms, .inl (K, 889, .inl sg_6)), (mk, .inl (K, 41, .inl lk1v_7)), (mfd, .inl (K, 9, .inl fd1v_8))] H := hP.sub [0, 1, 2, 3] rfl
  have hD9 : va_D A [(mo, .inr (8, [.ref ms, .int (nI (min (kp + 1) 6)), .ref mb, .int ty, .int 0, .ref mk, .int ml1v_4, .ref mfd, .int mf1v_5, .int sp, .int on, .int tw])), (ms, .inl (K, 889, .inl sg_6)), (mk, .inl (K, 41, .inl lk1v_7)), (mfd, .inl (K, 9, .inl fd1v_8))] := hD.sub [0, 1, 2, 3] (by decide) rfl
  have hK9 : va_K D vwCl [] s := hK.sub [] rfl
  exact W.iret (v := r_3) hx hb hr (fun t ht9 hW9 => ⟨⟨r_3, (ml1v_4, mf1v_5, sg_6, lk1v_7, fd1v_8), rfl, by exact hw_9, ⟨by rw [ht9]; exact hP9, va_K.moved hW9.alike hK9, hD9⟩⟩, hS.F ht9⟩) hS.2.2 dX8_read_13
set_option maxHeartbeats 4000000 in
set_option maxRecDepth 100000 in
theorem c_M_draws (l : Launch) (D : va_G) (mo : Nat) (ms : Nat) (sv : Int32) (mb : Nat) (ty : Int32) (th : Int32) (mk : Nat) (ml : Int32) (mfd : Nat) (mf : Int32) (sp : Int32) (on : Int32) (tw : Int32) (K : ClassId) (sf : Nat → Int32) (lk : Nat → Int32) (fd : Nat → Int32) (x : ST) (lf : Int32) (rt : Int32) (b : Int32) (x1 : ST) (r0 : Int32) (hR : RS x sf) (hbx : bST x) (hlx : labW x) (hrc : RC (setT (s_ns x) (cpy (s_drw x lf rt b) (s_tf x) (s_ns x)) x) x1 r0) (sz : Nat) : k_Mi (S := Int32 × Int32 × (Nat → Int32) × (Nat → Int32) × (Nat → Int32)) l D yX8_draws cX8_draws 5 (some .int) 8 0 0 190 [.ref mo, .int lf, .int rt, .int b] [(mo, .inr (8, [.ref ms, .int sv, .ref mb, .int ty, .int th, .ref mk, .int ml, .ref mfd, .int mf, .int sp, .int on, .int tw])), (ms, .inl (K, 889, .inl sf)), (mk, .inl (K, 41, .inl lk)), (mfd, .inl (K, 9, .inl fd))] [(K, .int)] (fun (r : Int32) (u : Int32 × Int32 × (Nat → Int32) × (Nat → Int32) × (Nat → Int32)) => match u with | (ml1, mf1, sg, lk1, fd1) => r = r0 ∧ RS x1 sg ∧ hiEq sg sf) (fun u => match u with | (ml1, mf1, sg, lk1, fd1) => [(mo, .inr (8, [.ref ms, .int sv, .ref mb, .int ty, .int th, .ref mk, .int ml1, .ref mfd, .int mf1, .int sp, .int on, .int tw])), (ms, .inl (K, 889, .inl sg)), (mk, .inl (K, 41, .inl lk1)), (mfd, .inl (K, 9, .inl fd1))]) (fun u => match u with | (ml1, mf1, sg, lk1, fd1) => []) sz := by
  refine Met.ofW (cc := cX8_draws) (maxL := 5) (ret := (some .int)) (by decide) rfl ?_
  intro p e s m args below meth c s₁ B hml hv
  obtain ⟨rfl, hsz, hP, hK, hD0, hG⟩ := hv
  have hx := B.exec
  have hb := B.bytes
  have hr := B.returns
  have ht : ∀ v9 ∈ wsA, v9.before ([.ref mo, .int lf, .int rt, .int b] : List Value).toArray s = true := fun v9 h9 => atoms_spec (ws := k_ws yX8_draws cX8_draws 5 (some .int)) B.pre v9 (List.mem_cons_of_mem _ h9)
  have hown : s.vm.findClass RX8 = some m.cls := findClass_of_methodNamed B.named
  have S0 : k_C p s m ([.ref mo, .int lf, .int rt, .int b] : List Value).toArray c cX8_draws 5 RX8 := ⟨hx, hb, hml, hown, ht⟩
  have hlocks := B.notSynchronized
  subst hsz
  have hD := hD0.self (sz := s.heap.size)
  generalize hAe : va_A [(mo, .inr (8, [.ref ms, .int sv, .ref mb, .int ty, .int th, .ref mk, .int ml, .ref mfd, .int mf, .int sp, .int on, .int tw])), (ms, .inl (K, 889, .inl sf)), (mk, .inl (K, 41, .inl lk)), (mfd, .inl (K, 9, .inl fd))] s.heap.size = A at hD hG ⊢
  have hA : ∀ q : Nat, s.heap.size ≤ q → A q := fun q h => by rw [← hAe]; exact Or.inr h
  have hS : va_S A s.heap s.heap [] := va_S.rf
  have hl := lv_entry ([.ref mo, .int lf, .int rt, .int b]) (n := 5) (Nat.le_of_ble_eq_true rfl)
  rw [lg_entry_eq]
  generalize (lg_sl ([.ref mo, .int lf, .int rt, .int b]) ++ List.replicate (5 - (lg_sl ([.ref mo, .int lf, .int rt, .int b])).length) Slot.unset).toArray = ls at hl ⊢
  have hl : lv_has ls 5 [(0, .ref mo), (1, .int lf), (2, .int rt), (3, .int b)] := hl
  have hP : va_P D vwCl [(mo, .inr (8, [.ref ms, .int sv, .ref mb, .int ty, .int th, .ref mk, .int ml, .ref mfd, .int mf, .int sp, .int on, .int tw])), (ms, .inl (K, 889, .inl sf)), (mk, .inl (K, 41, .inl lk)), (mfd, .inl (K, 9, .inl fd))] s.heap := hP
  have hR9 := hR
  have hlx9 : labW x := hlx
  obtain ⟨q0, q1, q2, h51, q4, h93, ⟨h94, q7⟩, h125, h126⟩ := hR
  obtain ⟨b1, b2, b3, b4⟩ := bST_le hbx
  obtain ⟨hl1, hl2⟩ := hlx
  refine lv_aload_n hx hb dX8_draws_0 rfl (lv_at hl 0 rfl) ?_
  refine lv_iload_n hx hb dX8_draws_1 rfl (lv_at hl 1 rfl) ?_
  refine lv_iload_n hx hb dX8_draws_2 rfl (lv_at hl 2 rfl) ?_
  refine lv_iload_n hx hb dX8_draws_3 rfl (lv_at hl 3 rfl) ?_
  have ct := k_cut_of (wc := [(mo, .inr (8, [.ref ms, .int sv, .ref mb, .int ty, .int th, .ref mk, .int ml, .ref mfd, .int mf, .int sp, .int on, .int tw])), (ms, .inl (K, 889, .inl sf)), (mk, .inl (K, 41, .inl lk))]) (wr := [(mfd, .inl (K, 9, .inl fd))]) (tc := [(K, .int)]) hG hS hA hK hP hD [0, 1, 2] [3] [0] rfl rfl (by decide) (by decide) (by decide) rfl
  refine k_endv (As := [.ref mo, .int lf, .int rt, .int b]) ct (k_runV (As := [.int lf, .int rt, .int b]) (rest := []) S0 Lv_X8_128 rfl (ci := 8) (q0 := 0) rfl rfl ct (c_M_looksL l D mo ms sv mb ty th mk ml mfd mf sp on tw K sf lk (s_nd x) (s_df x) (s_ns x) (s_zf x) lf rt b hl1 (by assumption) (by first | assumption | omega) (by assumption) (by assumption) (by assumption) s.heap.size) hl.1 rfl (Nat.le_of_ble_eq_true rfl) rfl dX8_draws_4 ⟨⟨Nat.le_of_ble_eq_true rfl, Nat.le_of_ble_eq_true rfl⟩, Nat.le_of_ble_eq_true rfl, Nat.le_of_ble_eq_true rfl⟩) rfl rfl (fun _ lg_2 H locs hw_3 hP hD hK hS => ?_)
  have hK : va_K D vwCl [(K, .int)] s := hK
  have hP : va_P D vwCl [(mfd, .inl (K, 9, .inl fd)), (mo, .inr (8, [.ref ms, .int sv, .ref mb, .int ty, .int th, .ref mk, .int (nI (s_ns x)), .ref mfd, .int mf, .int sp, .int on, .int tw])), (ms, .inl (K, 889, .inl sf)), (mk, .inl (K, 41, .inl lg_2))] H := hP
  have hD : va_D A [(mfd, .inl (K, 9, .inl fd)), (mo, .inr (8, [.ref ms, .int sv, .ref mb, .int ty, .int th, .ref mk, .int (nI (s_ns x)), .ref mfd, .int mf, .int sp, .int on, .int tw])), (ms, .inl (K, 889, .inl sf)), (mk, .inl (K, 41, .inl lg_2))] := hD
  have hw_3 : ∀ j, j < (s_ns x) → lg_2 j = drwF (s_nd x) (s_df x) (s_ns x) (s_zf x) lf rt b j := hw_3
  have hlg := hw_3
  refine lv_aload_n hx hb dX8_draws_7 rfl (lv_at hl 0 rfl) ?_
  refine va_get (D := D) (ci := 8) (v := .ref ms) (C := RX8) (T := TX8) (N := 12) hx hb ht inA_X8 hown hK hP 1 rfl rfl 0 (by decide) (ht _ lf_X8_7) (fun _ h9 => h9) rfl dX8_draws_8 ?_
  refine lv_bipush (v := 51) hx hb dX8_draws_11 (by decide) ?_
  refine lv_aload_n hx hb dX8_draws_13 rfl (lv_at hl 0 rfl) ?_
  refine va_get (D := D) (ci := 8) (v := .int (nI (s_ns x))) (C := RX8) (T := TX8) (N := 12) hx hb ht inA_X8 hown hK hP 1 rfl rfl 6 (by decide) (ht _ lf_X8_78) (fun _ h9 => h9) rfl dX8_draws_14 ?_
  refine va_iast hx hb hK hP hD hS 2 0 rfl rfl (by unfold vp_in; decide) dX8_draws_17 (fun H locs hP hD hS => ?_)
  have hP : va_P D vwCl [(mfd, .inl (K, 9, .inl fd)), (mo, .inr (8, [.ref ms, .int sv, .ref mb, .int ty, .int th, .ref mk, .int (nI (s_ns x)), .ref mfd, .int mf, .int sp, .int on, .int tw])), (ms, .inl (K, 889, .inl (upd sf ((51 : Int32).toNatClampNeg) (nI (s_ns x))))), (mk, .inl (K, 41, .inl lg_2))] H := hP
  have hD : va_D A [(mfd, .inl (K, 9, .inl fd)), (mo, .inr (8, [.ref ms, .int sv, .ref mb, .int ty, .int th, .ref mk, .int (nI (s_ns x)), .ref mfd, .int mf, .int sp, .int on, .int tw])), (ms, .inl (K, 889, .inl (upd sf ((51 : Int32).toNatClampNeg) (nI (s_ns x))))), (mk, .inl (K, 41, .inl lg_2))] := hD
  have hf9 : upd sf ((51 : Int32).toNatClampNeg) (nI (s_ns x)) = (upd sf 51 (nI (s_ns x))) := rfl
  rw [hf9] at hP hD
  have hP : va_P D vwCl [(mfd, .inl (K, 9, .inl fd)), (mo, .inr (8, [.ref ms, .int sv, .ref mb, .int ty, .int th, .ref mk, .int (nI (s_ns x)), .ref mfd, .int mf, .int sp, .int on, .int tw])), (ms, .inl (K, 889, .inl (upd sf 51 (nI (s_ns x))))), (mk, .inl (K, 41, .inl lg_2))] H := hP
  have hD : va_D A [(mfd, .inl (K, 9, .inl fd)), (mo, .inr (8, [.ref ms, .int sv, .ref mb, .int ty, .int th, .ref mk, .int (nI (s_ns x)), .ref mfd, .int mf, .int sp, .int on, .int tw])), (ms, .inl (K, 889, .inl (upd sf 51 (nI (s_ns x))))), (mk, .inl (K, 41, .inl lg_2))] := hD
  refine lv_iconst (v := 0) hx hb dX8_draws_18 (by decide) ?_
  refine lv_istore (lv' := [(4, .int 0), (0, .ref mo), (1, .int lf), (2, .int rt), (3, .int b)]) hx hb dX8_draws_19 hl (by decide) rfl (fun ls hl => ?_)
  have hf_4 : ((upd sf 51 (nI (s_ns x))) : Nat → Int32) = (drM (upd sf 51 (nI (s_ns x))) lg_2 0) := (drM_0 _ _).symm
  have hP : va_P D vwCl [(mfd, .inl (K, 9, .inl fd)), (mo, .inr (8, [.ref ms, .int sv, .ref mb, .int ty, .int th, .ref mk, .int (nI (s_ns x)), .ref mfd, .int mf, .int sp, .int on, .int tw])), (ms, .inl (K, 889, .inl (drM (upd sf 51 (nI (s_ns x))) lg_2 0))), (mk, .inl (K, 41, .inl lg_2))] H := (congrArg (fun z9 : Nat → Int32 => va_P D vwCl [(mfd, .inl (K, 9, .inl fd)), (mo, .inr (8, [.ref ms, .int sv, .ref mb, .int ty, .int th, .ref mk, .int (nI (s_ns x)), .ref mfd, .int mf, .int sp, .int on, .int tw])), (ms, .inl (K, 889, .inl z9)), (mk, .inl (K, 41, .inl lg_2))] H) hf_4).mp hP
  have hD : va_D A [(mfd, .inl (K, 9, .inl fd)), (mo, .inr (8, [.ref ms, .int sv, .ref mb, .int ty, .int th, .ref mk, .int (nI (s_ns x)), .ref mfd, .int mf, .int sp, .int on, .int tw])), (ms, .inl (K, 889, .inl (drM (upd sf 51 (nI (s_ns x))) lg_2 0))), (mk, .inl (K, 41, .inl lg_2))] := (congrArg (fun z9 : Nat → Int32 => va_D A [(mfd, .inl (K, 9, .inl fd)), (mo, .inr (8, [.ref ms, .int sv, .ref mb, .int ty, .int th, .ref mk, .int (nI (s_ns x)), .ref mfd, .int mf, .int sp, .int on, .int tw])), (ms, .inl (K, 889, .inl z9)), (mk, .inl (K, 41, .inl lg_2))]) hf_4).mp hD
  have hl : lv_has ls 5 [(4, .int (nI 0)), (0, .ref mo), (1, .int lf), (2, .int rt), (3, .int b)] := hl
  refine k_loop (ι := Nat) (fun (i : Nat) H9 locs9 ls9 => (i ≤ s_ns x) ∧ va_P D vwCl [(mo, .inr (8, [.ref ms, .int sv, .ref mb, .int ty, .int th, .ref mk, .int (nI (s_ns x)), .ref mfd, .int mf, .int sp, .int on, .int tw])), (ms, .inl (K, 889, .inl (drM (upd sf 51 (nI (s_ns x))) lg_2 i))), (mk, .inl (K, 41, .inl lg_2)), (mfd, .inl (K, 9, .inl fd))] H9 ∧ va_D A [(mo, .inr (8, [.ref ms, .int sv, .ref mb, .int ty, .int th, .ref mk, .int (nI (s_ns x)), .ref mfd, .int mf, .int sp, .int on, .int tw])), (ms, .inl (K, 889, .inl (drM (upd sf 51 (nI (s_ns x))) lg_2 i))), (mk, .inl (K, 41, .inl lg_2)), (mfd, .inl (K, 9, .inl fd))] ∧ va_S A s.heap H9 locs9 ∧ lv_has ls9 5 [(4, .int (nI i)), (0, .ref mo), (1, .int lf), (2, .int rt), (3, .int b)]) (fun (i : Nat) => s_ns x - i) ?_ (0) ⟨(Nat.zero_le _), hP.sub [1, 2, 3, 0] rfl, hD.sub [1, 2, 3, 0] (by decide) rfl, hS, lv_sub hl [0, 1, 2, 3, 4] rfl⟩
  intro x9 H locs ls hF9 ih9
  obtain ⟨i, hv9⟩ : ∃ z, z = x9 := ⟨_, rfl⟩
  subst hv9
  obtain ⟨hi, hP, hD, hS, hl⟩ := hF9
  try dsimp only at ih9
  have hP : va_P D vwCl [(mo, .inr (8, [.ref ms, .int sv, .ref mb, .int ty, .int th, .ref mk, .int (nI (s_ns x)), .ref mfd, .int mf, .int sp, .int on, .int tw])), (ms, .inl (K, 889, .inl (drM (upd sf 51 (nI (s_ns x))) lg_2 i))), (mk, .inl (K, 41, .inl lg_2)), (mfd, .inl (K, 9, .inl fd))] H := hP
  have hD : va_D A [(mo, .inr (8, [.ref ms, .int sv, .ref mb, .int ty, .int th, .ref mk, .int (nI (s_ns x)), .ref mfd, .int mf, .int sp, .int on, .int tw])), (ms, .inl (K, 889, .inl (drM (upd sf 51 (nI (s_ns x))) lg_2 i))), (mk, .inl (K, 41, .inl lg_2)), (mfd, .inl (K, 9, .inl fd))] := hD
  have hl : lv_has ls 5 [(4, .int (nI i)), (0, .ref mo), (1, .int lf), (2, .int rt), (3, .int b)] := hl
  refine lv_iload hx hb dX8_draws_21 (lv_at hl 0 rfl) ?_
  refine lv_aload_n hx hb dX8_draws_23 rfl (lv_at hl 1 rfl) ?_
  refine va_get (D := D) (ci := 8) (v := .int (nI (s_ns x))) (C := RX8) (T := TX8) (N := 12) hx hb ht inA_X8 hown hK hP 0 rfl rfl 6 (by decide) (ht _ lf_X8_78) (fun _ h9 => h9) rfl dX8_draws_24 ?_
  refine lv_icmp_ge (tgt := 53) hx hb dX8_draws_27 (by decide) (fun c_5 => ?_) (fun c_5 => ?_)
  · have hc9 := c_5
    obtain rfl : (s_ns x) = i := by rcases Nat.lt_or_ge i (s_ns x) with q9 | q9; exact absurd c_5 (nI_ge q9 (by omega)); omega
    obtain ⟨hRd, hhd⟩ := RS_drw hbx hR9 hlg
    refine lv_aload_n hx hb dX8_draws_53 rfl (lv_at hl 1 rfl) ?_
    have ct := k_cut_of (wc := [(mo, .inr (8, [.ref ms, .int sv, .ref mb, .int ty, .int th, .ref mk, .int (nI (s_ns x)), .ref mfd, .int mf, .int sp, .int on, .int tw])), (ms, .inl (K, 889, .inl (drM (upd sf 51 (nI (s_ns x))) lg_2 (s_ns x)))), (mk, .inl (K, 41, .inl lg_2)), (mfd, .inl (K, 9, .inl fd))]) (wr := []) (tc := [(K, .int)]) hG hS hA hK hP hD [0, 1, 2, 3] [] [0] rfl rfl (by decide) (by decide) (by decide) rfl
    refine k_endi (As := [.ref mo]) ct (k_runV (As := []) (rest := []) S0 Lv_X8_132 rfl (ci := 8) (q0 := 0) rfl rfl ct (c_M_readCount l D mo ms sv mb ty th mk (nI (s_ns x)) mfd mf sp on tw K (drM (upd sf 51 (nI (s_ns x))) lg_2 (s_ns x)) lg_2 fd (setT (s_ns x) (cpy (s_drw x lf rt b) (s_tf x) (s_ns x)) x) x1 r0 hRd (setT_b hbx b2) (by assumption) H.size) hl.1 rfl (Nat.le_of_ble_eq_true rfl) rfl dX8_draws_54 ⟨⟨Nat.le_of_ble_eq_true rfl, Nat.le_of_ble_eq_true rfl⟩, Nat.le_of_ble_eq_true rfl, Nat.le_of_ble_eq_true rfl⟩) rfl rfl (fun r_6 u H locs hw_12 hP hD hK hS => ?_)
    obtain ⟨ml1v_7, mf1v_8, sg_9, lk1v_10, fd1v_11⟩ := u
    have hK : va_K D vwCl [(K, .int)] s := hK
    have hP : va_P D vwCl [(mo, .inr (8, [.ref ms, .int sv, .ref mb, .int ty, .int th, .ref mk, .int ml1v_7, .ref mfd, .int mf1v_8, .int sp, .int on, .int tw])), (ms, .inl (K, 889, .inl sg_9)), (mk, .inl (K, 41, .inl lk1v_10)), (mfd, .inl (K, 9, .inl fd1v_11))] H := hP
    have hD : va_D A [(mo, .inr (8, [.ref ms, .int sv, .ref mb, .int ty, .int th, .ref mk, .int ml1v_7, .ref mfd, .int mf1v_8, .int sp, .int on, .int tw])), (ms, .inl (K, 889, .inl sg_9)), (mk, .inl (K, 41, .inl lk1v_10)), (mfd, .inl (K, 9, .inl fd1v_11))] := hD
    have hw_12 : r_6 = r0 ∧ RS x1 sg_9 ∧ hiEq sg_9 (drM (upd sf 51 (nI (s_ns x))) lg_2 (s_ns x)) := hw_12
    have hP9 : va_P D vwCl [(mo, .inr (8, [.ref ms, .int sv, .ref mb, .int ty, .int th, .ref mk, .int ml1v_7, .ref mfd, .int mf1v_8, .int sp, .int on, .int tw])), (ms, .inl (K, 889, .inl sg_9)), (mk, .inl (K, 41, .inl lk1v_10)), (mfd, .inl (K, 9, .inl fd1v_11))] H := hP.sub [0, 1, 2, 3] rfl
    have hD9 : va_D A [(mo, .inr (8, [.ref ms, .int sv, .ref mb, .int ty, .int th, .ref mk, .int ml1v_7, .ref mfd, .int mf1v_8, .int sp, .int on, .int tw])), (ms, .inl (K, 889, .inl sg_9)), (mk, .inl (K, 41, .inl lk1v_10)), (mfd, .inl (K, 9, .inl fd1v_11))] := hD.sub [0, 1, 2, 3] (by decide) rfl
    have hK9 : va_K D vwCl [] s := hK.sub [] rfl
    exact W.iret (v := r_6) hx hb hr (fun t ht9 hW9 => ⟨⟨r_6, (ml1v_7, mf1v_8, sg_9, lk1v_10, fd1v_11), rfl, by (have h7 := hw_12; exact ⟨h7.1, h7.2.1, hi_tr h7.2.2 hhd⟩), ⟨by rw [ht9]; exact hP9, va_K.moved hW9.alike hK9, hD9⟩⟩, hS.F ht9⟩) hS.2.2 dX8_draws_57
  · have hc9 := c_5
    have hik : i + 1 ≤ (s_ns x) := by rcases Nat.lt_or_ge i (s_ns x) with q9 | q9; exact q9; exact absurd (nI_le q9 (by omega)) c_5
    refine lv_aload_n hx hb dX8_draws_30 rfl (lv_at hl 1 rfl) ?_
    refine va_get (D := D) (ci := 8) (v := .ref ms) (C := RX8) (T := TX8) (N := 12) hx hb ht inA_X8 hown hK hP 0 rfl rfl 0 (by decide) (ht _ lf_X8_7) (fun _ h9 => h9) rfl dX8_draws_31 ?_
    refine lv_bipush (v := 52) hx hb dX8_draws_34 (by decide) ?_
    refine lv_iload hx hb dX8_draws_36 (lv_at hl 0 rfl) ?_
    refine lv_iadd hx hb dX8_draws_38 ?_
    refine k_nrm (y := (nI (52 + i))) (nI_add 52 i) ?_
    refine lv_aload_n hx hb dX8_draws_39 rfl (lv_at hl 1 rfl) ?_
    refine va_get (D := D) (ci := 8) (v := .ref mk) (C := RX8) (T := TX8) (N := 12) hx hb ht inA_X8 hown hK hP 0 rfl rfl 5 (by decide) (ht _ lf_X8_17) (fun _ h9 => h9) rfl dX8_draws_40 ?_
    refine lv_iload hx hb dX8_draws_43 (lv_at hl 0 rfl) ?_
    refine va_iald hx hb hK hP 2 0 rfl rfl (vp_in_nI (by omega) (by decide)) dX8_draws_45 ?_
    refine k_nrm (y := (lg_2 i)) (by rw [nI_clamp (by omega)]) ?_
    refine va_iast hx hb hK hP hD hS 1 0 rfl rfl (vp_in_nI (by omega) (by decide)) dX8_draws_46 (fun H locs hP hD hS => ?_)
    have hP : va_P D vwCl [(mo, .inr (8, [.ref ms, .int sv, .ref mb, .int ty, .int th, .ref mk, .int (nI (s_ns x)), .ref mfd, .int mf, .int sp, .int on, .int tw])), (ms, .inl (K, 889, .inl (upd (drM (upd sf 51 (nI (s_ns x))) lg_2 i) ((nI (52 + i)).toNatClampNeg) (lg_2 i)))), (mk, .inl (K, 41, .inl lg_2)), (mfd, .inl (K, 9, .inl fd))] H := hP
    have hD : va_D A [(mo, .inr (8, [.ref ms, .int sv, .ref mb, .int ty, .int th, .ref mk, .int (nI (s_ns x)), .ref mfd, .int mf, .int sp, .int on, .int tw])), (ms, .inl (K, 889, .inl (upd (drM (upd sf 51 (nI (s_ns x))) lg_2 i) ((nI (52 + i)).toNatClampNeg) (lg_2 i)))), (mk, .inl (K, 41, .inl lg_2)), (mfd, .inl (K, 9, .inl fd))] := hD
    have hf9 : upd (drM (upd sf 51 (nI (s_ns x))) lg_2 i) ((nI (52 + i)).toNatClampNeg) (lg_2 i) = (drM (upd sf 51 (nI (s_ns x))) lg_2 (i + 1)) := by rw [nI_clamp (by omega)]; exact drM_s _ _ i
    rw [hf9] at hP hD
    have hP : va_P D vwCl [(mo, .inr (8, [.ref ms, .int sv, .ref mb, .int ty, .int th, .ref mk, .int (nI (s_ns x)), .ref mfd, .int mf, .int sp, .int on, .int tw])), (ms, .inl (K, 889, .inl (drM (upd sf 51 (nI (s_ns x))) lg_2 (i + 1)))), (mk, .inl (K, 41, .inl lg_2)), (mfd, .inl (K, 9, .inl fd))] H := hP
    have hD : va_D A [(mo, .inr (8, [.ref ms, .int sv, .ref mb, .int ty, .int th, .ref mk, .int (nI (s_ns x)), .ref mfd, .int mf, .int sp, .int on, .int tw])), (ms, .inl (K, 889, .inl (drM (upd sf 51 (nI (s_ns x))) lg_2 (i + 1)))), (mk, .inl (K, 41, .inl lg_2)), (mfd, .inl (K, 9, .inl fd))] := hD
    obtain ⟨x_13, ex_13⟩ : ∃ z : Int32, z = (nI i) + 1 := ⟨_, rfl⟩
    refine lv_iinc (v := x_13) (lv' := [(4, .int x_13), (0, .ref mo), (1, .int lf), (2, .int rt), (3, .int b)]) hx hb dX8_draws_47 hl (k := 0) rfl (by rw [ex_13]; rfl) (by decide) rfl (fun ls hl => ?_)
    refine lv_goto (tgt := 21) hx hb dX8_draws_50 (by decide) ?_
    have he9 : x_13 = (nI (i + 1)) := by rw [ex_13]; exact nI_1 i
    rw [he9] at hl
    have hl : lv_has ls 5 [(4, .int (nI (i + 1))), (0, .ref mo), (1, .int lf), (2, .int rt), (3, .int b)] := hl
    exact ih9 (i + 1) H locs ls (by omega) ⟨hik, hP.sub [0, 1, 2, 3] rfl, hD.sub [0, 1, 2, 3] (by decide) rfl, hS, lv_sub hl [0, 1, 2, 3, 4] rfl⟩
set_option maxHeartbeats 4000000 in
set_option maxRecDepth 100000 in
theorem c_M_per1 (l : Launch) (D : va_G) (lf : Int32) (rt : Int32) (hp : k_per lf rt) (sz : Nat) : k_Mi (S := Unit) l D yX8_arePeriods cX8_arePeriods 2 (some .boolean) 1 0 0 22 [.int lf, .int rt] [] [] (fun (r : Int32) (_ : Unit) => r = (1)) (fun _ => []) (fun _ => []) sz := by
  refine Met.ofW (cc := cX8_arePeriods) (maxL := 2) (ret := (some .boolean)) (by decide) rfl ?_
  intro p e s m args below meth c s₁ B hml hv
  obtain ⟨rfl, hsz, hP, hK, hD0, hG⟩ := hv
  have hx := B.exec
  have hb := B.bytes
  have hr := B.returns
  have ht : ∀ v9 ∈ wsA, v9.before ([.int lf, .int rt] : List Value).toArray s = true := fun v9 h9 => atoms_spec (ws := k_ws yX8_arePeriods cX8_arePeriods 2 (some .boolean)) B.pre v9 (List.mem_cons_of_mem _ h9)
  have hown : s.vm.findClass RX8 = some m.cls := findClass_of_methodNamed B.named
  have S0 : k_C p s m ([.int lf, .int rt] : List Value).toArray c cX8_arePeriods 2 RX8 := ⟨hx, hb, hml, hown, ht⟩
  have hlocks := B.notSynchronized
  subst hsz
  have hD := hD0.self (sz := s.heap.size)
  generalize hAe : va_A [] s.heap.size = A at hD hG ⊢
  have hA : ∀ q : Nat, s.heap.size ≤ q → A q := fun q h => by rw [← hAe]; exact Or.inr h
  have hS : va_S A s.heap s.heap [] := va_S.rf
  have hl := lv_entry ([.int lf, .int rt]) (n := 2) (Nat.le_of_ble_eq_true rfl)
  rw [lg_entry_eq]
  generalize (lg_sl ([.int lf, .int rt]) ++ List.replicate (2 - (lg_sl ([.int lf, .int rt])).length) Slot.unset).toArray = ls at hl ⊢
  have hl : lv_has ls 2 [(0, .int lf), (1, .int rt)] := hl
  have hP : va_P D vwCl [] s.heap := hP
  refine lv_iload_n hx hb dX8_arePeriods_0 rfl (lv_at hl 0 rfl) ?_
  refine lv_iconst (v := 1) hx hb dX8_arePeriods_1 (by decide) ?_
  refine lv_bipush (v := 50) hx hb dX8_arePeriods_2 (by decide) ?_
  have ct := k_cut_of (wc := []) (wr := []) (tc := []) hG hS hA hK hP hD [] [] [] rfl rfl (by decide) (by decide) (by decide) rfl
  refine k_endi (As := [.int lf, .int 1, .int 50]) ct (k_runS (As := [.int lf, .int 1, .int 50]) (rest := []) S0 Ls_X8_46 ct (c_M_in1 l D lf 1 50 ((per_1 hp).1.1) ((per_1 hp).1.2) s.heap.size) hl.1 rfl (Nat.le_of_ble_eq_true rfl) rfl dX8_arePeriods_4 ⟨⟨Nat.le_of_ble_eq_true rfl, Nat.le_of_ble_eq_true rfl⟩, Nat.le_of_ble_eq_true rfl, Nat.le_of_ble_eq_true rfl⟩) rfl rfl (fun r_1 _ H locs hw_2 hP hD hK hS => ?_)
  have hK : va_K D vwCl [] s := hK
  have hP : va_P D vwCl [] H := hP
  have hD : va_D A [] := hD
  have hw_2 : r_1 = (1) := hw_2
  have hw_2 := hw_2.symm
  subst hw_2
  refine k_nrm (y := 1) rfl ?_
  refine lv_if_eq (tgt := 24) hx hb dX8_arePeriods_7 (by decide) (fun c9 => absurd c9 (by decide)) (fun _ => ?_)
  refine lv_iload_n hx hb dX8_arePeriods_10 rfl (lv_at hl 1 rfl) ?_
  refine lv_iconst (v := 1) hx hb dX8_arePeriods_11 (by decide) ?_
  refine lv_bipush (v := 50) hx hb dX8_arePeriods_12 (by decide) ?_
  have ct := k_cut_of (wc := []) (wr := []) (tc := []) hG hS hA hK hP hD [] [] [] rfl rfl (by decide) (by decide) (by decide) rfl
  refine k_endi (As := [.int rt, .int 1, .int 50]) ct (k_runS (As := [.int rt, .int 1, .int 50]) (rest := []) S0 Ls_X8_46 ct (c_M_in1 l D rt 1 50 ((per_1 hp).2.1) ((per_1 hp).2.2) H.size) hl.1 rfl (Nat.le_of_ble_eq_true rfl) rfl dX8_arePeriods_14 ⟨⟨Nat.le_of_ble_eq_true rfl, Nat.le_of_ble_eq_true rfl⟩, Nat.le_of_ble_eq_true rfl, Nat.le_of_ble_eq_true rfl⟩) rfl rfl (fun r_3 _ H locs hw_4 hP hD hK hS => ?_)
  have hK : va_K D vwCl [] s := hK
  have hP : va_P D vwCl [] H := hP
  have hD : va_D A [] := hD
  have hw_4 : r_3 = (1) := hw_4
  have hw_4 := hw_4.symm
  subst hw_4
  refine k_nrm (y := 1) rfl ?_
  refine lv_if_eq (tgt := 24) hx hb dX8_arePeriods_17 (by decide) (fun c9 => absurd c9 (by decide)) (fun _ => ?_)
  refine lv_iconst (v := 1) hx hb dX8_arePeriods_20 (by decide) ?_
  refine lv_goto (tgt := 25) hx hb dX8_arePeriods_21 (by decide) ?_
  have hP9 : va_P D vwCl [] H := hP.sub [] rfl
  have hD9 : va_D A [] := hD.sub [] (by decide) rfl
  have hK9 : va_K D vwCl [] s := hK.sub [] rfl
  exact W.zret (v := 1) hx hb hr (rfl) (fun t ht9 hW9 => ⟨⟨1, (), rfl, by first | rfl | trivial | (simp only [if_true, if_false, reduceIte, and_self]; done) | simp_all, ⟨by rw [ht9]; exact hP9, va_K.moved hW9.alike hK9, hD9⟩⟩, hS.F ht9⟩) hS.2.2 dX8_arePeriods_25
set_option maxHeartbeats 4000000 in
set_option maxRecDepth 100000 in
theorem c_M_per0 (l : Launch) (D : va_G) (lf : Int32) (rt : Int32) (hp : ¬ k_per lf rt) (sz : Nat) : k_Mi (S := Unit) l D yX8_arePeriods cX8_arePeriods 2 (some .boolean) 1 0 0 22 [.int lf, .int rt] [] [] (fun (r : Int32) (_ : Unit) => r = (0)) (fun _ => []) (fun _ => []) sz := by
  refine Met.ofW (cc := cX8_arePeriods) (maxL := 2) (ret := (some .boolean)) (by decide) rfl ?_
  intro p e s m args below meth c s₁ B hml hv
  obtain ⟨rfl, hsz, hP, hK, hD0, hG⟩ := hv
  have hx := B.exec
  have hb := B.bytes
  have hr := B.returns
  have ht : ∀ v9 ∈ wsA, v9.before ([.int lf, .int rt] : List Value).toArray s = true := fun v9 h9 => atoms_spec (ws := k_ws yX8_arePeriods cX8_arePeriods 2 (some .boolean)) B.pre v9 (List.mem_cons_of_mem _ h9)
  have hown : s.vm.findClass RX8 = some m.cls := findClass_of_methodNamed B.named
  have S0 : k_C p s m ([.int lf, .int rt] : List Value).toArray c cX8_arePeriods 2 RX8 := ⟨hx, hb, hml, hown, ht⟩
  have hlocks := B.notSynchronized
  subst hsz
  have hD := hD0.self (sz := s.heap.size)
  generalize hAe : va_A [] s.heap.size = A at hD hG ⊢
  have hA : ∀ q : Nat, s.heap.size ≤ q → A q := fun q h => by rw [← hAe]; exact Or.inr h
  have hS : va_S A s.heap s.heap [] := va_S.rf
  have hl := lv_entry ([.int lf, .int rt]) (n := 2) (Nat.le_of_ble_eq_true rfl)
  rw [lg_entry_eq]
  generalize (lg_sl ([.int lf, .int rt]) ++ List.replicate (2 - (lg_sl ([.int lf, .int rt])).length) Slot.unset).toArray = ls at hl ⊢
  have hl : lv_has ls 2 [(0, .int lf), (1, .int rt)] := hl
  have hP : va_P D vwCl [] s.heap := hP
  refine lv_iload_n hx hb dX8_arePeriods_0 rfl (lv_at hl 0 rfl) ?_
  refine lv_iconst (v := 1) hx hb dX8_arePeriods_1 (by decide) ?_
  refine lv_bipush (v := 50) hx hb dX8_arePeriods_2 (by decide) ?_
  have ct := k_cut_of (wc := []) (wr := []) (tc := []) hG hS hA hK hP hD [] [] [] rfl rfl (by decide) (by decide) (by decide) rfl
  refine k_endi (As := [.int lf, .int 1, .int 50]) ct (k_runS (As := [.int lf, .int 1, .int 50]) (rest := []) S0 Ls_X8_46 ct (c_M_in l D lf 1 50 s.heap.size) hl.1 rfl (Nat.le_of_ble_eq_true rfl) rfl dX8_arePeriods_4 ⟨⟨Nat.le_of_ble_eq_true rfl, Nat.le_of_ble_eq_true rfl⟩, Nat.le_of_ble_eq_true rfl, Nat.le_of_ble_eq_true rfl⟩) rfl rfl (fun r_1 _ H locs hw_2 hP hD hK hS => ?_)
  have hK : va_K D vwCl [] s := hK
  have hP : va_P D vwCl [] H := hP
  have hD : va_D A [] := hD
  rcases hw_2 with ⟨hr9, c_3, c_4⟩ | ⟨hr9, c_5⟩
  · subst hr9
    refine lv_if_eq (tgt := 24) hx hb dX8_arePeriods_7 (by decide) (fun c9 => absurd c9 (by decide)) (fun _ => ?_)
    refine lv_iload_n hx hb dX8_arePeriods_10 rfl (lv_at hl 1 rfl) ?_
    refine lv_iconst (v := 1) hx hb dX8_arePeriods_11 (by decide) ?_
    refine lv_bipush (v := 50) hx hb dX8_arePeriods_12 (by decide) ?_
    have ct := k_cut_of (wc := []) (wr := []) (tc := []) hG hS hA hK hP hD [] [] [] rfl rfl (by decide) (by decide) (by decide) rfl
    refine k_endi (As := [.int rt, .int 1, .int 50]) ct (k_runS (As := [.int rt, .int 1, .int 50]) (rest := []) S0 Ls_X8_46 ct (c_M_in l D rt 1 50 H.size) hl.1 rfl (Nat.le_of_ble_eq_true rfl) rfl dX8_arePeriods_14 ⟨⟨Nat.le_of_ble_eq_true rfl, Nat.le_of_ble_eq_true rfl⟩, Nat.le_of_ble_eq_true rfl, Nat.le_of_ble_eq_true rfl⟩) rfl rfl (fun r_6 _ H locs hw_7 hP hD hK hS => ?_)
    have hK : va_K D vwCl [] s := hK
    have hP : va_P D vwCl [] H := hP
    have hD : va_D A [] := hD
    rcases hw_7 with ⟨hr9, c_8, c_9⟩ | ⟨hr9, c_10⟩
    · subst hr9
      refine lv_if_eq (tgt := 24) hx hb dX8_arePeriods_17 (by decide) (fun c9 => absurd c9 (by decide)) (fun _ => ?_)
      refine lv_iconst (v := 1) hx hb dX8_arePeriods_20 (by decide) ?_
      refine lv_goto (tgt := 25) hx hb dX8_arePeriods_21 (by decide) ?_
      have hP9 : va_P D vwCl [] H := hP.sub [] rfl
      have hD9 : va_D A [] := hD.sub [] (by decide) rfl
      have hK9 : va_K D vwCl [] s := hK.sub [] rfl
      exact W.zret (v := 1) hx hb hr (rfl) (fun t ht9 hW9 => ⟨⟨1, (), rfl, by (exact absurd ⟨c_3, c_4, c_8, fa_of_nlt c_9⟩ hp), ⟨by rw [ht9]; exact hP9, va_K.moved hW9.alike hK9, hD9⟩⟩, hS.F ht9⟩) hS.2.2 dX8_arePeriods_25
    · subst hr9
      refine lv_if_eq (tgt := 24) hx hb dX8_arePeriods_17 (by decide) (fun _ => ?_) (fun c9 => absurd (by decide) c9)
      refine lv_iconst (v := 0) hx hb dX8_arePeriods_24 (by decide) ?_
      have hP9 : va_P D vwCl [] H := hP.sub [] rfl
      have hD9 : va_D A [] := hD.sub [] (by decide) rfl
      have hK9 : va_K D vwCl [] s := hK.sub [] rfl
      exact W.zret (v := 0) hx hb hr (rfl) (fun t ht9 hW9 => ⟨⟨0, (), rfl, by rfl, ⟨by rw [ht9]; exact hP9, va_K.moved hW9.alike hK9, hD9⟩⟩, hS.F ht9⟩) hS.2.2 dX8_arePeriods_25
  · subst hr9
    refine lv_if_eq (tgt := 24) hx hb dX8_arePeriods_7 (by decide) (fun _ => ?_) (fun c9 => absurd (by decide) c9)
    refine lv_iconst (v := 0) hx hb dX8_arePeriods_24 (by decide) ?_
    have hP9 : va_P D vwCl [] H := hP.sub [] rfl
    have hD9 : va_D A [] := hD.sub [] (by decide) rfl
    have hK9 : va_K D vwCl [] s := hK.sub [] rfl
    exact W.zret (v := 0) hx hb hr (rfl) (fun t ht9 hW9 => ⟨⟨0, (), rfl, by rfl, ⟨by rw [ht9]; exact hP9, va_K.moved hW9.alike hK9, hD9⟩⟩, hS.F ht9⟩) hS.2.2 dX8_arePeriods_25
set_option maxHeartbeats 4000000 in
set_option maxRecDepth 100000 in
theorem c_M_draw (l : Launch) (D : va_G) (mo : Nat) (ms : Nat) (kp : Nat) (mb : Nat) (ty : Int32) (th : Int32) (mk : Nat) (ml : Int32) (mfd : Nat) (mf : Int32) (sp : Int32) (on : Int32) (tw : Int32) (K : ClassId) (sf : Nat → Int32) (lk : Nat → Int32) (fd : Nat → Int32) (x : ST) (lf : Int32) (rt : Int32) (b : Int32) (x1 : ST) (r0 : Int32) (hR : RS x sf) (hbx : bST x) (hlx : labW x) (hkp : kp ≤ 6) (hp : k_per lf rt) (hne : ¬ s_ns x = 0) (hrc : RC (setT (s_ns x) (cpy (s_drw x lf rt b) (s_tf x) (s_ns x)) x) x1 r0) (sz : Nat) : k_Mi (S := Int32 × Int32 × (Nat → Int32) × (Nat → Int32) × (Nat → Int32)) l D yX8_draw cX8_draw 4 (some .int) 9 0 0 214 [.ref mo, .int lf, .int rt, .int b] [(mo, .inr (8, [.ref ms, .int (nI kp), .ref mb, .int ty, .int th, .ref mk, .int ml, .ref mfd, .int mf, .int sp, .int on, .int tw])), (ms, .inl (K, 889, .inl sf)), (mk, .inl (K, 41, .inl lk)), (mfd, .inl (K, 9, .inl fd))] [(K, .int)] (fun (r : Int32) (u : Int32 × Int32 × (Nat → Int32) × (Nat → Int32) × (Nat → Int32)) => match u with | (ml1, mf1, sg, lk1, fd1) => r = r0 ∧ RS x1 sg ∧ hiEq sg (svM kp sf)) (fun u => match u with | (ml1, mf1, sg, lk1, fd1) => [(mo, .inr (8, [.ref ms, .int (nI (min (kp + 1) 6)), .ref mb, .int ty, .int 0, .ref mk, .int ml1, .ref mfd, .int mf1, .int sp, .int on, .int tw])), (ms, .inl (K, 889, .inl sg)), (mk, .inl (K, 41, .inl lk1)), (mfd, .inl (K, 9, .inl fd1))]) (fun u => match u with | (ml1, mf1, sg, lk1, fd1) => []) sz := by
  refine Met.ofW (cc := cX8_draw) (maxL := 4) (ret := (some .int)) (by decide) rfl ?_
  intro p e s m args below meth c s₁ B hml hv
  obtain ⟨rfl, hsz, hP, hK, hD0, hG⟩ := hv
  have hx := B.exec
  have hb := B.bytes
  have hr := B.returns
  have ht : ∀ v9 ∈ wsA, v9.before ([.ref mo, .int lf, .int rt, .int b] : List Value).toArray s = true := fun v9 h9 => atoms_spec (ws := k_ws yX8_draw cX8_draw 4 (some .int)) B.pre v9 (List.mem_cons_of_mem _ h9)
  have hown : s.vm.findClass RX8 = some m.cls := findClass_of_methodNamed B.named
  have S0 : k_C p s m ([.ref mo, .int lf, .int rt, .int b] : List Value).toArray c cX8_draw 4 RX8 := ⟨hx, hb, hml, hown, ht⟩
  have hlocks := B.notSynchronized
  subst hsz
  have hD := hD0.self (sz := s.heap.size)
  generalize hAe : va_A [(mo, .inr (8, [.ref ms, .int (nI kp), .ref mb, .int ty, .int th, .ref mk, .int ml, .ref mfd, .int mf, .int sp, .int on, .int tw])), (ms, .inl (K, 889, .inl sf)), (mk, .inl (K, 41, .inl lk)), (mfd, .inl (K, 9, .inl fd))] s.heap.size = A at hD hG ⊢
  have hA : ∀ q : Nat, s.heap.size ≤ q → A q := fun q h => by rw [← hAe]; exact Or.inr h
  have hS : va_S A s.heap s.heap [] := va_S.rf
  have hl := lv_entry ([.ref mo, .int lf, .int rt, .int b]) (n := 4) (Nat.le_of_ble_eq_true rfl)
  rw [lg_entry_eq]
  generalize (lg_sl ([.ref mo, .int lf, .int rt, .int b]) ++ List.replicate (4 - (lg_sl ([.ref mo, .int lf, .int rt, .int b])).length) Slot.unset).toArray = ls at hl ⊢
  have hl : lv_has ls 4 [(0, .ref mo), (1, .int lf), (2, .int rt), (3, .int b)] := hl
  have hP : va_P D vwCl [(mo, .inr (8, [.ref ms, .int (nI kp), .ref mb, .int ty, .int th, .ref mk, .int ml, .ref mfd, .int mf, .int sp, .int on, .int tw])), (ms, .inl (K, 889, .inl sf)), (mk, .inl (K, 41, .inl lk)), (mfd, .inl (K, 9, .inl fd))] s.heap := hP
  have hR9 := hR
  have hlx9 : labW x := hlx
  obtain ⟨q0, q1, q2, h51, q4, h93, ⟨h94, q7⟩, h125, h126⟩ := hR
  obtain ⟨b1, b2, b3, b4⟩ := bST_le hbx
  obtain ⟨hl1, hl2⟩ := hlx
  refine lv_aload_n hx hb dX8_draw_0 rfl (lv_at hl 0 rfl) ?_
  refine lv_iload_n hx hb dX8_draw_1 rfl (lv_at hl 1 rfl) ?_
  refine lv_iload_n hx hb dX8_draw_2 rfl (lv_at hl 2 rfl) ?_
  have ct := k_cut_of (wc := []) (wr := [(mo, .inr (8, [.ref ms, .int (nI kp), .ref mb, .int ty, .int th, .ref mk, .int ml, .ref mfd, .int mf, .int sp, .int on, .int tw])), (ms, .inl (K, 889, .inl sf)), (mk, .inl (K, 41, .inl lk)), (mfd, .inl (K, 9, .inl fd))]) (tc := []) hG hS hA hK hP hD [] [0, 1, 2, 3] [] rfl rfl (by decide) (by decide) (by decide) rfl
  refine k_endi (As := [.int lf, .int rt]) ct (k_runS (As := [.int lf, .int rt]) (rest := [.ref mo]) S0 Ls_X8_135 ct (c_M_per1 l D lf rt (by assumption) s.heap.size) hl.1 rfl (Nat.le_of_ble_eq_true rfl) rfl dX8_draw_3 ⟨⟨Nat.le_of_ble_eq_true rfl, Nat.le_of_ble_eq_true rfl⟩, Nat.le_of_ble_eq_true rfl, Nat.le_of_ble_eq_true rfl⟩) rfl rfl (fun r_1 _ H locs hw_2 hP hD hK hS => ?_)
  have hK : va_K D vwCl [(K, .int)] s := hK
  have hP : va_P D vwCl [(mo, .inr (8, [.ref ms, .int (nI kp), .ref mb, .int ty, .int th, .ref mk, .int ml, .ref mfd, .int mf, .int sp, .int on, .int tw])), (ms, .inl (K, 889, .inl sf)), (mk, .inl (K, 41, .inl lk)), (mfd, .inl (K, 9, .inl fd))] H := hP
  have hD : va_D A [(mo, .inr (8, [.ref ms, .int (nI kp), .ref mb, .int ty, .int th, .ref mk, .int ml, .ref mfd, .int mf, .int sp, .int on, .int tw])), (ms, .inl (K, 889, .inl sf)), (mk, .inl (K, 41, .inl lk)), (mfd, .inl (K, 9, .inl fd))] := hD
  have hw_2 : r_1 = (1) := hw_2
  have hw_2 := hw_2.symm
  subst hw_2
  refine k_nrm (y := 1) rfl ?_
  refine lv_aload_n hx hb dX8_draw_6 rfl (lv_at hl 0 rfl) ?_
  refine va_get (D := D) (ci := 8) (v := .ref ms) (C := RX8) (T := TX8) (N := 12) hx hb ht inA_X8 hown hK hP 0 rfl rfl 0 (by decide) (ht _ lf_X8_7) (fun _ h9 => h9) rfl dX8_draw_7 ?_
  refine lv_iconst (v := 0) hx hb dX8_draw_10 (by decide) ?_
  refine va_iald hx hb hK hP 1 0 rfl rfl (by unfold vp_in; decide) dX8_draw_11 ?_
  refine k_nrm (y := (nI (s_nd x))) (show sf (0 : Int32).toNatClampNeg = (nI (s_nd x)) from q0) ?_
  refine lv_if_le (tgt := 19) hx hb dX8_draw_12 (by decide) (fun c9 => absurd c9 (nI_gt0 (nd_ns hl1 hne) (by omega))) (fun c_3 => ?_)
  refine lv_iconst (v := 1) hx hb dX8_draw_15 (by decide) ?_
  refine lv_goto (tgt := 20) hx hb dX8_draw_16 (by decide) ?_
  have ct := k_cut_of (wc := [(mo, .inr (8, [.ref ms, .int (nI kp), .ref mb, .int ty, .int th, .ref mk, .int ml, .ref mfd, .int mf, .int sp, .int on, .int tw]))]) (wr := [(ms, .inl (K, 889, .inl sf)), (mk, .inl (K, 41, .inl lk)), (mfd, .inl (K, 9, .inl fd))]) (tc := []) hG hS hA hK hP hD [0] [1, 2, 3] [] rfl rfl (by decide) (by decide) (by decide) rfl
  refine k_endi (As := [.ref mo, .int 1, .int 1]) ct (k_runV (As := [.int 1, .int 1]) (rest := []) S0 Lv_X8_58 rfl (ci := 8) (q0 := 0) rfl rfl ct (c_M_goes11 l D mo ms (nI kp) mb ty th mk ml mfd mf sp on tw H.size) hl.1 rfl (Nat.le_of_ble_eq_true rfl) rfl dX8_draw_20 ⟨⟨Nat.le_of_ble_eq_true rfl, Nat.le_of_ble_eq_true rfl⟩, Nat.le_of_ble_eq_true rfl, Nat.le_of_ble_eq_true rfl⟩) rfl rfl (fun r_4 _ H locs hw_5 hP hD hK hS => ?_)
  have hK : va_K D vwCl [(K, .int)] s := hK
  have hP : va_P D vwCl [(ms, .inl (K, 889, .inl sf)), (mk, .inl (K, 41, .inl lk)), (mfd, .inl (K, 9, .inl fd)), (mo, .inr (8, [.ref ms, .int (nI kp), .ref mb, .int ty, .int 0, .ref mk, .int ml, .ref mfd, .int mf, .int sp, .int on, .int tw]))] H := hP
  have hD : va_D A [(ms, .inl (K, 889, .inl sf)), (mk, .inl (K, 41, .inl lk)), (mfd, .inl (K, 9, .inl fd)), (mo, .inr (8, [.ref ms, .int (nI kp), .ref mb, .int ty, .int 0, .ref mk, .int ml, .ref mfd, .int mf, .int sp, .int on, .int tw]))] := hD
  have hw_5 : r_4 = (1) := hw_5
  have hw_5 := hw_5.symm
  subst hw_5
  refine k_nrm (y := 1) rfl ?_
  refine lv_if_ne (tgt := 28) hx hb dX8_draw_23 (by decide) (fun _ => ?_) (fun c9 => absurd c9 (by decide))
  refine lv_aload_n hx hb dX8_draw_28 rfl (lv_at hl 0 rfl) ?_
  have ct := k_cut_of (wc := [(mo, .inr (8, [.ref ms, .int (nI kp), .ref mb, .int ty, .int 0, .ref mk, .int ml, .ref mfd, .int mf, .int sp, .int on, .int tw])), (ms, .inl (K, 889, .inl sf))]) (wr := [(mk, .inl (K, 41, .inl lk)), (mfd, .inl (K, 9, .inl fd))]) (tc := [(K, .int)]) hG hS hA hK hP hD [3, 0] [1, 2] [0] rfl rfl (by decide) (by decide) (by decide) rfl
  refine k_endv (As := [.ref mo]) ct (k_runV (As := []) (rest := []) S0 Lv_X8_62 rfl (ci := 8) (q0 := 0) rfl rfl ct (c_M_saves l D mo ms kp mb ty 0 mk ml mfd mf sp on tw K sf (by first | assumption | omega) H.size) hl.1 rfl (Nat.le_of_ble_eq_true rfl) rfl dX8_draw_29 ⟨⟨Nat.le_of_ble_eq_true rfl, Nat.le_of_ble_eq_true rfl⟩, Nat.le_of_ble_eq_true rfl, Nat.le_of_ble_eq_true rfl⟩) rfl rfl (fun _ _ H locs hw_7 hP hD hK hS => ?_)
  have hK : va_K D vwCl [(K, .int)] s := hK
  have hP : va_P D vwCl [(mk, .inl (K, 41, .inl lk)), (mfd, .inl (K, 9, .inl fd)), (mo, .inr (8, [.ref ms, .int (nI (min (kp + 1) 6)), .ref mb, .int ty, .int 0, .ref mk, .int ml, .ref mfd, .int mf, .int sp, .int on, .int tw])), (ms, .inl (K, 889, .inl (svM kp sf)))] H := hP
  have hD : va_D A [(mk, .inl (K, 41, .inl lk)), (mfd, .inl (K, 9, .inl fd)), (mo, .inr (8, [.ref ms, .int (nI (min (kp + 1) 6)), .ref mb, .int ty, .int 0, .ref mk, .int ml, .ref mfd, .int mf, .int sp, .int on, .int tw])), (ms, .inl (K, 889, .inl (svM kp sf)))] := hD
  have hRs : RS x (svM kp sf) := RS_sv hbx hR9
  have hRs9 := hRs
  obtain ⟨k0, k1, k2, h51s, k4, h93s, ⟨h94s, k7⟩, h125s, h126s⟩ := hRs
  refine lv_aload_n hx hb dX8_draw_32 rfl (lv_at hl 0 rfl) ?_
  refine lv_iload_n hx hb dX8_draw_33 rfl (lv_at hl 1 rfl) ?_
  refine lv_iload_n hx hb dX8_draw_34 rfl (lv_at hl 2 rfl) ?_
  refine lv_iload_n hx hb dX8_draw_35 rfl (lv_at hl 3 rfl) ?_
  have ct := k_cut_of (wc := [(mo, .inr (8, [.ref ms, .int (nI (min (kp + 1) 6)), .ref mb, .int ty, .int 0, .ref mk, .int ml, .ref mfd, .int mf, .int sp, .int on, .int tw])), (ms, .inl (K, 889, .inl (svM kp sf))), (mk, .inl (K, 41, .inl lk)), (mfd, .inl (K, 9, .inl fd))]) (wr := []) (tc := [(K, .int)]) hG hS hA hK hP hD [2, 3, 0, 1] [] [0] rfl rfl (by decide) (by decide) (by decide) rfl
  refine k_endi (As := [.ref mo, .int lf, .int rt, .int b]) ct (k_runV (As := [.int lf, .int rt, .int b]) (rest := []) S0 Lv_X8_138 rfl (ci := 8) (q0 := 0) rfl rfl ct (c_M_draws l D mo ms (nI (min (kp + 1) 6)) mb ty 0 mk ml mfd mf sp on tw K (svM kp sf) lk fd x lf rt b x1 r0 hRs9 (by assumption) hlx9 (by assumption) H.size) hl.1 rfl (Nat.le_of_ble_eq_true rfl) rfl dX8_draw_36 ⟨⟨Nat.le_of_ble_eq_true rfl, Nat.le_of_ble_eq_true rfl⟩, Nat.le_of_ble_eq_true rfl, Nat.le_of_ble_eq_true rfl⟩) rfl rfl (fun r_8 u H locs hw_14 hP hD hK hS => ?_)
  obtain ⟨ml1v_9, mf1v_10, sg_11, lk1v_12, fd1v_13⟩ := u
  have hK : va_K D vwCl [(K, .int)] s := hK
  have hP : va_P D vwCl [(mo, .inr (8, [.ref ms, .int (nI (min (kp + 1) 6)), .ref mb, .int ty, .int 0, .ref mk, .int ml1v_9, .ref mfd, .int mf1v_10, .int sp, .int on, .int tw])), (ms, .inl (K, 889, .inl sg_11)), (mk, .inl (K, 41, .inl lk1v_12)), (mfd, .inl (K, 9, .inl fd1v_13))] H := hP
  have hD : va_D A [(mo, .inr (8, [.ref ms, .int (nI (min (kp + 1) 6)), .ref mb, .int ty, .int 0, .ref mk, .int ml1v_9, .ref mfd, .int mf1v_10, .int sp, .int on, .int tw])), (ms, .inl (K, 889, .inl sg_11)), (mk, .inl (K, 41, .inl lk1v_12)), (mfd, .inl (K, 9, .inl fd1v_13))] := hD
  have hw_14 : r_8 = r0 ∧ RS x1 sg_11 ∧ hiEq sg_11 (svM kp sf) := hw_14
  have hP9 : va_P D vwCl [(mo, .inr (8, [.ref ms, .int (nI (min (kp + 1) 6)), .ref mb, .int ty, .int 0, .ref mk, .int ml1v_9, .ref mfd, .int mf1v_10, .int sp, .int on, .int tw])), (ms, .inl (K, 889, .inl sg_11)), (mk, .inl (K, 41, .inl lk1v_12)), (mfd, .inl (K, 9, .inl fd1v_13))] H := hP.sub [0, 1, 2, 3] rfl
  have hD9 : va_D A [(mo, .inr (8, [.ref ms, .int (nI (min (kp + 1) 6)), .ref mb, .int ty, .int 0, .ref mk, .int ml1v_9, .ref mfd, .int mf1v_10, .int sp, .int on, .int tw])), (ms, .inl (K, 889, .inl sg_11)), (mk, .inl (K, 41, .inl lk1v_12)), (mfd, .inl (K, 9, .inl fd1v_13))] := hD.sub [0, 1, 2, 3] (by decide) rfl
  have hK9 : va_K D vwCl [] s := hK.sub [] rfl
  exact W.iret (v := r_8) hx hb hr (fun t ht9 hW9 => ⟨⟨r_8, (ml1v_9, mf1v_10, sg_11, lk1v_12, fd1v_13), rfl, by exact hw_14, ⟨by rw [ht9]; exact hP9, va_K.moved hW9.alike hK9, hD9⟩⟩, hS.F ht9⟩) hS.2.2 dX8_draw_39
set_option maxHeartbeats 4000000 in
set_option maxRecDepth 100000 in
theorem c_M_drawX2 (l : Launch) (D : va_G) (mo : Nat) (ms : Nat) (sv : Int32) (mb : Nat) (ty : Int32) (th : Int32) (mk : Nat) (ml : Int32) (mfd : Nat) (mf : Int32) (sp : Int32) (on : Int32) (tw : Int32) (K : ClassId) (sf : Nat → Int32) (x : ST) (lf : Int32) (rt : Int32) (b : Int32) (hR : RS x sf) (hbx : bST x) (hlx : labW x) (hp : k_per lf rt) (hne : s_ns x = 0) (sz : Nat) : k_Mi (S := Unit) l D yX8_draw cX8_draw 4 (some .int) 2 0 0 43 [.ref mo, .int lf, .int rt, .int b] [(mo, .inr (8, [.ref ms, .int sv, .ref mb, .int ty, .int th, .ref mk, .int ml, .ref mfd, .int mf, .int sp, .int on, .int tw])), (ms, .inl (K, 889, .inl sf))] [(K, .int)] (fun (r : Int32) (_ : Unit) => r = (0)) (fun _ => [(mo, .inr (8, [.ref ms, .int sv, .ref mb, .int ty, .int 2, .ref mk, .int ml, .ref mfd, .int mf, .int sp, .int on, .int tw])), (ms, .inl (K, 889, .inl sf))]) (fun _ => []) sz := by
  refine Met.ofW (cc := cX8_draw) (maxL := 4) (ret := (some .int)) (by decide) rfl ?_
  intro p e s m args below meth c s₁ B hml hv
  obtain ⟨rfl, hsz, hP, hK, hD0, hG⟩ := hv
  have hx := B.exec
  have hb := B.bytes
  have hr := B.returns
  have ht : ∀ v9 ∈ wsA, v9.before ([.ref mo, .int lf, .int rt, .int b] : List Value).toArray s = true := fun v9 h9 => atoms_spec (ws := k_ws yX8_draw cX8_draw 4 (some .int)) B.pre v9 (List.mem_cons_of_mem _ h9)
  have hown : s.vm.findClass RX8 = some m.cls := findClass_of_methodNamed B.named
  have S0 : k_C p s m ([.ref mo, .int lf, .int rt, .int b] : List Value).toArray c cX8_draw 4 RX8 := ⟨hx, hb, hml, hown, ht⟩
  have hlocks := B.notSynchronized
  subst hsz
  have hD := hD0.self (sz := s.heap.size)
  generalize hAe : va_A [(mo, .inr (8, [.ref ms, .int sv, .ref mb, .int ty, .int th, .ref mk, .int ml, .ref mfd, .int mf, .int sp, .int on, .int tw])), (ms, .inl (K, 889, .inl sf))] s.heap.size = A at hD hG ⊢
  have hA : ∀ q : Nat, s.heap.size ≤ q → A q := fun q h => by rw [← hAe]; exact Or.inr h
  have hS : va_S A s.heap s.heap [] := va_S.rf
  have hl := lv_entry ([.ref mo, .int lf, .int rt, .int b]) (n := 4) (Nat.le_of_ble_eq_true rfl)
  rw [lg_entry_eq]
  generalize (lg_sl ([.ref mo, .int lf, .int rt, .int b]) ++ List.replicate (4 - (lg_sl ([.ref mo, .int lf, .int rt, .int b])).length) Slot.unset).toArray = ls at hl ⊢
  have hl : lv_has ls 4 [(0, .ref mo), (1, .int lf), (2, .int rt), (3, .int b)] := hl
  have hP : va_P D vwCl [(mo, .inr (8, [.ref ms, .int sv, .ref mb, .int ty, .int th, .ref mk, .int ml, .ref mfd, .int mf, .int sp, .int on, .int tw])), (ms, .inl (K, 889, .inl sf))] s.heap := hP
  have hR9 := hR
  have hlx9 : labW x := hlx
  obtain ⟨q0, q1, q2, h51, q4, h93, ⟨h94, q7⟩, h125, h126⟩ := hR
  obtain ⟨b1, b2, b3, b4⟩ := bST_le hbx
  obtain ⟨hl1, hl2⟩ := hlx
  refine lv_aload_n hx hb dX8_draw_0 rfl (lv_at hl 0 rfl) ?_
  refine lv_iload_n hx hb dX8_draw_1 rfl (lv_at hl 1 rfl) ?_
  refine lv_iload_n hx hb dX8_draw_2 rfl (lv_at hl 2 rfl) ?_
  have ct := k_cut_of (wc := []) (wr := [(mo, .inr (8, [.ref ms, .int sv, .ref mb, .int ty, .int th, .ref mk, .int ml, .ref mfd, .int mf, .int sp, .int on, .int tw])), (ms, .inl (K, 889, .inl sf))]) (tc := []) hG hS hA hK hP hD [] [0, 1] [] rfl rfl (by decide) (by decide) (by decide) rfl
  refine k_endi (As := [.int lf, .int rt]) ct (k_runS (As := [.int lf, .int rt]) (rest := [.ref mo]) S0 Ls_X8_135 ct (c_M_per1 l D lf rt (by assumption) s.heap.size) hl.1 rfl (Nat.le_of_ble_eq_true rfl) rfl dX8_draw_3 ⟨⟨Nat.le_of_ble_eq_true rfl, Nat.le_of_ble_eq_true rfl⟩, Nat.le_of_ble_eq_true rfl, Nat.le_of_ble_eq_true rfl⟩) rfl rfl (fun r_1 _ H locs hw_2 hP hD hK hS => ?_)
  have hK : va_K D vwCl [(K, .int)] s := hK
  have hP : va_P D vwCl [(mo, .inr (8, [.ref ms, .int sv, .ref mb, .int ty, .int th, .ref mk, .int ml, .ref mfd, .int mf, .int sp, .int on, .int tw])), (ms, .inl (K, 889, .inl sf))] H := hP
  have hD : va_D A [(mo, .inr (8, [.ref ms, .int sv, .ref mb, .int ty, .int th, .ref mk, .int ml, .ref mfd, .int mf, .int sp, .int on, .int tw])), (ms, .inl (K, 889, .inl sf))] := hD
  have hw_2 : r_1 = (1) := hw_2
  have hw_2 := hw_2.symm
  subst hw_2
  refine k_nrm (y := 1) rfl ?_
  refine lv_aload_n hx hb dX8_draw_6 rfl (lv_at hl 0 rfl) ?_
  refine va_get (D := D) (ci := 8) (v := .ref ms) (C := RX8) (T := TX8) (N := 12) hx hb ht inA_X8 hown hK hP 0 rfl rfl 0 (by decide) (ht _ lf_X8_7) (fun _ h9 => h9) rfl dX8_draw_7 ?_
  refine lv_iconst (v := 0) hx hb dX8_draw_10 (by decide) ?_
  refine va_iald hx hb hK hP 1 0 rfl rfl (by unfold vp_in; decide) dX8_draw_11 ?_
  refine k_nrm (y := (nI (s_nd x))) (show sf (0 : Int32).toNatClampNeg = (nI (s_nd x)) from q0) ?_
  refine lv_if_le (tgt := 19) hx hb dX8_draw_12 (by decide) (fun c_3 => ?_) (fun c9 => absurd (by rw [nd_ns0 hl1 hne]; decide) c9)
  refine lv_iconst (v := 0) hx hb dX8_draw_19 (by decide) ?_
  have ct := k_cut_of (wc := [(mo, .inr (8, [.ref ms, .int sv, .ref mb, .int ty, .int th, .ref mk, .int ml, .ref mfd, .int mf, .int sp, .int on, .int tw]))]) (wr := [(ms, .inl (K, 889, .inl sf))]) (tc := []) hG hS hA hK hP hD [0] [1] [] rfl rfl (by decide) (by decide) (by decide) rfl
  refine k_endi (As := [.ref mo, .int 1, .int 0]) ct (k_runV (As := [.int 1, .int 0]) (rest := []) S0 Lv_X8_58 rfl (ci := 8) (q0 := 0) rfl rfl ct (c_M_goes10 l D mo ms sv mb ty th mk ml mfd mf sp on tw H.size) hl.1 rfl (Nat.le_of_ble_eq_true rfl) rfl dX8_draw_20 ⟨⟨Nat.le_of_ble_eq_true rfl, Nat.le_of_ble_eq_true rfl⟩, Nat.le_of_ble_eq_true rfl, Nat.le_of_ble_eq_true rfl⟩) rfl rfl (fun r_4 _ H locs hw_5 hP hD hK hS => ?_)
  have hK : va_K D vwCl [(K, .int)] s := hK
  have hP : va_P D vwCl [(ms, .inl (K, 889, .inl sf)), (mo, .inr (8, [.ref ms, .int sv, .ref mb, .int ty, .int 2, .ref mk, .int ml, .ref mfd, .int mf, .int sp, .int on, .int tw]))] H := hP
  have hD : va_D A [(ms, .inl (K, 889, .inl sf)), (mo, .inr (8, [.ref ms, .int sv, .ref mb, .int ty, .int 2, .ref mk, .int ml, .ref mfd, .int mf, .int sp, .int on, .int tw]))] := hD
  have hw_5 : r_4 = (0) := hw_5
  have hw_5 := hw_5.symm
  subst hw_5
  refine k_nrm (y := 0) rfl ?_
  refine lv_if_ne (tgt := 28) hx hb dX8_draw_23 (by decide) (fun c9 => absurd (by decide) c9) (fun _ => ?_)
  refine lv_iconst (v := 0) hx hb dX8_draw_26 (by decide) ?_
  have hP9 : va_P D vwCl [(mo, .inr (8, [.ref ms, .int sv, .ref mb, .int ty, .int 2, .ref mk, .int ml, .ref mfd, .int mf, .int sp, .int on, .int tw])), (ms, .inl (K, 889, .inl sf))] H := hP.sub [1, 0] rfl
  have hD9 : va_D A [(mo, .inr (8, [.ref ms, .int sv, .ref mb, .int ty, .int 2, .ref mk, .int ml, .ref mfd, .int mf, .int sp, .int on, .int tw])), (ms, .inl (K, 889, .inl sf))] := hD.sub [1, 0] (by decide) rfl
  have hK9 : va_K D vwCl [] s := hK.sub [] rfl
  exact W.iret (v := 0) hx hb hr (fun t ht9 hW9 => ⟨⟨0, (), rfl, by first | rfl | trivial | (simp only [c_3, if_true, if_false, reduceIte, and_self]; done) | simp_all, ⟨by rw [ht9]; exact hP9, va_K.moved hW9.alike hK9, hD9⟩⟩, hS.F ht9⟩) hS.2.2 dX8_draw_27
set_option maxHeartbeats 4000000 in
set_option maxRecDepth 100000 in
theorem c_M_drawX1 (l : Launch) (D : va_G) (mo : Nat) (ms : Nat) (sv : Int32) (mb : Nat) (ty : Int32) (th : Int32) (mk : Nat) (ml : Int32) (mfd : Nat) (mf : Int32) (sp : Int32) (on : Int32) (tw : Int32) (K : ClassId) (sf : Nat → Int32) (x : ST) (lf : Int32) (rt : Int32) (b : Int32) (hR : RS x sf) (hbx : bST x) (hlx : labW x) (hp : ¬ k_per lf rt) (sz : Nat) : k_Mi (S := Unit) l D yX8_draw cX8_draw 4 (some .int) 2 0 0 43 [.ref mo, .int lf, .int rt, .int b] [(mo, .inr (8, [.ref ms, .int sv, .ref mb, .int ty, .int th, .ref mk, .int ml, .ref mfd, .int mf, .int sp, .int on, .int tw])), (ms, .inl (K, 889, .inl sf))] [(K, .int)] (fun (r : Int32) (_ : Unit) => r = (0)) (fun _ => [(mo, .inr (8, [.ref ms, .int sv, .ref mb, .int ty, .int 1, .ref mk, .int ml, .ref mfd, .int mf, .int sp, .int on, .int tw])), (ms, .inl (K, 889, .inl sf))]) (fun _ => []) sz := by
  refine Met.ofW (cc := cX8_draw) (maxL := 4) (ret := (some .int)) (by decide) rfl ?_
  intro p e s m args below meth c s₁ B hml hv
  obtain ⟨rfl, hsz, hP, hK, hD0, hG⟩ := hv
  have hx := B.exec
  have hb := B.bytes
  have hr := B.returns
  have ht : ∀ v9 ∈ wsA, v9.before ([.ref mo, .int lf, .int rt, .int b] : List Value).toArray s = true := fun v9 h9 => atoms_spec (ws := k_ws yX8_draw cX8_draw 4 (some .int)) B.pre v9 (List.mem_cons_of_mem _ h9)
  have hown : s.vm.findClass RX8 = some m.cls := findClass_of_methodNamed B.named
  have S0 : k_C p s m ([.ref mo, .int lf, .int rt, .int b] : List Value).toArray c cX8_draw 4 RX8 := ⟨hx, hb, hml, hown, ht⟩
  have hlocks := B.notSynchronized
  subst hsz
  have hD := hD0.self (sz := s.heap.size)
  generalize hAe : va_A [(mo, .inr (8, [.ref ms, .int sv, .ref mb, .int ty, .int th, .ref mk, .int ml, .ref mfd, .int mf, .int sp, .int on, .int tw])), (ms, .inl (K, 889, .inl sf))] s.heap.size = A at hD hG ⊢
  have hA : ∀ q : Nat, s.heap.size ≤ q → A q := fun q h => by rw [← hAe]; exact Or.inr h
  have hS : va_S A s.heap s.heap [] := va_S.rf
  have hl := lv_entry ([.ref mo, .int lf, .int rt, .int b]) (n := 4) (Nat.le_of_ble_eq_true rfl)
  rw [lg_entry_eq]
  generalize (lg_sl ([.ref mo, .int lf, .int rt, .int b]) ++ List.replicate (4 - (lg_sl ([.ref mo, .int lf, .int rt, .int b])).length) Slot.unset).toArray = ls at hl ⊢
  have hl : lv_has ls 4 [(0, .ref mo), (1, .int lf), (2, .int rt), (3, .int b)] := hl
  have hP : va_P D vwCl [(mo, .inr (8, [.ref ms, .int sv, .ref mb, .int ty, .int th, .ref mk, .int ml, .ref mfd, .int mf, .int sp, .int on, .int tw])), (ms, .inl (K, 889, .inl sf))] s.heap := hP
  have hR9 := hR
  have hlx9 : labW x := hlx
  obtain ⟨q0, q1, q2, h51, q4, h93, ⟨h94, q7⟩, h125, h126⟩ := hR
  obtain ⟨b1, b2, b3, b4⟩ := bST_le hbx
  obtain ⟨hl1, hl2⟩ := hlx
  refine lv_aload_n hx hb dX8_draw_0 rfl (lv_at hl 0 rfl) ?_
  refine lv_iload_n hx hb dX8_draw_1 rfl (lv_at hl 1 rfl) ?_
  refine lv_iload_n hx hb dX8_draw_2 rfl (lv_at hl 2 rfl) ?_
  have ct := k_cut_of (wc := []) (wr := [(mo, .inr (8, [.ref ms, .int sv, .ref mb, .int ty, .int th, .ref mk, .int ml, .ref mfd, .int mf, .int sp, .int on, .int tw])), (ms, .inl (K, 889, .inl sf))]) (tc := []) hG hS hA hK hP hD [] [0, 1] [] rfl rfl (by decide) (by decide) (by decide) rfl
  refine k_endi (As := [.int lf, .int rt]) ct (k_runS (As := [.int lf, .int rt]) (rest := [.ref mo]) S0 Ls_X8_135 ct (c_M_per0 l D lf rt (by assumption) s.heap.size) hl.1 rfl (Nat.le_of_ble_eq_true rfl) rfl dX8_draw_3 ⟨⟨Nat.le_of_ble_eq_true rfl, Nat.le_of_ble_eq_true rfl⟩, Nat.le_of_ble_eq_true rfl, Nat.le_of_ble_eq_true rfl⟩) rfl rfl (fun r_1 _ H locs hw_2 hP hD hK hS => ?_)
  have hK : va_K D vwCl [(K, .int)] s := hK
  have hP : va_P D vwCl [(mo, .inr (8, [.ref ms, .int sv, .ref mb, .int ty, .int th, .ref mk, .int ml, .ref mfd, .int mf, .int sp, .int on, .int tw])), (ms, .inl (K, 889, .inl sf))] H := hP
  have hD : va_D A [(mo, .inr (8, [.ref ms, .int sv, .ref mb, .int ty, .int th, .ref mk, .int ml, .ref mfd, .int mf, .int sp, .int on, .int tw])), (ms, .inl (K, 889, .inl sf))] := hD
  have hw_2 : r_1 = (0) := hw_2
  have hw_2 := hw_2.symm
  subst hw_2
  refine k_nrm (y := 0) rfl ?_
  refine lv_aload_n hx hb dX8_draw_6 rfl (lv_at hl 0 rfl) ?_
  refine va_get (D := D) (ci := 8) (v := .ref ms) (C := RX8) (T := TX8) (N := 12) hx hb ht inA_X8 hown hK hP 0 rfl rfl 0 (by decide) (ht _ lf_X8_7) (fun _ h9 => h9) rfl dX8_draw_7 ?_
  refine lv_iconst (v := 0) hx hb dX8_draw_10 (by decide) ?_
  refine va_iald hx hb hK hP 1 0 rfl rfl (by unfold vp_in; decide) dX8_draw_11 ?_
  refine k_nrm (y := (nI (s_nd x))) (show sf (0 : Int32).toNatClampNeg = (nI (s_nd x)) from q0) ?_
  refine lv_if_le (tgt := 19) hx hb dX8_draw_12 (by decide) (fun c_3 => ?_) (fun c_3 => ?_)
  · have hc9 := c_3
    refine lv_iconst (v := 0) hx hb dX8_draw_19 (by decide) ?_
    have ct := k_cut_of (wc := [(mo, .inr (8, [.ref ms, .int sv, .ref mb, .int ty, .int th, .ref mk, .int ml, .ref mfd, .int mf, .int sp, .int on, .int tw]))]) (wr := [(ms, .inl (K, 889, .inl sf))]) (tc := []) hG hS hA hK hP hD [0] [1] [] rfl rfl (by decide) (by decide) (by decide) rfl
    refine k_endi (As := [.ref mo, .int 0, .int 0]) ct (k_runV (As := [.int 0, .int 0]) (rest := []) S0 Lv_X8_58 rfl (ci := 8) (q0 := 0) rfl rfl ct (c_M_goes0 l D mo ms sv mb ty th mk ml mfd mf sp on tw 0 H.size) hl.1 rfl (Nat.le_of_ble_eq_true rfl) rfl dX8_draw_20 ⟨⟨Nat.le_of_ble_eq_true rfl, Nat.le_of_ble_eq_true rfl⟩, Nat.le_of_ble_eq_true rfl, Nat.le_of_ble_eq_true rfl⟩) rfl rfl (fun r_4 _ H locs hw_5 hP hD hK hS => ?_)
    have hK : va_K D vwCl [(K, .int)] s := hK
    have hP : va_P D vwCl [(ms, .inl (K, 889, .inl sf)), (mo, .inr (8, [.ref ms, .int sv, .ref mb, .int ty, .int 1, .ref mk, .int ml, .ref mfd, .int mf, .int sp, .int on, .int tw]))] H := hP
    have hD : va_D A [(ms, .inl (K, 889, .inl sf)), (mo, .inr (8, [.ref ms, .int sv, .ref mb, .int ty, .int 1, .ref mk, .int ml, .ref mfd, .int mf, .int sp, .int on, .int tw]))] := hD
    have hw_5 : r_4 = (0) := hw_5
    have hw_5 := hw_5.symm
    subst hw_5
    refine k_nrm (y := 0) rfl ?_
    refine lv_if_ne (tgt := 28) hx hb dX8_draw_23 (by decide) (fun c9 => absurd (by decide) c9) (fun _ => ?_)
    refine lv_iconst (v := 0) hx hb dX8_draw_26 (by decide) ?_
    have hP9 : va_P D vwCl [(mo, .inr (8, [.ref ms, .int sv, .ref mb, .int ty, .int 1, .ref mk, .int ml, .ref mfd, .int mf, .int sp, .int on, .int tw])), (ms, .inl (K, 889, .inl sf))] H := hP.sub [1, 0] rfl
    have hD9 : va_D A [(mo, .inr (8, [.ref ms, .int sv, .ref mb, .int ty, .int 1, .ref mk, .int ml, .ref mfd, .int mf, .int sp, .int on, .int tw])), (ms, .inl (K, 889, .inl sf))] := hD.sub [1, 0] (by decide) rfl
    have hK9 : va_K D vwCl [] s := hK.sub [] rfl
    exact W.iret (v := 0) hx hb hr (fun t ht9 hW9 => ⟨⟨0, (), rfl, by first | rfl | trivial | (simp only [c_3, if_true, if_false, reduceIte, and_self]; done) | simp_all, ⟨by rw [ht9]; exact hP9, va_K.moved hW9.alike hK9, hD9⟩⟩, hS.F ht9⟩) hS.2.2 dX8_draw_27
  · have hc9 := c_3
    refine lv_iconst (v := 1) hx hb dX8_draw_15 (by decide) ?_
    refine lv_goto (tgt := 20) hx hb dX8_draw_16 (by decide) ?_
    have ct := k_cut_of (wc := [(mo, .inr (8, [.ref ms, .int sv, .ref mb, .int ty, .int th, .ref mk, .int ml, .ref mfd, .int mf, .int sp, .int on, .int tw]))]) (wr := [(ms, .inl (K, 889, .inl sf))]) (tc := []) hG hS hA hK hP hD [0] [1] [] rfl rfl (by decide) (by decide) (by decide) rfl
    refine k_endi (As := [.ref mo, .int 0, .int 1]) ct (k_runV (As := [.int 0, .int 1]) (rest := []) S0 Lv_X8_58 rfl (ci := 8) (q0 := 0) rfl rfl ct (c_M_goes0 l D mo ms sv mb ty th mk ml mfd mf sp on tw 1 H.size) hl.1 rfl (Nat.le_of_ble_eq_true rfl) rfl dX8_draw_20 ⟨⟨Nat.le_of_ble_eq_true rfl, Nat.le_of_ble_eq_true rfl⟩, Nat.le_of_ble_eq_true rfl, Nat.le_of_ble_eq_true rfl⟩) rfl rfl (fun r_6 _ H locs hw_7 hP hD hK hS => ?_)
    have hK : va_K D vwCl [(K, .int)] s := hK
    have hP : va_P D vwCl [(ms, .inl (K, 889, .inl sf)), (mo, .inr (8, [.ref ms, .int sv, .ref mb, .int ty, .int 1, .ref mk, .int ml, .ref mfd, .int mf, .int sp, .int on, .int tw]))] H := hP
    have hD : va_D A [(ms, .inl (K, 889, .inl sf)), (mo, .inr (8, [.ref ms, .int sv, .ref mb, .int ty, .int 1, .ref mk, .int ml, .ref mfd, .int mf, .int sp, .int on, .int tw]))] := hD
    have hw_7 : r_6 = (0) := hw_7
    have hw_7 := hw_7.symm
    subst hw_7
    refine k_nrm (y := 0) rfl ?_
    refine lv_if_ne (tgt := 28) hx hb dX8_draw_23 (by decide) (fun c9 => absurd (by decide) c9) (fun _ => ?_)
    refine lv_iconst (v := 0) hx hb dX8_draw_26 (by decide) ?_
    have hP9 : va_P D vwCl [(mo, .inr (8, [.ref ms, .int sv, .ref mb, .int ty, .int 1, .ref mk, .int ml, .ref mfd, .int mf, .int sp, .int on, .int tw])), (ms, .inl (K, 889, .inl sf))] H := hP.sub [1, 0] rfl
    have hD9 : va_D A [(mo, .inr (8, [.ref ms, .int sv, .ref mb, .int ty, .int 1, .ref mk, .int ml, .ref mfd, .int mf, .int sp, .int on, .int tw])), (ms, .inl (K, 889, .inl sf))] := hD.sub [1, 0] (by decide) rfl
    have hK9 : va_K D vwCl [] s := hK.sub [] rfl
    exact W.iret (v := 0) hx hb hr (fun t ht9 hW9 => ⟨⟨0, (), rfl, by first | rfl | trivial | (simp only [c_3, if_true, if_false, reduceIte, and_self]; done) | simp_all, ⟨by rw [ht9]; exact hP9, va_K.moved hW9.alike hK9, hD9⟩⟩, hS.F ht9⟩) hS.2.2 dX8_draw_27
set_option maxHeartbeats 4000000 in
set_option maxRecDepth 100000 in
theorem c_M_ifDrawnX2 (l : Launch) (D : va_G) (mo : Nat) (ms : Nat) (sv : Int32) (mb : Nat) (ty : Int32) (th : Int32) (mk : Nat) (ml : Int32) (mfd : Nat) (mf : Int32) (sp : Int32) (on : Int32) (tw : Int32) (K : ClassId) (sf : Nat → Int32) (x : ST) (lf : Int32) (rt : Int32) (b : Int32) (hR : RS x sf) (hbx : bST x) (hlx : labW x) (hp : k_per lf rt) (hne : s_ns x = 0) (sz : Nat) : k_Mi (S := Unit) l D yX8_ifDrawn cX8_ifDrawn 4 (some .int) 2 0 0 43 [.ref mo, .int lf, .int rt, .int b] [(mo, .inr (8, [.ref ms, .int sv, .ref mb, .int ty, .int th, .ref mk, .int ml, .ref mfd, .int mf, .int sp, .int on, .int tw])), (ms, .inl (K, 889, .inl sf))] [(K, .int)] (fun (r : Int32) (_ : Unit) => r = (0)) (fun _ => [(mo, .inr (8, [.ref ms, .int sv, .ref mb, .int ty, .int 2, .ref mk, .int ml, .ref mfd, .int mf, .int sp, .int on, .int tw])), (ms, .inl (K, 889, .inl sf))]) (fun _ => []) sz := by
  refine Met.ofW (cc := cX8_ifDrawn) (maxL := 4) (ret := (some .int)) (by decide) rfl ?_
  intro p e s m args below meth c s₁ B hml hv
  obtain ⟨rfl, hsz, hP, hK, hD0, hG⟩ := hv
  have hx := B.exec
  have hb := B.bytes
  have hr := B.returns
  have ht : ∀ v9 ∈ wsA, v9.before ([.ref mo, .int lf, .int rt, .int b] : List Value).toArray s = true := fun v9 h9 => atoms_spec (ws := k_ws yX8_ifDrawn cX8_ifDrawn 4 (some .int)) B.pre v9 (List.mem_cons_of_mem _ h9)
  have hown : s.vm.findClass RX8 = some m.cls := findClass_of_methodNamed B.named
  have S0 : k_C p s m ([.ref mo, .int lf, .int rt, .int b] : List Value).toArray c cX8_ifDrawn 4 RX8 := ⟨hx, hb, hml, hown, ht⟩
  have hlocks := B.notSynchronized
  subst hsz
  have hD := hD0.self (sz := s.heap.size)
  generalize hAe : va_A [(mo, .inr (8, [.ref ms, .int sv, .ref mb, .int ty, .int th, .ref mk, .int ml, .ref mfd, .int mf, .int sp, .int on, .int tw])), (ms, .inl (K, 889, .inl sf))] s.heap.size = A at hD hG ⊢
  have hA : ∀ q : Nat, s.heap.size ≤ q → A q := fun q h => by rw [← hAe]; exact Or.inr h
  have hS : va_S A s.heap s.heap [] := va_S.rf
  have hl := lv_entry ([.ref mo, .int lf, .int rt, .int b]) (n := 4) (Nat.le_of_ble_eq_true rfl)
  rw [lg_entry_eq]
  generalize (lg_sl ([.ref mo, .int lf, .int rt, .int b]) ++ List.replicate (4 - (lg_sl ([.ref mo, .int lf, .int rt, .int b])).length) Slot.unset).toArray = ls at hl ⊢
  have hl : lv_has ls 4 [(0, .ref mo), (1, .int lf), (2, .int rt), (3, .int b)] := hl
  have hP : va_P D vwCl [(mo, .inr (8, [.ref ms, .int sv, .ref mb, .int ty, .int th, .ref mk, .int ml, .ref mfd, .int mf, .int sp, .int on, .int tw])), (ms, .inl (K, 889, .inl sf))] s.heap := hP
  have hR9 := hR
  have hlx9 : labW x := hlx
  obtain ⟨q0, q1, q2, h51, q4, h93, ⟨h94, q7⟩, h125, h126⟩ := hR
  obtain ⟨b1, b2, b3, b4⟩ := bST_le hbx
  obtain ⟨hl1, hl2⟩ := hlx
  refine lv_aload_n hx hb dX8_ifDrawn_0 rfl (lv_at hl 0 rfl) ?_
  refine lv_iload_n hx hb dX8_ifDrawn_1 rfl (lv_at hl 1 rfl) ?_
  refine lv_iload_n hx hb dX8_ifDrawn_2 rfl (lv_at hl 2 rfl) ?_
  have ct := k_cut_of (wc := []) (wr := [(mo, .inr (8, [.ref ms, .int sv, .ref mb, .int ty, .int th, .ref mk, .int ml, .ref mfd, .int mf, .int sp, .int on, .int tw])), (ms, .inl (K, 889, .inl sf))]) (tc := []) hG hS hA hK hP hD [] [0, 1] [] rfl rfl (by decide) (by decide) (by decide) rfl
  refine k_endi (As := [.int lf, .int rt]) ct (k_runS (As := [.int lf, .int rt]) (rest := [.ref mo]) S0 Ls_X8_135 ct (c_M_per1 l D lf rt (by assumption) s.heap.size) hl.1 rfl (Nat.le_of_ble_eq_true rfl) rfl dX8_ifDrawn_3 ⟨⟨Nat.le_of_ble_eq_true rfl, Nat.le_of_ble_eq_true rfl⟩, Nat.le_of_ble_eq_true rfl, Nat.le_of_ble_eq_true rfl⟩) rfl rfl (fun r_1 _ H locs hw_2 hP hD hK hS => ?_)
  have hK : va_K D vwCl [(K, .int)] s := hK
  have hP : va_P D vwCl [(mo, .inr (8, [.ref ms, .int sv, .ref mb, .int ty, .int th, .ref mk, .int ml, .ref mfd, .int mf, .int sp, .int on, .int tw])), (ms, .inl (K, 889, .inl sf))] H := hP
  have hD : va_D A [(mo, .inr (8, [.ref ms, .int sv, .ref mb, .int ty, .int th, .ref mk, .int ml, .ref mfd, .int mf, .int sp, .int on, .int tw])), (ms, .inl (K, 889, .inl sf))] := hD
  have hw_2 : r_1 = (1) := hw_2
  have hw_2 := hw_2.symm
  subst hw_2
  refine k_nrm (y := 1) rfl ?_
  refine lv_aload_n hx hb dX8_ifDrawn_6 rfl (lv_at hl 0 rfl) ?_
  refine va_get (D := D) (ci := 8) (v := .ref ms) (C := RX8) (T := TX8) (N := 12) hx hb ht inA_X8 hown hK hP 0 rfl rfl 0 (by decide) (ht _ lf_X8_7) (fun _ h9 => h9) rfl dX8_ifDrawn_7 ?_
  refine lv_iconst (v := 0) hx hb dX8_ifDrawn_10 (by decide) ?_
  refine va_iald hx hb hK hP 1 0 rfl rfl (by unfold vp_in; decide) dX8_ifDrawn_11 ?_
  refine k_nrm (y := (nI (s_nd x))) (show sf (0 : Int32).toNatClampNeg = (nI (s_nd x)) from q0) ?_
  refine lv_if_le (tgt := 19) hx hb dX8_ifDrawn_12 (by decide) (fun c_3 => ?_) (fun c9 => absurd (by rw [nd_ns0 hl1 hne]; decide) c9)
  refine lv_iconst (v := 0) hx hb dX8_ifDrawn_19 (by decide) ?_
  have ct := k_cut_of (wc := [(mo, .inr (8, [.ref ms, .int sv, .ref mb, .int ty, .int th, .ref mk, .int ml, .ref mfd, .int mf, .int sp, .int on, .int tw]))]) (wr := [(ms, .inl (K, 889, .inl sf))]) (tc := []) hG hS hA hK hP hD [0] [1] [] rfl rfl (by decide) (by decide) (by decide) rfl
  refine k_endi (As := [.ref mo, .int 1, .int 0]) ct (k_runV (As := [.int 1, .int 0]) (rest := []) S0 Lv_X8_58 rfl (ci := 8) (q0 := 0) rfl rfl ct (c_M_goes10 l D mo ms sv mb ty th mk ml mfd mf sp on tw H.size) hl.1 rfl (Nat.le_of_ble_eq_true rfl) rfl dX8_ifDrawn_20 ⟨⟨Nat.le_of_ble_eq_true rfl, Nat.le_of_ble_eq_true rfl⟩, Nat.le_of_ble_eq_true rfl, Nat.le_of_ble_eq_true rfl⟩) rfl rfl (fun r_4 _ H locs hw_5 hP hD hK hS => ?_)
  have hK : va_K D vwCl [(K, .int)] s := hK
  have hP : va_P D vwCl [(ms, .inl (K, 889, .inl sf)), (mo, .inr (8, [.ref ms, .int sv, .ref mb, .int ty, .int 2, .ref mk, .int ml, .ref mfd, .int mf, .int sp, .int on, .int tw]))] H := hP
  have hD : va_D A [(ms, .inl (K, 889, .inl sf)), (mo, .inr (8, [.ref ms, .int sv, .ref mb, .int ty, .int 2, .ref mk, .int ml, .ref mfd, .int mf, .int sp, .int on, .int tw]))] := hD
  have hw_5 : r_4 = (0) := hw_5
  have hw_5 := hw_5.symm
  subst hw_5
  refine k_nrm (y := 0) rfl ?_
  refine lv_if_ne (tgt := 28) hx hb dX8_ifDrawn_23 (by decide) (fun c9 => absurd (by decide) c9) (fun _ => ?_)
  refine lv_iconst (v := 0) hx hb dX8_ifDrawn_26 (by decide) ?_
  have hP9 : va_P D vwCl [(mo, .inr (8, [.ref ms, .int sv, .ref mb, .int ty, .int 2, .ref mk, .int ml, .ref mfd, .int mf, .int sp, .int on, .int tw])), (ms, .inl (K, 889, .inl sf))] H := hP.sub [1, 0] rfl
  have hD9 : va_D A [(mo, .inr (8, [.ref ms, .int sv, .ref mb, .int ty, .int 2, .ref mk, .int ml, .ref mfd, .int mf, .int sp, .int on, .int tw])), (ms, .inl (K, 889, .inl sf))] := hD.sub [1, 0] (by decide) rfl
  have hK9 : va_K D vwCl [] s := hK.sub [] rfl
  exact W.iret (v := 0) hx hb hr (fun t ht9 hW9 => ⟨⟨0, (), rfl, by first | rfl | trivial | (simp only [c_3, if_true, if_false, reduceIte, and_self]; done) | simp_all, ⟨by rw [ht9]; exact hP9, va_K.moved hW9.alike hK9, hD9⟩⟩, hS.F ht9⟩) hS.2.2 dX8_ifDrawn_27
set_option maxHeartbeats 4000000 in
set_option maxRecDepth 100000 in
theorem c_M_ifDrawnX1 (l : Launch) (D : va_G) (mo : Nat) (ms : Nat) (sv : Int32) (mb : Nat) (ty : Int32) (th : Int32) (mk : Nat) (ml : Int32) (mfd : Nat) (mf : Int32) (sp : Int32) (on : Int32) (tw : Int32) (K : ClassId) (sf : Nat → Int32) (x : ST) (lf : Int32) (rt : Int32) (b : Int32) (hR : RS x sf) (hbx : bST x) (hlx : labW x) (hp : ¬ k_per lf rt) (sz : Nat) : k_Mi (S := Unit) l D yX8_ifDrawn cX8_ifDrawn 4 (some .int) 2 0 0 43 [.ref mo, .int lf, .int rt, .int b] [(mo, .inr (8, [.ref ms, .int sv, .ref mb, .int ty, .int th, .ref mk, .int ml, .ref mfd, .int mf, .int sp, .int on, .int tw])), (ms, .inl (K, 889, .inl sf))] [(K, .int)] (fun (r : Int32) (_ : Unit) => r = (0)) (fun _ => [(mo, .inr (8, [.ref ms, .int sv, .ref mb, .int ty, .int 1, .ref mk, .int ml, .ref mfd, .int mf, .int sp, .int on, .int tw])), (ms, .inl (K, 889, .inl sf))]) (fun _ => []) sz := by
  refine Met.ofW (cc := cX8_ifDrawn) (maxL := 4) (ret := (some .int)) (by decide) rfl ?_
  intro p e s m args below meth c s₁ B hml hv
  obtain ⟨rfl, hsz, hP, hK, hD0, hG⟩ := hv
  have hx := B.exec
  have hb := B.bytes
  have hr := B.returns
  have ht : ∀ v9 ∈ wsA, v9.before ([.ref mo, .int lf, .int rt, .int b] : List Value).toArray s = true := fun v9 h9 => atoms_spec (ws := k_ws yX8_ifDrawn cX8_ifDrawn 4 (some .int)) B.pre v9 (List.mem_cons_of_mem _ h9)
  have hown : s.vm.findClass RX8 = some m.cls := findClass_of_methodNamed B.named
  have S0 : k_C p s m ([.ref mo, .int lf, .int rt, .int b] : List Value).toArray c cX8_ifDrawn 4 RX8 := ⟨hx, hb, hml, hown, ht⟩
  have hlocks := B.notSynchronized
  subst hsz
  have hD := hD0.self (sz := s.heap.size)
  generalize hAe : va_A [(mo, .inr (8, [.ref ms, .int sv, .ref mb, .int ty, .int th, .ref mk, .int ml, .ref mfd, .int mf, .int sp, .int on, .int tw])), (ms, .inl (K, 889, .inl sf))] s.heap.size = A at hD hG ⊢
  have hA : ∀ q : Nat, s.heap.size ≤ q → A q := fun q h => by rw [← hAe]; exact Or.inr h
  have hS : va_S A s.heap s.heap [] := va_S.rf
  have hl := lv_entry ([.ref mo, .int lf, .int rt, .int b]) (n := 4) (Nat.le_of_ble_eq_true rfl)
  rw [lg_entry_eq]
  generalize (lg_sl ([.ref mo, .int lf, .int rt, .int b]) ++ List.replicate (4 - (lg_sl ([.ref mo, .int lf, .int rt, .int b])).length) Slot.unset).toArray = ls at hl ⊢
  have hl : lv_has ls 4 [(0, .ref mo), (1, .int lf), (2, .int rt), (3, .int b)] := hl
  have hP : va_P D vwCl [(mo, .inr (8, [.ref ms, .int sv, .ref mb, .int ty, .int th, .ref mk, .int ml, .ref mfd, .int mf, .int sp, .int on, .int tw])), (ms, .inl (K, 889, .inl sf))] s.heap := hP
  have hR9 := hR
  have hlx9 : labW x := hlx
  obtain ⟨q0, q1, q2, h51, q4, h93, ⟨h94, q7⟩, h125, h126⟩ := hR
  obtain ⟨b1, b2, b3, b4⟩ := bST_le hbx
  obtain ⟨hl1, hl2⟩ := hlx
  refine lv_aload_n hx hb dX8_ifDrawn_0 rfl (lv_at hl 0 rfl) ?_
  refine lv_iload_n hx hb dX8_ifDrawn_1 rfl (lv_at hl 1 rfl) ?_
  refine lv_iload_n hx hb dX8_ifDrawn_2 rfl (lv_at hl 2 rfl) ?_
  have ct := k_cut_of (wc := []) (wr := [(mo, .inr (8, [.ref ms, .int sv, .ref mb, .int ty, .int th, .ref mk, .int ml, .ref mfd, .int mf, .int sp, .int on, .int tw])), (ms, .inl (K, 889, .inl sf))]) (tc := []) hG hS hA hK hP hD [] [0, 1] [] rfl rfl (by decide) (by decide) (by decide) rfl
  refine k_endi (As := [.int lf, .int rt]) ct (k_runS (As := [.int lf, .int rt]) (rest := [.ref mo]) S0 Ls_X8_135 ct (c_M_per0 l D lf rt (by assumption) s.heap.size) hl.1 rfl (Nat.le_of_ble_eq_true rfl) rfl dX8_ifDrawn_3 ⟨⟨Nat.le_of_ble_eq_true rfl, Nat.le_of_ble_eq_true rfl⟩, Nat.le_of_ble_eq_true rfl, Nat.le_of_ble_eq_true rfl⟩) rfl rfl (fun r_1 _ H locs hw_2 hP hD hK hS => ?_)
  have hK : va_K D vwCl [(K, .int)] s := hK
  have hP : va_P D vwCl [(mo, .inr (8, [.ref ms, .int sv, .ref mb, .int ty, .int th, .ref mk, .int ml, .ref mfd, .int mf, .int sp, .int on, .int tw])), (ms, .inl (K, 889, .inl sf))] H := hP
  have hD : va_D A [(mo, .inr (8, [.ref ms, .int sv, .ref mb, .int ty, .int th, .ref mk, .int ml, .ref mfd, .int mf, .int sp, .int on, .int tw])), (ms, .inl (K, 889, .inl sf))] := hD
  have hw_2 : r_1 = (0) := hw_2
  have hw_2 := hw_2.symm
  subst hw_2
  refine k_nrm (y := 0) rfl ?_
  refine lv_aload_n hx hb dX8_ifDrawn_6 rfl (lv_at hl 0 rfl) ?_
  refine va_get (D := D) (ci := 8) (v := .ref ms) (C := RX8) (T := TX8) (N := 12) hx hb ht inA_X8 hown hK hP 0 rfl rfl 0 (by decide) (ht _ lf_X8_7) (fun _ h9 => h9) rfl dX8_ifDrawn_7 ?_
  refine lv_iconst (v := 0) hx hb dX8_ifDrawn_10 (by decide) ?_
  refine va_iald hx hb hK hP 1 0 rfl rfl (by unfold vp_in; decide) dX8_ifDrawn_11 ?_
  refine k_nrm (y := (nI (s_nd x))) (show sf (0 : Int32).toNatClampNeg = (nI (s_nd x)) from q0) ?_
  refine lv_if_le (tgt := 19) hx hb dX8_ifDrawn_12 (by decide) (fun c_3 => ?_) (fun c_3 => ?_)
  · have hc9 := c_3
    refine lv_iconst (v := 0) hx hb dX8_ifDrawn_19 (by decide) ?_
    have ct := k_cut_of (wc := [(mo, .inr (8, [.ref ms, .int sv, .ref mb, .int ty, .int th, .ref mk, .int ml, .ref mfd, .int mf, .int sp, .int on, .int tw]))]) (wr := [(ms, .inl (K, 889, .inl sf))]) (tc := []) hG hS hA hK hP hD [0] [1] [] rfl rfl (by decide) (by decide) (by decide) rfl
    refine k_endi (As := [.ref mo, .int 0, .int 0]) ct (k_runV (As := [.int 0, .int 0]) (rest := []) S0 Lv_X8_58 rfl (ci := 8) (q0 := 0) rfl rfl ct (c_M_goes0 l D mo ms sv mb ty th mk ml mfd mf sp on tw 0 H.size) hl.1 rfl (Nat.le_of_ble_eq_true rfl) rfl dX8_ifDrawn_20 ⟨⟨Nat.le_of_ble_eq_true rfl, Nat.le_of_ble_eq_true rfl⟩, Nat.le_of_ble_eq_true rfl, Nat.le_of_ble_eq_true rfl⟩) rfl rfl (fun r_4 _ H locs hw_5 hP hD hK hS => ?_)
    have hK : va_K D vwCl [(K, .int)] s := hK
    have hP : va_P D vwCl [(ms, .inl (K, 889, .inl sf)), (mo, .inr (8, [.ref ms, .int sv, .ref mb, .int ty, .int 1, .ref mk, .int ml, .ref mfd, .int mf, .int sp, .int on, .int tw]))] H := hP
    have hD : va_D A [(ms, .inl (K, 889, .inl sf)), (mo, .inr (8, [.ref ms, .int sv, .ref mb, .int ty, .int 1, .ref mk, .int ml, .ref mfd, .int mf, .int sp, .int on, .int tw]))] := hD
    have hw_5 : r_4 = (0) := hw_5
    have hw_5 := hw_5.symm
    subst hw_5
    refine k_nrm (y := 0) rfl ?_
    refine lv_if_ne (tgt := 28) hx hb dX8_ifDrawn_23 (by decide) (fun c9 => absurd (by decide) c9) (fun _ => ?_)
    refine lv_iconst (v := 0) hx hb dX8_ifDrawn_26 (by decide) ?_
    have hP9 : va_P D vwCl [(mo, .inr (8, [.ref ms, .int sv, .ref mb, .int ty, .int 1, .ref mk, .int ml, .ref mfd, .int mf, .int sp, .int on, .int tw])), (ms, .inl (K, 889, .inl sf))] H := hP.sub [1, 0] rfl
    have hD9 : va_D A [(mo, .inr (8, [.ref ms, .int sv, .ref mb, .int ty, .int 1, .ref mk, .int ml, .ref mfd, .int mf, .int sp, .int on, .int tw])), (ms, .inl (K, 889, .inl sf))] := hD.sub [1, 0] (by decide) rfl
    have hK9 : va_K D vwCl [] s := hK.sub [] rfl
    exact W.iret (v := 0) hx hb hr (fun t ht9 hW9 => ⟨⟨0, (), rfl, by first | rfl | trivial | (simp only [c_3, if_true, if_false, reduceIte, and_self]; done) | simp_all, ⟨by rw [ht9]; exact hP9, va_K.moved hW9.alike hK9, hD9⟩⟩, hS.F ht9⟩) hS.2.2 dX8_ifDrawn_27
  · have hc9 := c_3
    refine lv_iconst (v := 1) hx hb dX8_ifDrawn_15 (by decide) ?_
    refine lv_goto (tgt := 20) hx hb dX8_ifDrawn_16 (by decide) ?_
    have ct := k_cut_of (wc := [(mo, .inr (8, [.ref ms, .int sv, .ref mb, .int ty, .int th, .ref mk, .int ml, .ref mfd, .int mf, .int sp, .int on, .int tw]))]) (wr := [(ms, .inl (K, 889, .inl sf))]) (tc := []) hG hS hA hK hP hD [0] [1] [] rfl rfl (by decide) (by decide) (by decide) rfl
    refine k_endi (As := [.ref mo, .int 0, .int 1]) ct (k_runV (As := [.int 0, .int 1]) (rest := []) S0 Lv_X8_58 rfl (ci := 8) (q0 := 0) rfl rfl ct (c_M_goes0 l D mo ms sv mb ty th mk ml mfd mf sp on tw 1 H.size) hl.1 rfl (Nat.le_of_ble_eq_true rfl) rfl dX8_ifDrawn_20 ⟨⟨Nat.le_of_ble_eq_true rfl, Nat.le_of_ble_eq_true rfl⟩, Nat.le_of_ble_eq_true rfl, Nat.le_of_ble_eq_true rfl⟩) rfl rfl (fun r_6 _ H locs hw_7 hP hD hK hS => ?_)
    have hK : va_K D vwCl [(K, .int)] s := hK
    have hP : va_P D vwCl [(ms, .inl (K, 889, .inl sf)), (mo, .inr (8, [.ref ms, .int sv, .ref mb, .int ty, .int 1, .ref mk, .int ml, .ref mfd, .int mf, .int sp, .int on, .int tw]))] H := hP
    have hD : va_D A [(ms, .inl (K, 889, .inl sf)), (mo, .inr (8, [.ref ms, .int sv, .ref mb, .int ty, .int 1, .ref mk, .int ml, .ref mfd, .int mf, .int sp, .int on, .int tw]))] := hD
    have hw_7 : r_6 = (0) := hw_7
    have hw_7 := hw_7.symm
    subst hw_7
    refine k_nrm (y := 0) rfl ?_
    refine lv_if_ne (tgt := 28) hx hb dX8_ifDrawn_23 (by decide) (fun c9 => absurd (by decide) c9) (fun _ => ?_)
    refine lv_iconst (v := 0) hx hb dX8_ifDrawn_26 (by decide) ?_
    have hP9 : va_P D vwCl [(mo, .inr (8, [.ref ms, .int sv, .ref mb, .int ty, .int 1, .ref mk, .int ml, .ref mfd, .int mf, .int sp, .int on, .int tw])), (ms, .inl (K, 889, .inl sf))] H := hP.sub [1, 0] rfl
    have hD9 : va_D A [(mo, .inr (8, [.ref ms, .int sv, .ref mb, .int ty, .int 1, .ref mk, .int ml, .ref mfd, .int mf, .int sp, .int on, .int tw])), (ms, .inl (K, 889, .inl sf))] := hD.sub [1, 0] (by decide) rfl
    have hK9 : va_K D vwCl [] s := hK.sub [] rfl
    exact W.iret (v := 0) hx hb hr (fun t ht9 hW9 => ⟨⟨0, (), rfl, by first | rfl | trivial | (simp only [c_3, if_true, if_false, reduceIte, and_self]; done) | simp_all, ⟨by rw [ht9]; exact hP9, va_K.moved hW9.alike hK9, hD9⟩⟩, hS.F ht9⟩) hS.2.2 dX8_ifDrawn_27
set_option maxHeartbeats 4000000 in
set_option maxRecDepth 100000 in
theorem c_M_ifDrawn (l : Launch) (D : va_G) (mo : Nat) (ms : Nat) (sv : Int32) (mb : Nat) (ty : Int32) (th : Int32) (mk : Nat) (ml : Int32) (mfd : Nat) (mf : Int32) (sp : Int32) (on : Int32) (tw : Int32) (K : ClassId) (sf : Nat → Int32) (lk : Nat → Int32) (fd : Nat → Int32) (x : ST) (lf : Int32) (rt : Int32) (b : Int32) (hR : RS x sf) (hbx : bST x) (hlx : labW x) (hp : k_per lf rt) (hne : ¬ s_ns x = 0) (sz : Nat) : k_Mi (S := Int32 × Int32 × (Nat → Int32) × (Nat → Int32)) l D yX8_ifDrawn cX8_ifDrawn 4 (some .int) 7 0 0 169 [.ref mo, .int lf, .int rt, .int b] [(mo, .inr (8, [.ref ms, .int sv, .ref mb, .int ty, .int th, .ref mk, .int ml, .ref mfd, .int mf, .int sp, .int on, .int tw])), (ms, .inl (K, 889, .inl sf)), (mk, .inl (K, 41, .inl lk)), (mfd, .inl (K, 9, .inl fd))] [(K, .int)] (fun (r : Int32) (u : Int32 × Int32 × (Nat → Int32) × (Nat → Int32)) => match u with | (ml1, mf1, lk1, fd1) => r = resF (s_ns x) (s_drw x lf rt b) (s_tol x)) (fun u => match u with | (ml1, mf1, lk1, fd1) => [(mo, .inr (8, [.ref ms, .int sv, .ref mb, .int ty, .int 0, .ref mk, .int ml1, .ref mfd, .int mf1, .int sp, .int on, .int tw])), (ms, .inl (K, 889, .inl sf)), (mk, .inl (K, 41, .inl lk1)), (mfd, .inl (K, 9, .inl fd1))]) (fun u => match u with | (ml1, mf1, lk1, fd1) => []) sz := by
  refine Met.ofW (cc := cX8_ifDrawn) (maxL := 4) (ret := (some .int)) (by decide) rfl ?_
  intro p e s m args below meth c s₁ B hml hv
  obtain ⟨rfl, hsz, hP, hK, hD0, hG⟩ := hv
  have hx := B.exec
  have hb := B.bytes
  have hr := B.returns
  have ht : ∀ v9 ∈ wsA, v9.before ([.ref mo, .int lf, .int rt, .int b] : List Value).toArray s = true := fun v9 h9 => atoms_spec (ws := k_ws yX8_ifDrawn cX8_ifDrawn 4 (some .int)) B.pre v9 (List.mem_cons_of_mem _ h9)
  have hown : s.vm.findClass RX8 = some m.cls := findClass_of_methodNamed B.named
  have S0 : k_C p s m ([.ref mo, .int lf, .int rt, .int b] : List Value).toArray c cX8_ifDrawn 4 RX8 := ⟨hx, hb, hml, hown, ht⟩
  have hlocks := B.notSynchronized
  subst hsz
  have hD := hD0.self (sz := s.heap.size)
  generalize hAe : va_A [(mo, .inr (8, [.ref ms, .int sv, .ref mb, .int ty, .int th, .ref mk, .int ml, .ref mfd, .int mf, .int sp, .int on, .int tw])), (ms, .inl (K, 889, .inl sf)), (mk, .inl (K, 41, .inl lk)), (mfd, .inl (K, 9, .inl fd))] s.heap.size = A at hD hG ⊢
  have hA : ∀ q : Nat, s.heap.size ≤ q → A q := fun q h => by rw [← hAe]; exact Or.inr h
  have hS : va_S A s.heap s.heap [] := va_S.rf
  have hl := lv_entry ([.ref mo, .int lf, .int rt, .int b]) (n := 4) (Nat.le_of_ble_eq_true rfl)
  rw [lg_entry_eq]
  generalize (lg_sl ([.ref mo, .int lf, .int rt, .int b]) ++ List.replicate (4 - (lg_sl ([.ref mo, .int lf, .int rt, .int b])).length) Slot.unset).toArray = ls at hl ⊢
  have hl : lv_has ls 4 [(0, .ref mo), (1, .int lf), (2, .int rt), (3, .int b)] := hl
  have hP : va_P D vwCl [(mo, .inr (8, [.ref ms, .int sv, .ref mb, .int ty, .int th, .ref mk, .int ml, .ref mfd, .int mf, .int sp, .int on, .int tw])), (ms, .inl (K, 889, .inl sf)), (mk, .inl (K, 41, .inl lk)), (mfd, .inl (K, 9, .inl fd))] s.heap := hP
  have hR9 := hR
  have hlx9 : labW x := hlx
  obtain ⟨q0, q1, q2, h51, q4, h93, ⟨h94, q7⟩, h125, h126⟩ := hR
  obtain ⟨b1, b2, b3, b4⟩ := bST_le hbx
  obtain ⟨hl1, hl2⟩ := hlx
  refine lv_aload_n hx hb dX8_ifDrawn_0 rfl (lv_at hl 0 rfl) ?_
  refine lv_iload_n hx hb dX8_ifDrawn_1 rfl (lv_at hl 1 rfl) ?_
  refine lv_iload_n hx hb dX8_ifDrawn_2 rfl (lv_at hl 2 rfl) ?_
  have ct := k_cut_of (wc := []) (wr := [(mo, .inr (8, [.ref ms, .int sv, .ref mb, .int ty, .int th, .ref mk, .int ml, .ref mfd, .int mf, .int sp, .int on, .int tw])), (ms, .inl (K, 889, .inl sf)), (mk, .inl (K, 41, .inl lk)), (mfd, .inl (K, 9, .inl fd))]) (tc := []) hG hS hA hK hP hD [] [0, 1, 2, 3] [] rfl rfl (by decide) (by decide) (by decide) rfl
  refine k_endi (As := [.int lf, .int rt]) ct (k_runS (As := [.int lf, .int rt]) (rest := [.ref mo]) S0 Ls_X8_135 ct (c_M_per1 l D lf rt (by assumption) s.heap.size) hl.1 rfl (Nat.le_of_ble_eq_true rfl) rfl dX8_ifDrawn_3 ⟨⟨Nat.le_of_ble_eq_true rfl, Nat.le_of_ble_eq_true rfl⟩, Nat.le_of_ble_eq_true rfl, Nat.le_of_ble_eq_true rfl⟩) rfl rfl (fun r_1 _ H locs hw_2 hP hD hK hS => ?_)
  have hK : va_K D vwCl [(K, .int)] s := hK
  have hP : va_P D vwCl [(mo, .inr (8, [.ref ms, .int sv, .ref mb, .int ty, .int th, .ref mk, .int ml, .ref mfd, .int mf, .int sp, .int on, .int tw])), (ms, .inl (K, 889, .inl sf)), (mk, .inl (K, 41, .inl lk)), (mfd, .inl (K, 9, .inl fd))] H := hP
  have hD : va_D A [(mo, .inr (8, [.ref ms, .int sv, .ref mb, .int ty, .int th, .ref mk, .int ml, .ref mfd, .int mf, .int sp, .int on, .int tw])), (ms, .inl (K, 889, .inl sf)), (mk, .inl (K, 41, .inl lk)), (mfd, .inl (K, 9, .inl fd))] := hD
  have hw_2 : r_1 = (1) := hw_2
  have hw_2 := hw_2.symm
  subst hw_2
  refine k_nrm (y := 1) rfl ?_
  refine lv_aload_n hx hb dX8_ifDrawn_6 rfl (lv_at hl 0 rfl) ?_
  refine va_get (D := D) (ci := 8) (v := .ref ms) (C := RX8) (T := TX8) (N := 12) hx hb ht inA_X8 hown hK hP 0 rfl rfl 0 (by decide) (ht _ lf_X8_7) (fun _ h9 => h9) rfl dX8_ifDrawn_7 ?_
  refine lv_iconst (v := 0) hx hb dX8_ifDrawn_10 (by decide) ?_
  refine va_iald hx hb hK hP 1 0 rfl rfl (by unfold vp_in; decide) dX8_ifDrawn_11 ?_
  refine k_nrm (y := (nI (s_nd x))) (show sf (0 : Int32).toNatClampNeg = (nI (s_nd x)) from q0) ?_
  refine lv_if_le (tgt := 19) hx hb dX8_ifDrawn_12 (by decide) (fun c9 => absurd c9 (nI_gt0 (nd_ns hl1 hne) (by omega))) (fun c_3 => ?_)
  refine lv_iconst (v := 1) hx hb dX8_ifDrawn_15 (by decide) ?_
  refine lv_goto (tgt := 20) hx hb dX8_ifDrawn_16 (by decide) ?_
  have ct := k_cut_of (wc := [(mo, .inr (8, [.ref ms, .int sv, .ref mb, .int ty, .int th, .ref mk, .int ml, .ref mfd, .int mf, .int sp, .int on, .int tw]))]) (wr := [(ms, .inl (K, 889, .inl sf)), (mk, .inl (K, 41, .inl lk)), (mfd, .inl (K, 9, .inl fd))]) (tc := []) hG hS hA hK hP hD [0] [1, 2, 3] [] rfl rfl (by decide) (by decide) (by decide) rfl
  refine k_endi (As := [.ref mo, .int 1, .int 1]) ct (k_runV (As := [.int 1, .int 1]) (rest := []) S0 Lv_X8_58 rfl (ci := 8) (q0 := 0) rfl rfl ct (c_M_goes11 l D mo ms sv mb ty th mk ml mfd mf sp on tw H.size) hl.1 rfl (Nat.le_of_ble_eq_true rfl) rfl dX8_ifDrawn_20 ⟨⟨Nat.le_of_ble_eq_true rfl, Nat.le_of_ble_eq_true rfl⟩, Nat.le_of_ble_eq_true rfl, Nat.le_of_ble_eq_true rfl⟩) rfl rfl (fun r_4 _ H locs hw_5 hP hD hK hS => ?_)
  have hK : va_K D vwCl [(K, .int)] s := hK
  have hP : va_P D vwCl [(ms, .inl (K, 889, .inl sf)), (mk, .inl (K, 41, .inl lk)), (mfd, .inl (K, 9, .inl fd)), (mo, .inr (8, [.ref ms, .int sv, .ref mb, .int ty, .int 0, .ref mk, .int ml, .ref mfd, .int mf, .int sp, .int on, .int tw]))] H := hP
  have hD : va_D A [(ms, .inl (K, 889, .inl sf)), (mk, .inl (K, 41, .inl lk)), (mfd, .inl (K, 9, .inl fd)), (mo, .inr (8, [.ref ms, .int sv, .ref mb, .int ty, .int 0, .ref mk, .int ml, .ref mfd, .int mf, .int sp, .int on, .int tw]))] := hD
  have hw_5 : r_4 = (1) := hw_5
  have hw_5 := hw_5.symm
  subst hw_5
  refine k_nrm (y := 1) rfl ?_
  refine lv_if_ne (tgt := 28) hx hb dX8_ifDrawn_23 (by decide) (fun _ => ?_) (fun c9 => absurd c9 (by decide))
  refine lv_aload_n hx hb dX8_ifDrawn_28 rfl (lv_at hl 0 rfl) ?_
  refine lv_iload_n hx hb dX8_ifDrawn_29 rfl (lv_at hl 1 rfl) ?_
  refine lv_iload_n hx hb dX8_ifDrawn_30 rfl (lv_at hl 2 rfl) ?_
  refine lv_iload_n hx hb dX8_ifDrawn_31 rfl (lv_at hl 3 rfl) ?_
  have ct := k_cut_of (wc := [(mo, .inr (8, [.ref ms, .int sv, .ref mb, .int ty, .int 0, .ref mk, .int ml, .ref mfd, .int mf, .int sp, .int on, .int tw])), (ms, .inl (K, 889, .inl sf)), (mk, .inl (K, 41, .inl lk))]) (wr := [(mfd, .inl (K, 9, .inl fd))]) (tc := [(K, .int)]) hG hS hA hK hP hD [3, 0, 1] [2] [0] rfl rfl (by decide) (by decide) (by decide) rfl
  refine k_endv (As := [.ref mo, .int lf, .int rt, .int b]) ct (k_runV (As := [.int lf, .int rt, .int b]) (rest := []) S0 Lv_X8_128 rfl (ci := 8) (q0 := 0) rfl rfl ct (c_M_looksL l D mo ms sv mb ty 0 mk ml mfd mf sp on tw K sf lk (s_nd x) (s_df x) (s_ns x) (s_zf x) lf rt b hl1 (by assumption) (by first | assumption | omega) (by assumption) (by assumption) (by assumption) H.size) hl.1 rfl (Nat.le_of_ble_eq_true rfl) rfl dX8_ifDrawn_32 ⟨⟨Nat.le_of_ble_eq_true rfl, Nat.le_of_ble_eq_true rfl⟩, Nat.le_of_ble_eq_true rfl, Nat.le_of_ble_eq_true rfl⟩) rfl rfl (fun _ lg_7 H locs hw_8 hP hD hK hS => ?_)
  have hK : va_K D vwCl [(K, .int)] s := hK
  have hP : va_P D vwCl [(mfd, .inl (K, 9, .inl fd)), (mo, .inr (8, [.ref ms, .int sv, .ref mb, .int ty, .int 0, .ref mk, .int (nI (s_ns x)), .ref mfd, .int mf, .int sp, .int on, .int tw])), (ms, .inl (K, 889, .inl sf)), (mk, .inl (K, 41, .inl lg_7))] H := hP
  have hD : va_D A [(mfd, .inl (K, 9, .inl fd)), (mo, .inr (8, [.ref ms, .int sv, .ref mb, .int ty, .int 0, .ref mk, .int (nI (s_ns x)), .ref mfd, .int mf, .int sp, .int on, .int tw])), (ms, .inl (K, 889, .inl sf)), (mk, .inl (K, 41, .inl lg_7))] := hD
  have hw_8 : ∀ j, j < (s_ns x) → lg_7 j = drwF (s_nd x) (s_df x) (s_ns x) (s_zf x) lf rt b j := hw_8
  have hlg := hw_8
  refine lv_aload_n hx hb dX8_ifDrawn_35 rfl (lv_at hl 0 rfl) ?_
  refine lv_aload_n hx hb dX8_ifDrawn_36 rfl (lv_at hl 0 rfl) ?_
  refine va_get (D := D) (ci := 8) (v := .ref ms) (C := RX8) (T := TX8) (N := 12) hx hb ht inA_X8 hown hK hP 1 rfl rfl 0 (by decide) (ht _ lf_X8_7) (fun _ h9 => h9) rfl dX8_ifDrawn_37 ?_
  refine lv_bipush (v := 93) hx hb dX8_ifDrawn_40 (by decide) ?_
  refine va_iald hx hb hK hP 2 0 rfl rfl (by unfold vp_in; decide) dX8_ifDrawn_42 ?_
  refine k_nrm (y := (s_tol x)) (show sf (93 : Int32).toNatClampNeg = (s_tol x) from h93) ?_
  have ct := k_cut_of (wc := [(mo, .inr (8, [.ref ms, .int sv, .ref mb, .int ty, .int 0, .ref mk, .int (nI (s_ns x)), .ref mfd, .int mf, .int sp, .int on, .int tw])), (mk, .inl (K, 41, .inl lg_7)), (mfd, .inl (K, 9, .inl fd))]) (wr := [(ms, .inl (K, 889, .inl sf))]) (tc := [(K, .int)]) hG hS hA hK hP hD [1, 3, 0] [2] [0] rfl rfl (by decide) (by decide) (by decide) rfl
  refine k_endi (As := [.ref mo, .int (s_tol x)]) ct (k_runV (As := [.int (s_tol x)]) (rest := []) S0 Lv_X8_122 rfl (ci := 8) (q0 := 0) rfl rfl ct (c_M_reads l D mo ms sv mb ty 0 mk (s_ns x) mfd mf sp on tw K lg_7 fd (s_tol x) (by first | assumption | omega) H.size) hl.1 rfl (Nat.le_of_ble_eq_true rfl) rfl dX8_ifDrawn_43 ⟨⟨Nat.le_of_ble_eq_true rfl, Nat.le_of_ble_eq_true rfl⟩, Nat.le_of_ble_eq_true rfl, Nat.le_of_ble_eq_true rfl⟩) rfl rfl (fun r_9 u H locs hw_12 hP hD hK hS => ?_)
  obtain ⟨mf1v_10, fd1v_11⟩ := u
  have hK : va_K D vwCl [(K, .int)] s := hK
  have hP : va_P D vwCl [(ms, .inl (K, 889, .inl sf)), (mo, .inr (8, [.ref ms, .int sv, .ref mb, .int ty, .int 0, .ref mk, .int (nI (s_ns x)), .ref mfd, .int mf1v_10, .int sp, .int on, .int tw])), (mk, .inl (K, 41, .inl lg_7)), (mfd, .inl (K, 9, .inl fd1v_11))] H := hP
  have hD : va_D A [(ms, .inl (K, 889, .inl sf)), (mo, .inr (8, [.ref ms, .int sv, .ref mb, .int ty, .int 0, .ref mk, .int (nI (s_ns x)), .ref mfd, .int mf1v_10, .int sp, .int on, .int tw])), (mk, .inl (K, 41, .inl lg_7)), (mfd, .inl (K, 9, .inl fd1v_11))] := hD
  have hw_12 : r_9 = resF (s_ns x) lg_7 (s_tol x) ∧ RFD (s_ns x) lg_7 r_9 mf1v_10 fd1v_11 := hw_12
  have hP9 : va_P D vwCl [(mo, .inr (8, [.ref ms, .int sv, .ref mb, .int ty, .int 0, .ref mk, .int (nI (s_ns x)), .ref mfd, .int mf1v_10, .int sp, .int on, .int tw])), (ms, .inl (K, 889, .inl sf)), (mk, .inl (K, 41, .inl lg_7)), (mfd, .inl (K, 9, .inl fd1v_11))] H := hP.sub [1, 0, 2, 3] rfl
  have hD9 : va_D A [(mo, .inr (8, [.ref ms, .int sv, .ref mb, .int ty, .int 0, .ref mk, .int (nI (s_ns x)), .ref mfd, .int mf1v_10, .int sp, .int on, .int tw])), (ms, .inl (K, 889, .inl sf)), (mk, .inl (K, 41, .inl lg_7)), (mfd, .inl (K, 9, .inl fd1v_11))] := hD.sub [1, 0, 2, 3] (by decide) rfl
  have hK9 : va_K D vwCl [] s := hK.sub [] rfl
  exact W.iret (v := r_9) hx hb hr (fun t ht9 hW9 => ⟨⟨r_9, ((nI (s_ns x)), mf1v_10, lg_7, fd1v_11), rfl, by (exact hw_12.1.trans (resF_congr hlg b2 _)), ⟨by rw [ht9]; exact hP9, va_K.moved hW9.alike hK9, hD9⟩⟩, hS.F ht9⟩) hS.2.2 dX8_ifDrawn_46
set_option maxHeartbeats 4000000 in
set_option maxRecDepth 100000 in
theorem c_M_result (l : Launch) (D : va_G) (mo : Nat) (ms : Nat) (sv : Int32) (mb : Nat) (ty : Int32) (th : Int32) (mk : Nat) (ml : Int32) (mfd : Nat) (mf : Int32) (sp : Int32) (on : Int32) (tw : Int32) (K : ClassId) (sf : Nat → Int32) (lk : Nat → Int32) (fd : Nat → Int32) (x : ST) (hR : RS x sf) (hbx : bST x) (sz : Nat) : k_Mi (S := Int32 × Int32 × (Nat → Int32) × (Nat → Int32)) l D yX8_result cX8_result 1 (some .int) 7 0 0 169 [.ref mo] [(mo, .inr (8, [.ref ms, .int sv, .ref mb, .int ty, .int th, .ref mk, .int ml, .ref mfd, .int mf, .int sp, .int on, .int tw])), (ms, .inl (K, 889, .inl sf)), (mk, .inl (K, 41, .inl lk)), (mfd, .inl (K, 9, .inl fd))] [(K, .int)] (fun (r : Int32) (u : Int32 × Int32 × (Nat → Int32) × (Nat → Int32)) => match u with | (ml1, mf1, lk1, fd1) => r = resF (s_tn x) (s_tf x) (s_tol x)) (fun u => match u with | (ml1, mf1, lk1, fd1) => [(mo, .inr (8, [.ref ms, .int sv, .ref mb, .int ty, .int 0, .ref mk, .int ml1, .ref mfd, .int mf1, .int sp, .int on, .int tw])), (ms, .inl (K, 889, .inl sf)), (mk, .inl (K, 41, .inl lk1)), (mfd, .inl (K, 9, .inl fd1))]) (fun u => match u with | (ml1, mf1, lk1, fd1) => []) sz := by
  refine Met.ofW (cc := cX8_result) (maxL := 1) (ret := (some .int)) (by decide) rfl ?_
  intro p e s m args below meth c s₁ B hml hv
  obtain ⟨rfl, hsz, hP, hK, hD0, hG⟩ := hv
  have hx := B.exec
  have hb := B.bytes
  have hr := B.returns
  have ht : ∀ v9 ∈ wsA, v9.before ([.ref mo] : List Value).toArray s = true := fun v9 h9 => atoms_spec (ws := k_ws yX8_result cX8_result 1 (some .int)) B.pre v9 (List.mem_cons_of_mem _ h9)
  have hown : s.vm.findClass RX8 = some m.cls := findClass_of_methodNamed B.named
  have S0 : k_C p s m ([.ref mo] : List Value).toArray c cX8_result 1 RX8 := ⟨hx, hb, hml, hown, ht⟩
  have hlocks := B.notSynchronized
  subst hsz
  have hD := hD0.self (sz := s.heap.size)
  generalize hAe : va_A [(mo, .inr (8, [.ref ms, .int sv, .ref mb, .int ty, .int th, .ref mk, .int ml, .ref mfd, .int mf, .int sp, .int on, .int tw])), (ms, .inl (K, 889, .inl sf)), (mk, .inl (K, 41, .inl lk)), (mfd, .inl (K, 9, .inl fd))] s.heap.size = A at hD hG ⊢
  have hA : ∀ q : Nat, s.heap.size ≤ q → A q := fun q h => by rw [← hAe]; exact Or.inr h
  have hS : va_S A s.heap s.heap [] := va_S.rf
  have hl := lv_entry ([.ref mo]) (n := 1) (Nat.le_of_ble_eq_true rfl)
  rw [lg_entry_eq]
  generalize (lg_sl ([.ref mo]) ++ List.replicate (1 - (lg_sl ([.ref mo])).length) Slot.unset).toArray = ls at hl ⊢
  have hl : lv_has ls 1 [(0, .ref mo)] := hl
  have hP : va_P D vwCl [(mo, .inr (8, [.ref ms, .int sv, .ref mb, .int ty, .int th, .ref mk, .int ml, .ref mfd, .int mf, .int sp, .int on, .int tw])), (ms, .inl (K, 889, .inl sf)), (mk, .inl (K, 41, .inl lk)), (mfd, .inl (K, 9, .inl fd))] s.heap := hP
  have hR9 := hR
  have hlx9 : True := trivial
  obtain ⟨q0, q1, q2, h51, q4, h93, ⟨h94, q7⟩, h125, h126⟩ := hR
  obtain ⟨b1, b2, b3, b4⟩ := bST_le hbx
  have hcf : ∀ j9, j9 < s_tn x → (cpy (fun j9 => sf (52 + j9)) lk (s_tn x)) j9 = s_tf x j9 := fun j9 h9 => (cpy_lt h9).trans (q4 j9 h9)
  refine lv_aload_n hx hb dX8_result_0 rfl (lv_at hl 0 rfl) ?_
  refine lv_iconst (v := 0) hx hb dX8_result_1 (by decide) ?_
  refine va_put (D := D) (ci := 8) (v := .int 0) (ty := .int) (C := RX8) (T := TX8) (N := 12) hx hb ht inA_X8 tyX8 tyX8_ok nmX8 hown hK hP hD hS 0 rfl rfl 4 (by decide) (ht _ lf_X8_23) (fun _ h9 => h9) rfl (tyX8_ok 4 (by decide)) rfl rfl (Nat.le_of_ble_eq_true rfl) dX8_result_2 (fun H locs hP hD hS => ?_)
  have hP : va_P D vwCl [(mo, .inr (8, [.ref ms, .int sv, .ref mb, .int ty, .int 0, .ref mk, .int ml, .ref mfd, .int mf, .int sp, .int on, .int tw])), (ms, .inl (K, 889, .inl sf)), (mk, .inl (K, 41, .inl lk)), (mfd, .inl (K, 9, .inl fd))] H := hP
  have hD : va_D A [(mo, .inr (8, [.ref ms, .int sv, .ref mb, .int ty, .int 0, .ref mk, .int ml, .ref mfd, .int mf, .int sp, .int on, .int tw])), (ms, .inl (K, 889, .inl sf)), (mk, .inl (K, 41, .inl lk)), (mfd, .inl (K, 9, .inl fd))] := hD
  refine lv_aload_n hx hb dX8_result_5 rfl (lv_at hl 0 rfl) ?_
  have ct := k_cut_of (wc := [(mo, .inr (8, [.ref ms, .int sv, .ref mb, .int ty, .int 0, .ref mk, .int ml, .ref mfd, .int mf, .int sp, .int on, .int tw])), (ms, .inl (K, 889, .inl sf)), (mk, .inl (K, 41, .inl lk))]) (wr := [(mfd, .inl (K, 9, .inl fd))]) (tc := [(K, .int)]) hG hS hA hK hP hD [0, 1, 2] [3] [0] rfl rfl (by decide) (by decide) (by decide) rfl
  refine k_endv (As := [.ref mo]) ct (k_runV (As := []) (rest := []) S0 Lv_X8_119 rfl (ci := 8) (q0 := 0) rfl rfl ct (c_M_looksM l D mo ms sv mb ty 0 mk ml mfd mf sp on tw K sf lk (s_tn x) (by assumption) (by first | assumption | omega) H.size) hl.1 rfl (Nat.le_of_ble_eq_true rfl) rfl dX8_result_6 ⟨⟨Nat.le_of_ble_eq_true rfl, Nat.le_of_ble_eq_true rfl⟩, Nat.le_of_ble_eq_true rfl, Nat.le_of_ble_eq_true rfl⟩) rfl rfl (fun _ _ H locs hw_2 hP hD hK hS => ?_)
  have hK : va_K D vwCl [(K, .int)] s := hK
  have hP : va_P D vwCl [(mfd, .inl (K, 9, .inl fd)), (mo, .inr (8, [.ref ms, .int sv, .ref mb, .int ty, .int 0, .ref mk, .int (nI (s_tn x)), .ref mfd, .int mf, .int sp, .int on, .int tw])), (ms, .inl (K, 889, .inl sf)), (mk, .inl (K, 41, .inl (cpy (fun j9 => sf (52 + j9)) lk (s_tn x))))] H := hP
  have hD : va_D A [(mfd, .inl (K, 9, .inl fd)), (mo, .inr (8, [.ref ms, .int sv, .ref mb, .int ty, .int 0, .ref mk, .int (nI (s_tn x)), .ref mfd, .int mf, .int sp, .int on, .int tw])), (ms, .inl (K, 889, .inl sf)), (mk, .inl (K, 41, .inl (cpy (fun j9 => sf (52 + j9)) lk (s_tn x))))] := hD
  refine lv_aload_n hx hb dX8_result_9 rfl (lv_at hl 0 rfl) ?_
  refine lv_aload_n hx hb dX8_result_10 rfl (lv_at hl 0 rfl) ?_
  refine va_get (D := D) (ci := 8) (v := .ref ms) (C := RX8) (T := TX8) (N := 12) hx hb ht inA_X8 hown hK hP 1 rfl rfl 0 (by decide) (ht _ lf_X8_7) (fun _ h9 => h9) rfl dX8_result_11 ?_
  refine lv_bipush (v := 93) hx hb dX8_result_14 (by decide) ?_
  refine va_iald hx hb hK hP 2 0 rfl rfl (by unfold vp_in; decide) dX8_result_16 ?_
  refine k_nrm (y := (s_tol x)) (show sf (93 : Int32).toNatClampNeg = (s_tol x) from h93) ?_
  have ct := k_cut_of (wc := [(mo, .inr (8, [.ref ms, .int sv, .ref mb, .int ty, .int 0, .ref mk, .int (nI (s_tn x)), .ref mfd, .int mf, .int sp, .int on, .int tw])), (mk, .inl (K, 41, .inl (cpy (fun j9 => sf (52 + j9)) lk (s_tn x)))), (mfd, .inl (K, 9, .inl fd))]) (wr := [(ms, .inl (K, 889, .inl sf))]) (tc := [(K, .int)]) hG hS hA hK hP hD [1, 3, 0] [2] [0] rfl rfl (by decide) (by decide) (by decide) rfl
  refine k_endi (As := [.ref mo, .int (s_tol x)]) ct (k_runV (As := [.int (s_tol x)]) (rest := []) S0 Lv_X8_122 rfl (ci := 8) (q0 := 0) rfl rfl ct (c_M_reads l D mo ms sv mb ty 0 mk (s_tn x) mfd mf sp on tw K (cpy (fun j9 => sf (52 + j9)) lk (s_tn x)) fd (s_tol x) (by first | assumption | omega) H.size) hl.1 rfl (Nat.le_of_ble_eq_true rfl) rfl dX8_result_17 ⟨⟨Nat.le_of_ble_eq_true rfl, Nat.le_of_ble_eq_true rfl⟩, Nat.le_of_ble_eq_true rfl, Nat.le_of_ble_eq_true rfl⟩) rfl rfl (fun r_3 u H locs hw_6 hP hD hK hS => ?_)
  obtain ⟨mf1v_4, fd1v_5⟩ := u
  have hK : va_K D vwCl [(K, .int)] s := hK
  have hP : va_P D vwCl [(ms, .inl (K, 889, .inl sf)), (mo, .inr (8, [.ref ms, .int sv, .ref mb, .int ty, .int 0, .ref mk, .int (nI (s_tn x)), .ref mfd, .int mf1v_4, .int sp, .int on, .int tw])), (mk, .inl (K, 41, .inl (cpy (fun j9 => sf (52 + j9)) lk (s_tn x)))), (mfd, .inl (K, 9, .inl fd1v_5))] H := hP
  have hD : va_D A [(ms, .inl (K, 889, .inl sf)), (mo, .inr (8, [.ref ms, .int sv, .ref mb, .int ty, .int 0, .ref mk, .int (nI (s_tn x)), .ref mfd, .int mf1v_4, .int sp, .int on, .int tw])), (mk, .inl (K, 41, .inl (cpy (fun j9 => sf (52 + j9)) lk (s_tn x)))), (mfd, .inl (K, 9, .inl fd1v_5))] := hD
  have hw_6 : r_3 = resF (s_tn x) (cpy (fun j9 => sf (52 + j9)) lk (s_tn x)) (s_tol x) ∧ RFD (s_tn x) (cpy (fun j9 => sf (52 + j9)) lk (s_tn x)) r_3 mf1v_4 fd1v_5 := hw_6
  have hP9 : va_P D vwCl [(mo, .inr (8, [.ref ms, .int sv, .ref mb, .int ty, .int 0, .ref mk, .int (nI (s_tn x)), .ref mfd, .int mf1v_4, .int sp, .int on, .int tw])), (ms, .inl (K, 889, .inl sf)), (mk, .inl (K, 41, .inl (cpy (fun j9 => sf (52 + j9)) lk (s_tn x)))), (mfd, .inl (K, 9, .inl fd1v_5))] H := hP.sub [1, 0, 2, 3] rfl
  have hD9 : va_D A [(mo, .inr (8, [.ref ms, .int sv, .ref mb, .int ty, .int 0, .ref mk, .int (nI (s_tn x)), .ref mfd, .int mf1v_4, .int sp, .int on, .int tw])), (ms, .inl (K, 889, .inl sf)), (mk, .inl (K, 41, .inl (cpy (fun j9 => sf (52 + j9)) lk (s_tn x)))), (mfd, .inl (K, 9, .inl fd1v_5))] := hD.sub [1, 0, 2, 3] (by decide) rfl
  have hK9 : va_K D vwCl [] s := hK.sub [] rfl
  exact W.iret (v := r_3) hx hb hr (fun t ht9 hW9 => ⟨⟨r_3, ((nI (s_tn x)), mf1v_4, (cpy (fun j9 => sf (52 + j9)) lk (s_tn x)), fd1v_5), rfl, by (exact hw_6.1.trans (resF_congr hcf b3 _)), ⟨by rw [ht9]; exact hP9, va_K.moved hW9.alike hK9, hD9⟩⟩, hS.F ht9⟩) hS.2.2 dX8_result_20
set_option maxHeartbeats 4000000 in
set_option maxRecDepth 100000 in
theorem c_M_reason (l : Launch) (D : va_G) (mo : Nat) (ms : Nat) (sv : Int32) (mb : Nat) (ty : Int32) (th : Int32) (mk : Nat) (ml : Int32) (mfd : Nat) (mf : Int32) (sp : Int32) (on : Int32) (tw : Int32) (K : ClassId) (sf : Nat → Int32) (lk : Nat → Int32) (fd : Nat → Int32) (x : ST) (b : Int32) (hR : RS x sf) (hbx : bST x) (sz : Nat) : k_Mi (S := Int32 × Int32 × (Nat → Int32) × (Nat → Int32)) l D yX8_reason cX8_reason 2 (some .int) 6 0 0 146 [.ref mo, .int b] [(mo, .inr (8, [.ref ms, .int sv, .ref mb, .int ty, .int th, .ref mk, .int ml, .ref mfd, .int mf, .int sp, .int on, .int tw])), (ms, .inl (K, 889, .inl sf)), (mk, .inl (K, 41, .inl lk)), (mfd, .inl (K, 9, .inl fd))] [(K, .int)] (fun (r : Int32) (u : Int32 × Int32 × (Nat → Int32) × (Nat → Int32)) => match u with | (ml1, mf1, lk1, fd1) => r = failF (s_tn x) (lnF (s_tn x) (s_tf x) b) (s_tol x)) (fun u => match u with | (ml1, mf1, lk1, fd1) => [(mo, .inr (8, [.ref ms, .int sv, .ref mb, .int ty, .int 0, .ref mk, .int ml1, .ref mfd, .int mf1, .int sp, .int on, .int tw])), (ms, .inl (K, 889, .inl sf)), (mk, .inl (K, 41, .inl lk1)), (mfd, .inl (K, 9, .inl fd1))]) (fun u => match u with | (ml1, mf1, lk1, fd1) => []) sz := by
  refine Met.ofW (cc := cX8_reason) (maxL := 2) (ret := (some .int)) (by decide) rfl ?_
  intro p e s m args below meth c s₁ B hml hv
  obtain ⟨rfl, hsz, hP, hK, hD0, hG⟩ := hv
  have hx := B.exec
  have hb := B.bytes
  have hr := B.returns
  have ht : ∀ v9 ∈ wsA, v9.before ([.ref mo, .int b] : List Value).toArray s = true := fun v9 h9 => atoms_spec (ws := k_ws yX8_reason cX8_reason 2 (some .int)) B.pre v9 (List.mem_cons_of_mem _ h9)
  have hown : s.vm.findClass RX8 = some m.cls := findClass_of_methodNamed B.named
  have S0 : k_C p s m ([.ref mo, .int b] : List Value).toArray c cX8_reason 2 RX8 := ⟨hx, hb, hml, hown, ht⟩
  have hlocks := B.notSynchronized
  subst hsz
  have hD := hD0.self (sz := s.heap.size)
  generalize hAe : va_A [(mo, .inr (8, [.ref ms, .int sv, .ref mb, .int ty, .int th, .ref mk, .int ml, .ref mfd, .int mf, .int sp, .int on, .int tw])), (ms, .inl (K, 889, .inl sf)), (mk, .inl (K, 41, .inl lk)), (mfd, .inl (K, 9, .inl fd))] s.heap.size = A at hD hG ⊢
  have hA : ∀ q : Nat, s.heap.size ≤ q → A q := fun q h => by rw [← hAe]; exact Or.inr h
  have hS : va_S A s.heap s.heap [] := va_S.rf
  have hl := lv_entry ([.ref mo, .int b]) (n := 2) (Nat.le_of_ble_eq_true rfl)
  rw [lg_entry_eq]
  generalize (lg_sl ([.ref mo, .int b]) ++ List.replicate (2 - (lg_sl ([.ref mo, .int b])).length) Slot.unset).toArray = ls at hl ⊢
  have hl : lv_has ls 2 [(0, .ref mo), (1, .int b)] := hl
  have hP : va_P D vwCl [(mo, .inr (8, [.ref ms, .int sv, .ref mb, .int ty, .int th, .ref mk, .int ml, .ref mfd, .int mf, .int sp, .int on, .int tw])), (ms, .inl (K, 889, .inl sf)), (mk, .inl (K, 41, .inl lk)), (mfd, .inl (K, 9, .inl fd))] s.heap := hP
  have hR9 := hR
  have hlx9 : True := trivial
  obtain ⟨q0, q1, q2, h51, q4, h93, ⟨h94, q7⟩, h125, h126⟩ := hR
  obtain ⟨b1, b2, b3, b4⟩ := bST_le hbx
  have hcf : ∀ j9, j9 < s_tn x → (cpy (fun j9 => sf (52 + j9)) lk (s_tn x)) j9 = s_tf x j9 := fun j9 h9 => (cpy_lt h9).trans (q4 j9 h9)
  refine lv_aload_n hx hb dX8_reason_0 rfl (lv_at hl 0 rfl) ?_
  refine lv_iconst (v := 0) hx hb dX8_reason_1 (by decide) ?_
  refine va_put (D := D) (ci := 8) (v := .int 0) (ty := .int) (C := RX8) (T := TX8) (N := 12) hx hb ht inA_X8 tyX8 tyX8_ok nmX8 hown hK hP hD hS 0 rfl rfl 4 (by decide) (ht _ lf_X8_23) (fun _ h9 => h9) rfl (tyX8_ok 4 (by decide)) rfl rfl (Nat.le_of_ble_eq_true rfl) dX8_reason_2 (fun H locs hP hD hS => ?_)
  have hP : va_P D vwCl [(mo, .inr (8, [.ref ms, .int sv, .ref mb, .int ty, .int 0, .ref mk, .int ml, .ref mfd, .int mf, .int sp, .int on, .int tw])), (ms, .inl (K, 889, .inl sf)), (mk, .inl (K, 41, .inl lk)), (mfd, .inl (K, 9, .inl fd))] H := hP
  have hD : va_D A [(mo, .inr (8, [.ref ms, .int sv, .ref mb, .int ty, .int 0, .ref mk, .int ml, .ref mfd, .int mf, .int sp, .int on, .int tw])), (ms, .inl (K, 889, .inl sf)), (mk, .inl (K, 41, .inl lk)), (mfd, .inl (K, 9, .inl fd))] := hD
  refine lv_aload_n hx hb dX8_reason_5 rfl (lv_at hl 0 rfl) ?_
  have ct := k_cut_of (wc := [(mo, .inr (8, [.ref ms, .int sv, .ref mb, .int ty, .int 0, .ref mk, .int ml, .ref mfd, .int mf, .int sp, .int on, .int tw])), (ms, .inl (K, 889, .inl sf)), (mk, .inl (K, 41, .inl lk))]) (wr := [(mfd, .inl (K, 9, .inl fd))]) (tc := [(K, .int)]) hG hS hA hK hP hD [0, 1, 2] [3] [0] rfl rfl (by decide) (by decide) (by decide) rfl
  refine k_endv (As := [.ref mo]) ct (k_runV (As := []) (rest := []) S0 Lv_X8_119 rfl (ci := 8) (q0 := 0) rfl rfl ct (c_M_looksM l D mo ms sv mb ty 0 mk ml mfd mf sp on tw K sf lk (s_tn x) (by assumption) (by first | assumption | omega) H.size) hl.1 rfl (Nat.le_of_ble_eq_true rfl) rfl dX8_reason_6 ⟨⟨Nat.le_of_ble_eq_true rfl, Nat.le_of_ble_eq_true rfl⟩, Nat.le_of_ble_eq_true rfl, Nat.le_of_ble_eq_true rfl⟩) rfl rfl (fun _ _ H locs hw_2 hP hD hK hS => ?_)
  have hK : va_K D vwCl [(K, .int)] s := hK
  have hP : va_P D vwCl [(mfd, .inl (K, 9, .inl fd)), (mo, .inr (8, [.ref ms, .int sv, .ref mb, .int ty, .int 0, .ref mk, .int (nI (s_tn x)), .ref mfd, .int mf, .int sp, .int on, .int tw])), (ms, .inl (K, 889, .inl sf)), (mk, .inl (K, 41, .inl (cpy (fun j9 => sf (52 + j9)) lk (s_tn x))))] H := hP
  have hD : va_D A [(mfd, .inl (K, 9, .inl fd)), (mo, .inr (8, [.ref ms, .int sv, .ref mb, .int ty, .int 0, .ref mk, .int (nI (s_tn x)), .ref mfd, .int mf, .int sp, .int on, .int tw])), (ms, .inl (K, 889, .inl sf)), (mk, .inl (K, 41, .inl (cpy (fun j9 => sf (52 + j9)) lk (s_tn x))))] := hD
  refine lv_aload_n hx hb dX8_reason_9 rfl (lv_at hl 0 rfl) ?_
  refine lv_iload_n hx hb dX8_reason_10 rfl (lv_at hl 1 rfl) ?_
  refine lv_aload_n hx hb dX8_reason_11 rfl (lv_at hl 0 rfl) ?_
  refine va_get (D := D) (ci := 8) (v := .ref ms) (C := RX8) (T := TX8) (N := 12) hx hb ht inA_X8 hown hK hP 1 rfl rfl 0 (by decide) (ht _ lf_X8_7) (fun _ h9 => h9) rfl dX8_reason_12 ?_
  refine lv_bipush (v := 93) hx hb dX8_reason_15 (by decide) ?_
  refine va_iald hx hb hK hP 2 0 rfl rfl (by unfold vp_in; decide) dX8_reason_17 ?_
  refine k_nrm (y := (s_tol x)) (show sf (93 : Int32).toNatClampNeg = (s_tol x) from h93) ?_
  have ct := k_cut_of (wc := [(mo, .inr (8, [.ref ms, .int sv, .ref mb, .int ty, .int 0, .ref mk, .int (nI (s_tn x)), .ref mfd, .int mf, .int sp, .int on, .int tw])), (mk, .inl (K, 41, .inl (cpy (fun j9 => sf (52 + j9)) lk (s_tn x)))), (mfd, .inl (K, 9, .inl fd))]) (wr := [(ms, .inl (K, 889, .inl sf))]) (tc := [(K, .int)]) hG hS hA hK hP hD [1, 3, 0] [2] [0] rfl rfl (by decide) (by decide) (by decide) rfl
  refine k_endi (As := [.ref mo, .int b, .int (s_tol x)]) ct (k_runV (As := [.int b, .int (s_tol x)]) (rest := []) S0 Lv_X8_112 rfl (ci := 8) (q0 := 0) rfl rfl ct (c_M_fails l D mo ms sv mb ty 0 mk (s_tn x) mfd mf sp on tw K (cpy (fun j9 => sf (52 + j9)) lk (s_tn x)) fd b (s_tol x) (by first | assumption | omega) H.size) hl.1 rfl (Nat.le_of_ble_eq_true rfl) rfl dX8_reason_18 ⟨⟨Nat.le_of_ble_eq_true rfl, Nat.le_of_ble_eq_true rfl⟩, Nat.le_of_ble_eq_true rfl, Nat.le_of_ble_eq_true rfl⟩) rfl rfl (fun r_3 u H locs hw_6 hP hD hK hS => ?_)
  obtain ⟨mf1v_4, fd1v_5⟩ := u
  have hK : va_K D vwCl [(K, .int)] s := hK
  have hP : va_P D vwCl [(ms, .inl (K, 889, .inl sf)), (mo, .inr (8, [.ref ms, .int sv, .ref mb, .int ty, .int 0, .ref mk, .int (nI (s_tn x)), .ref mfd, .int mf1v_4, .int sp, .int on, .int tw])), (mk, .inl (K, 41, .inl (cpy (fun j9 => sf (52 + j9)) lk (s_tn x)))), (mfd, .inl (K, 9, .inl fd1v_5))] H := hP
  have hD : va_D A [(ms, .inl (K, 889, .inl sf)), (mo, .inr (8, [.ref ms, .int sv, .ref mb, .int ty, .int 0, .ref mk, .int (nI (s_tn x)), .ref mfd, .int mf1v_4, .int sp, .int on, .int tw])), (mk, .inl (K, 41, .inl (cpy (fun j9 => sf (52 + j9)) lk (s_tn x)))), (mfd, .inl (K, 9, .inl fd1v_5))] := hD
  have hw_6 : r_3 = failF (s_tn x) (lnF (s_tn x) (cpy (fun j9 => sf (52 + j9)) lk (s_tn x)) b) (s_tol x) ∧ (r_3 = 0 → mf1v_4 = nI (dgc (s_tn x)) ∧ ¬ dgc (s_tn x) = 0 ∧ ∀ m9, m9 < dgc (s_tn x) → fd1v_5 m9 = nrD (s_tn x) (lnF (s_tn x) (cpy (fun j9 => sf (52 + j9)) lk (s_tn x)) b) m9) := hw_6
  have hP9 : va_P D vwCl [(mo, .inr (8, [.ref ms, .int sv, .ref mb, .int ty, .int 0, .ref mk, .int (nI (s_tn x)), .ref mfd, .int mf1v_4, .int sp, .int on, .int tw])), (ms, .inl (K, 889, .inl sf)), (mk, .inl (K, 41, .inl (cpy (fun j9 => sf (52 + j9)) lk (s_tn x)))), (mfd, .inl (K, 9, .inl fd1v_5))] H := hP.sub [1, 0, 2, 3] rfl
  have hD9 : va_D A [(mo, .inr (8, [.ref ms, .int sv, .ref mb, .int ty, .int 0, .ref mk, .int (nI (s_tn x)), .ref mfd, .int mf1v_4, .int sp, .int on, .int tw])), (ms, .inl (K, 889, .inl sf)), (mk, .inl (K, 41, .inl (cpy (fun j9 => sf (52 + j9)) lk (s_tn x)))), (mfd, .inl (K, 9, .inl fd1v_5))] := hD.sub [1, 0, 2, 3] (by decide) rfl
  have hK9 : va_K D vwCl [] s := hK.sub [] rfl
  exact W.iret (v := r_3) hx hb hr (fun t ht9 hW9 => ⟨⟨r_3, ((nI (s_tn x)), mf1v_4, (cpy (fun j9 => sf (52 + j9)) lk (s_tn x)), fd1v_5), rfl, by (exact hw_6.1.trans (by rw [lnF_congr hcf b3])), ⟨by rw [ht9]; exact hP9, va_K.moved hW9.alike hK9, hD9⟩⟩, hS.F ht9⟩) hS.2.2 dX8_reason_21
set_option maxHeartbeats 4000000 in
set_option maxRecDepth 100000 in
theorem c_M_digit (l : Launch) (D : va_G) (mo : Nat) (ms : Nat) (sv : Int32) (mb : Nat) (ty : Int32) (th : Int32) (mk : Nat) (ml : Int32) (mfd : Nat) (mf : Int32) (sp : Int32) (on : Int32) (tw : Int32) (K : ClassId) (sf : Nat → Int32) (lk : Nat → Int32) (fd : Nat → Int32) (x : ST) (x9 : Nat) (hR : RS x sf) (hbx : bST x) (hx9 : x9 < 9) (sz : Nat) : k_Mi (S := Int32 × Int32 × (Nat → Int32) × (Nat → Int32)) l D yX8_digit cX8_digit 3 (some .int) 7 0 0 169 [.ref mo, .int (nI x9)] [(mo, .inr (8, [.ref ms, .int sv, .ref mb, .int ty, .int th, .ref mk, .int ml, .ref mfd, .int mf, .int sp, .int on, .int tw])), (ms, .inl (K, 889, .inl sf)), (mk, .inl (K, 41, .inl lk)), (mfd, .inl (K, 9, .inl fd))] [(K, .int)] (fun (r : Int32) (u : Int32 × Int32 × (Nat → Int32) × (Nat → Int32)) => match u with | (ml1, mf1, lk1, fd1) => r = (digR (s_tn x) (s_tf x) (s_tol x) x9)) (fun u => match u with | (ml1, mf1, lk1, fd1) => [(mo, .inr (8, [.ref ms, .int sv, .ref mb, .int ty, .int 0, .ref mk, .int ml1, .ref mfd, .int mf1, .int sp, .int on, .int tw])), (ms, .inl (K, 889, .inl sf)), (mk, .inl (K, 41, .inl lk1)), (mfd, .inl (K, 9, .inl fd1))]) (fun u => match u with | (ml1, mf1, lk1, fd1) => []) sz := by
  refine Met.ofW (cc := cX8_digit) (maxL := 3) (ret := (some .int)) (by decide) rfl ?_
  intro p e s m args below meth c s₁ B hml hv
  obtain ⟨rfl, hsz, hP, hK, hD0, hG⟩ := hv
  have hx := B.exec
  have hb := B.bytes
  have hr := B.returns
  have ht : ∀ v9 ∈ wsA, v9.before ([.ref mo, .int (nI x9)] : List Value).toArray s = true := fun v9 h9 => atoms_spec (ws := k_ws yX8_digit cX8_digit 3 (some .int)) B.pre v9 (List.mem_cons_of_mem _ h9)
  have hown : s.vm.findClass RX8 = some m.cls := findClass_of_methodNamed B.named
  have S0 : k_C p s m ([.ref mo, .int (nI x9)] : List Value).toArray c cX8_digit 3 RX8 := ⟨hx, hb, hml, hown, ht⟩
  have hlocks := B.notSynchronized
  subst hsz
  have hD := hD0.self (sz := s.heap.size)
  generalize hAe : va_A [(mo, .inr (8, [.ref ms, .int sv, .ref mb, .int ty, .int th, .ref mk, .int ml, .ref mfd, .int mf, .int sp, .int on, .int tw])), (ms, .inl (K, 889, .inl sf)), (mk, .inl (K, 41, .inl lk)), (mfd, .inl (K, 9, .inl fd))] s.heap.size = A at hD hG ⊢
  have hA : ∀ q : Nat, s.heap.size ≤ q → A q := fun q h => by rw [← hAe]; exact Or.inr h
  have hS : va_S A s.heap s.heap [] := va_S.rf
  have hl := lv_entry ([.ref mo, .int (nI x9)]) (n := 3) (Nat.le_of_ble_eq_true rfl)
  rw [lg_entry_eq]
  generalize (lg_sl ([.ref mo, .int (nI x9)]) ++ List.replicate (3 - (lg_sl ([.ref mo, .int (nI x9)])).length) Slot.unset).toArray = ls at hl ⊢
  have hl : lv_has ls 3 [(0, .ref mo), (1, .int (nI x9))] := hl
  have hP : va_P D vwCl [(mo, .inr (8, [.ref ms, .int sv, .ref mb, .int ty, .int th, .ref mk, .int ml, .ref mfd, .int mf, .int sp, .int on, .int tw])), (ms, .inl (K, 889, .inl sf)), (mk, .inl (K, 41, .inl lk)), (mfd, .inl (K, 9, .inl fd))] s.heap := hP
  have hR9 := hR
  have hlx9 : True := trivial
  obtain ⟨q0, q1, q2, h51, q4, h93, ⟨h94, q7⟩, h125, h126⟩ := hR
  obtain ⟨b1, b2, b3, b4⟩ := bST_le hbx
  have hcf : ∀ j9, j9 < s_tn x → (cpy (fun j9 => sf (52 + j9)) lk (s_tn x)) j9 = s_tf x j9 := fun j9 h9 => (cpy_lt h9).trans (q4 j9 h9)
  refine lv_aload_n hx hb dX8_digit_0 rfl (lv_at hl 0 rfl) ?_
  refine lv_iload_n hx hb dX8_digit_1 rfl (lv_at hl 1 rfl) ?_
  refine lv_iconst (v := 0) hx hb dX8_digit_2 (by decide) ?_
  refine lv_bipush (v := 8) hx hb dX8_digit_3 (by decide) ?_
  have ct := k_cut_of (wc := []) (wr := [(mo, .inr (8, [.ref ms, .int sv, .ref mb, .int ty, .int th, .ref mk, .int ml, .ref mfd, .int mf, .int sp, .int on, .int tw])), (ms, .inl (K, 889, .inl sf)), (mk, .inl (K, 41, .inl lk)), (mfd, .inl (K, 9, .inl fd))]) (tc := []) hG hS hA hK hP hD [] [0, 1, 2, 3] [] rfl rfl (by decide) (by decide) (by decide) rfl
  refine k_endi (As := [.int (nI x9), .int 0, .int 8]) ct (k_runS (As := [.int (nI x9), .int 0, .int 8]) (rest := [.ref mo]) S0 Ls_X8_46 ct (c_M_in1 l D (nI x9) 0 8 (nI_pos (by omega)) (nI_nlt (a := 8) (b := x9) (by omega) (by omega)) s.heap.size) hl.1 rfl (Nat.le_of_ble_eq_true rfl) rfl dX8_digit_5 ⟨⟨Nat.le_of_ble_eq_true rfl, Nat.le_of_ble_eq_true rfl⟩, Nat.le_of_ble_eq_true rfl, Nat.le_of_ble_eq_true rfl⟩) rfl rfl (fun r_1 _ H locs hw_2 hP hD hK hS => ?_)
  have hK : va_K D vwCl [(K, .int)] s := hK
  have hP : va_P D vwCl [(mo, .inr (8, [.ref ms, .int sv, .ref mb, .int ty, .int th, .ref mk, .int ml, .ref mfd, .int mf, .int sp, .int on, .int tw])), (ms, .inl (K, 889, .inl sf)), (mk, .inl (K, 41, .inl lk)), (mfd, .inl (K, 9, .inl fd))] H := hP
  have hD : va_D A [(mo, .inr (8, [.ref ms, .int sv, .ref mb, .int ty, .int th, .ref mk, .int ml, .ref mfd, .int mf, .int sp, .int on, .int tw])), (ms, .inl (K, 889, .inl sf)), (mk, .inl (K, 41, .inl lk)), (mfd, .inl (K, 9, .inl fd))] := hD
  have hw_2 : r_1 = (1) := hw_2
  have hw_2 := hw_2.symm
  subst hw_2
  refine k_nrm (y := 1) rfl ?_
  refine lv_iconst (v := 1) hx hb dX8_digit_8 (by decide) ?_
  have ct := k_cut_of (wc := [(mo, .inr (8, [.ref ms, .int sv, .ref mb, .int ty, .int th, .ref mk, .int ml, .ref mfd, .int mf, .int sp, .int on, .int tw]))]) (wr := [(ms, .inl (K, 889, .inl sf)), (mk, .inl (K, 41, .inl lk)), (mfd, .inl (K, 9, .inl fd))]) (tc := []) hG hS hA hK hP hD [0] [1, 2, 3] [] rfl rfl (by decide) (by decide) (by decide) rfl
  refine k_endi (As := [.ref mo, .int 1, .int 1]) ct (k_runV (As := [.int 1, .int 1]) (rest := []) S0 Lv_X8_58 rfl (ci := 8) (q0 := 0) rfl rfl ct (c_M_goes11 l D mo ms sv mb ty th mk ml mfd mf sp on tw H.size) hl.1 rfl (Nat.le_of_ble_eq_true rfl) rfl dX8_digit_9 ⟨⟨Nat.le_of_ble_eq_true rfl, Nat.le_of_ble_eq_true rfl⟩, Nat.le_of_ble_eq_true rfl, Nat.le_of_ble_eq_true rfl⟩) rfl rfl (fun r_3 _ H locs hw_4 hP hD hK hS => ?_)
  have hK : va_K D vwCl [(K, .int)] s := hK
  have hP : va_P D vwCl [(ms, .inl (K, 889, .inl sf)), (mk, .inl (K, 41, .inl lk)), (mfd, .inl (K, 9, .inl fd)), (mo, .inr (8, [.ref ms, .int sv, .ref mb, .int ty, .int 0, .ref mk, .int ml, .ref mfd, .int mf, .int sp, .int on, .int tw]))] H := hP
  have hD : va_D A [(ms, .inl (K, 889, .inl sf)), (mk, .inl (K, 41, .inl lk)), (mfd, .inl (K, 9, .inl fd)), (mo, .inr (8, [.ref ms, .int sv, .ref mb, .int ty, .int 0, .ref mk, .int ml, .ref mfd, .int mf, .int sp, .int on, .int tw]))] := hD
  have hw_4 : r_3 = (1) := hw_4
  have hw_4 := hw_4.symm
  subst hw_4
  refine k_nrm (y := 1) rfl ?_
  refine lv_if_ne (tgt := 17) hx hb dX8_digit_12 (by decide) (fun _ => ?_) (fun c9 => absurd c9 (by decide))
  refine lv_aload_n hx hb dX8_digit_17 rfl (lv_at hl 0 rfl) ?_
  have ct := k_cut_of (wc := [(mo, .inr (8, [.ref ms, .int sv, .ref mb, .int ty, .int 0, .ref mk, .int ml, .ref mfd, .int mf, .int sp, .int on, .int tw])), (ms, .inl (K, 889, .inl sf)), (mk, .inl (K, 41, .inl lk))]) (wr := [(mfd, .inl (K, 9, .inl fd))]) (tc := [(K, .int)]) hG hS hA hK hP hD [3, 0, 1] [2] [0] rfl rfl (by decide) (by decide) (by decide) rfl
  refine k_endv (As := [.ref mo]) ct (k_runV (As := []) (rest := []) S0 Lv_X8_119 rfl (ci := 8) (q0 := 0) rfl rfl ct (c_M_looksM l D mo ms sv mb ty 0 mk ml mfd mf sp on tw K sf lk (s_tn x) (by assumption) (by first | assumption | omega) H.size) hl.1 rfl (Nat.le_of_ble_eq_true rfl) rfl dX8_digit_18 ⟨⟨Nat.le_of_ble_eq_true rfl, Nat.le_of_ble_eq_true rfl⟩, Nat.le_of_ble_eq_true rfl, Nat.le_of_ble_eq_true rfl⟩) rfl rfl (fun _ _ H locs hw_6 hP hD hK hS => ?_)
  have hK : va_K D vwCl [(K, .int)] s := hK
  have hP : va_P D vwCl [(mfd, .inl (K, 9, .inl fd)), (mo, .inr (8, [.ref ms, .int sv, .ref mb, .int ty, .int 0, .ref mk, .int (nI (s_tn x)), .ref mfd, .int mf, .int sp, .int on, .int tw])), (ms, .inl (K, 889, .inl sf)), (mk, .inl (K, 41, .inl (cpy (fun j9 => sf (52 + j9)) lk (s_tn x))))] H := hP
  have hD : va_D A [(mfd, .inl (K, 9, .inl fd)), (mo, .inr (8, [.ref ms, .int sv, .ref mb, .int ty, .int 0, .ref mk, .int (nI (s_tn x)), .ref mfd, .int mf, .int sp, .int on, .int tw])), (ms, .inl (K, 889, .inl sf)), (mk, .inl (K, 41, .inl (cpy (fun j9 => sf (52 + j9)) lk (s_tn x))))] := hD
  refine lv_aload_n hx hb dX8_digit_21 rfl (lv_at hl 0 rfl) ?_
  refine lv_aload_n hx hb dX8_digit_22 rfl (lv_at hl 0 rfl) ?_
  refine va_get (D := D) (ci := 8) (v := .ref ms) (C := RX8) (T := TX8) (N := 12) hx hb ht inA_X8 hown hK hP 1 rfl rfl 0 (by decide) (ht _ lf_X8_7) (fun _ h9 => h9) rfl dX8_digit_23 ?_
  refine lv_bipush (v := 93) hx hb dX8_digit_26 (by decide) ?_
  refine va_iald hx hb hK hP 2 0 rfl rfl (by unfold vp_in; decide) dX8_digit_28 ?_
  refine k_nrm (y := (s_tol x)) (show sf (93 : Int32).toNatClampNeg = (s_tol x) from h93) ?_
  have ct := k_cut_of (wc := [(mo, .inr (8, [.ref ms, .int sv, .ref mb, .int ty, .int 0, .ref mk, .int (nI (s_tn x)), .ref mfd, .int mf, .int sp, .int on, .int tw])), (mk, .inl (K, 41, .inl (cpy (fun j9 => sf (52 + j9)) lk (s_tn x)))), (mfd, .inl (K, 9, .inl fd))]) (wr := [(ms, .inl (K, 889, .inl sf))]) (tc := [(K, .int)]) hG hS hA hK hP hD [1, 3, 0] [2] [0] rfl rfl (by decide) (by decide) (by decide) rfl
  refine k_endi (As := [.ref mo, .int (s_tol x)]) ct (k_runV (As := [.int (s_tol x)]) (rest := []) S0 Lv_X8_122 rfl (ci := 8) (q0 := 0) rfl rfl ct (c_M_reads l D mo ms sv mb ty 0 mk (s_tn x) mfd mf sp on tw K (cpy (fun j9 => sf (52 + j9)) lk (s_tn x)) fd (s_tol x) (by first | assumption | omega) H.size) hl.1 rfl (Nat.le_of_ble_eq_true rfl) rfl dX8_digit_29 ⟨⟨Nat.le_of_ble_eq_true rfl, Nat.le_of_ble_eq_true rfl⟩, Nat.le_of_ble_eq_true rfl, Nat.le_of_ble_eq_true rfl⟩) rfl rfl (fun r_7 u H locs hw_10 hP hD hK hS => ?_)
  obtain ⟨mf1v_8, fd1v_9⟩ := u
  have hK : va_K D vwCl [(K, .int)] s := hK
  have hP : va_P D vwCl [(ms, .inl (K, 889, .inl sf)), (mo, .inr (8, [.ref ms, .int sv, .ref mb, .int ty, .int 0, .ref mk, .int (nI (s_tn x)), .ref mfd, .int mf1v_8, .int sp, .int on, .int tw])), (mk, .inl (K, 41, .inl (cpy (fun j9 => sf (52 + j9)) lk (s_tn x)))), (mfd, .inl (K, 9, .inl fd1v_9))] H := hP
  have hD : va_D A [(ms, .inl (K, 889, .inl sf)), (mo, .inr (8, [.ref ms, .int sv, .ref mb, .int ty, .int 0, .ref mk, .int (nI (s_tn x)), .ref mfd, .int mf1v_8, .int sp, .int on, .int tw])), (mk, .inl (K, 41, .inl (cpy (fun j9 => sf (52 + j9)) lk (s_tn x)))), (mfd, .inl (K, 9, .inl fd1v_9))] := hD
  have hw_10 : r_7 = resF (s_tn x) (cpy (fun j9 => sf (52 + j9)) lk (s_tn x)) (s_tol x) ∧ RFD (s_tn x) (cpy (fun j9 => sf (52 + j9)) lk (s_tn x)) r_7 mf1v_8 fd1v_9 := hw_10
  refine lv_istore_n (lv' := [(2, .int r_7), (0, .ref mo), (1, .int (nI x9))]) hx hb dX8_digit_32 rfl hl (by decide) rfl (fun ls hl => ?_)
  refine lv_iload_n hx hb dX8_digit_33 rfl (lv_at hl 0 rfl) ?_
  refine lv_if_gt (tgt := 45) hx hb dX8_digit_34 (by decide) (fun c_11 => ?_) (fun c_11 => ?_)
  · have hc9 := c_11
    refine lv_iconst (v := (-1)) hx hb dX8_digit_45 (by decide) ?_
    refine lv_goto (tgt := 55) hx hb dX8_digit_46 (by decide) ?_
    have hP9 : va_P D vwCl [(mo, .inr (8, [.ref ms, .int sv, .ref mb, .int ty, .int 0, .ref mk, .int (nI (s_tn x)), .ref mfd, .int mf1v_8, .int sp, .int on, .int tw])), (ms, .inl (K, 889, .inl sf)), (mk, .inl (K, 41, .inl (cpy (fun j9 => sf (52 + j9)) lk (s_tn x)))), (mfd, .inl (K, 9, .inl fd1v_9))] H := hP.sub [1, 0, 2, 3] rfl
    have hD9 : va_D A [(mo, .inr (8, [.ref ms, .int sv, .ref mb, .int ty, .int 0, .ref mk, .int (nI (s_tn x)), .ref mfd, .int mf1v_8, .int sp, .int on, .int tw])), (ms, .inl (K, 889, .inl sf)), (mk, .inl (K, 41, .inl (cpy (fun j9 => sf (52 + j9)) lk (s_tn x)))), (mfd, .inl (K, 9, .inl fd1v_9))] := hD.sub [1, 0, 2, 3] (by decide) rfl
    have hK9 : va_K D vwCl [] s := hK.sub [] rfl
    exact W.iret (v := (-1)) hx hb hr (fun t ht9 hW9 => ⟨⟨(-1), ((nI (s_tn x)), mf1v_8, (cpy (fun j9 => sf (52 + j9)) lk (s_tn x)), fd1v_9), rfl, by (exact dig_n1 hcf b3 hw_10.1 (Int32.not_le.mpr c_11)), ⟨by rw [ht9]; exact hP9, va_K.moved hW9.alike hK9, hD9⟩⟩, hS.F ht9⟩) hS.2.2 dX8_digit_55
  · have hc9 := c_11
    have hle9 : r_7 ≤ 0 := fa_of_nlt c_11
    have hg9 := dgc_le b3
    have hf_12 : (mf1v_8 : Int32) = (nI (dgc (s_tn x))) := dig_mf hw_10.1 hw_10.2 hle9
    have hP : va_P D vwCl [(ms, .inl (K, 889, .inl sf)), (mo, .inr (8, [.ref ms, .int sv, .ref mb, .int ty, .int 0, .ref mk, .int (nI (s_tn x)), .ref mfd, .int (nI (dgc (s_tn x))), .int sp, .int on, .int tw])), (mk, .inl (K, 41, .inl (cpy (fun j9 => sf (52 + j9)) lk (s_tn x)))), (mfd, .inl (K, 9, .inl fd1v_9))] H := (congrArg (fun z9 : Int32 => va_P D vwCl [(ms, .inl (K, 889, .inl sf)), (mo, .inr (8, [.ref ms, .int sv, .ref mb, .int ty, .int 0, .ref mk, .int (nI (s_tn x)), .ref mfd, .int z9, .int sp, .int on, .int tw])), (mk, .inl (K, 41, .inl (cpy (fun j9 => sf (52 + j9)) lk (s_tn x)))), (mfd, .inl (K, 9, .inl fd1v_9))] H) hf_12).mp hP
    have hD : va_D A [(ms, .inl (K, 889, .inl sf)), (mo, .inr (8, [.ref ms, .int sv, .ref mb, .int ty, .int 0, .ref mk, .int (nI (s_tn x)), .ref mfd, .int (nI (dgc (s_tn x))), .int sp, .int on, .int tw])), (mk, .inl (K, 41, .inl (cpy (fun j9 => sf (52 + j9)) lk (s_tn x)))), (mfd, .inl (K, 9, .inl fd1v_9))] := (congrArg (fun z9 : Int32 => va_D A [(ms, .inl (K, 889, .inl sf)), (mo, .inr (8, [.ref ms, .int sv, .ref mb, .int ty, .int 0, .ref mk, .int (nI (s_tn x)), .ref mfd, .int z9, .int sp, .int on, .int tw])), (mk, .inl (K, 41, .inl (cpy (fun j9 => sf (52 + j9)) lk (s_tn x)))), (mfd, .inl (K, 9, .inl fd1v_9))]) hf_12).mp hD
    refine lv_iload_n hx hb dX8_digit_37 rfl (lv_at hl 2 rfl) ?_
    refine lv_aload_n hx hb dX8_digit_38 rfl (lv_at hl 1 rfl) ?_
    refine va_get (D := D) (ci := 8) (v := .int (nI (dgc (s_tn x)))) (C := RX8) (T := TX8) (N := 12) hx hb ht inA_X8 hown hK hP 1 rfl rfl 8 (by decide) (ht _ lf_X8_98) (fun _ h9 => h9) rfl dX8_digit_39 ?_
    refine lv_icmp_lt (tgt := 49) hx hb dX8_digit_42 (by decide) (fun c_13 => ?_) (fun c_13 => ?_)
    · have hc9 := c_13
      have hlt9 : x9 < dgc (s_tn x) := by rcases Nat.lt_or_ge x9 (dgc (s_tn x)) with q9 | q9; exact q9; exact absurd c_13 (nI_nlt q9 (by omega))
      refine lv_aload_n hx hb dX8_digit_49 rfl (lv_at hl 1 rfl) ?_
      refine va_get (D := D) (ci := 8) (v := .ref mfd) (C := RX8) (T := TX8) (N := 12) hx hb ht inA_X8 hown hK hP 1 rfl rfl 7 (by decide) (ht _ lf_X8_20) (fun _ h9 => h9) rfl dX8_digit_50 ?_
      refine lv_iload_n hx hb dX8_digit_53 rfl (lv_at hl 2 rfl) ?_
      refine va_iald hx hb hK hP 3 0 rfl rfl (vp_in_nI (by omega) (by decide)) dX8_digit_54 ?_
      refine k_nrm (y := (digR (s_tn x) (s_tf x) (s_tol x) x9)) (by rw [nI_clamp (by omega)]; exact dig_y (r0 := 0) hcf b3 hw_10.1 hw_10.2 hle9 hlt9) ?_
      have hP9 : va_P D vwCl [(mo, .inr (8, [.ref ms, .int sv, .ref mb, .int ty, .int 0, .ref mk, .int (nI (s_tn x)), .ref mfd, .int (nI (dgc (s_tn x))), .int sp, .int on, .int tw])), (ms, .inl (K, 889, .inl sf)), (mk, .inl (K, 41, .inl (cpy (fun j9 => sf (52 + j9)) lk (s_tn x)))), (mfd, .inl (K, 9, .inl fd1v_9))] H := hP.sub [1, 0, 2, 3] rfl
      have hD9 : va_D A [(mo, .inr (8, [.ref ms, .int sv, .ref mb, .int ty, .int 0, .ref mk, .int (nI (s_tn x)), .ref mfd, .int (nI (dgc (s_tn x))), .int sp, .int on, .int tw])), (ms, .inl (K, 889, .inl sf)), (mk, .inl (K, 41, .inl (cpy (fun j9 => sf (52 + j9)) lk (s_tn x)))), (mfd, .inl (K, 9, .inl fd1v_9))] := hD.sub [1, 0, 2, 3] (by decide) rfl
      have hK9 : va_K D vwCl [] s := hK.sub [] rfl
      exact W.iret (v := (digR (s_tn x) (s_tf x) (s_tol x) x9)) hx hb hr (fun t ht9 hW9 => ⟨⟨(digR (s_tn x) (s_tf x) (s_tol x) x9), ((nI (s_tn x)), (nI (dgc (s_tn x))), (cpy (fun j9 => sf (52 + j9)) lk (s_tn x)), fd1v_9), rfl, by rfl, ⟨by rw [ht9]; exact hP9, va_K.moved hW9.alike hK9, hD9⟩⟩, hS.F ht9⟩) hS.2.2 dX8_digit_55
    · have hc9 := c_13
      refine lv_iconst (v := (-1)) hx hb dX8_digit_45 (by decide) ?_
      refine lv_goto (tgt := 55) hx hb dX8_digit_46 (by decide) ?_
      have hP9 : va_P D vwCl [(mo, .inr (8, [.ref ms, .int sv, .ref mb, .int ty, .int 0, .ref mk, .int (nI (s_tn x)), .ref mfd, .int (nI (dgc (s_tn x))), .int sp, .int on, .int tw])), (ms, .inl (K, 889, .inl sf)), (mk, .inl (K, 41, .inl (cpy (fun j9 => sf (52 + j9)) lk (s_tn x)))), (mfd, .inl (K, 9, .inl fd1v_9))] H := hP.sub [1, 0, 2, 3] rfl
      have hD9 : va_D A [(mo, .inr (8, [.ref ms, .int sv, .ref mb, .int ty, .int 0, .ref mk, .int (nI (s_tn x)), .ref mfd, .int (nI (dgc (s_tn x))), .int sp, .int on, .int tw])), (ms, .inl (K, 889, .inl sf)), (mk, .inl (K, 41, .inl (cpy (fun j9 => sf (52 + j9)) lk (s_tn x)))), (mfd, .inl (K, 9, .inl fd1v_9))] := hD.sub [1, 0, 2, 3] (by decide) rfl
      have hK9 : va_K D vwCl [] s := hK.sub [] rfl
      exact W.iret (v := (-1)) hx hb hr (fun t ht9 hW9 => ⟨⟨(-1), ((nI (s_tn x)), (nI (dgc (s_tn x))), (cpy (fun j9 => sf (52 + j9)) lk (s_tn x)), fd1v_9), rfl, by (exact dig_n2 hcf b3 hw_10.1 hle9 (by rcases Nat.lt_or_ge x9 (dgc (s_tn x)) with q9 | q9; exact absurd (nI_lt q9 (by omega)) c_13; exact q9)), ⟨by rw [ht9]; exact hP9, va_K.moved hW9.alike hK9, hD9⟩⟩, hS.F ht9⟩) hS.2.2 dX8_digit_55
set_option maxHeartbeats 4000000 in
set_option maxRecDepth 100000 in
theorem c_M_digitX (l : Launch) (D : va_G) (mo : Nat) (ms : Nat) (sv : Int32) (mb : Nat) (ty : Int32) (th : Int32) (mk : Nat) (ml : Int32) (mfd : Nat) (mf : Int32) (sp : Int32) (on : Int32) (tw : Int32) (K : ClassId) (sf : Nat → Int32) (x : ST) (v : Int32) (hR : RS x sf) (hbx : bST x) (hxi : inR v (nI 9) = 0) (sz : Nat) : k_Mi (S := Unit) l D yX8_digit cX8_digit 3 (some .int) 1 0 0 22 [.ref mo, .int v] [(mo, .inr (8, [.ref ms, .int sv, .ref mb, .int ty, .int th, .ref mk, .int ml, .ref mfd, .int mf, .int sp, .int on, .int tw])), (ms, .inl (K, 889, .inl sf))] [(K, .int)] (fun (r : Int32) (_ : Unit) => r = (0)) (fun _ => [(mo, .inr (8, [.ref ms, .int sv, .ref mb, .int ty, .int 1, .ref mk, .int ml, .ref mfd, .int mf, .int sp, .int on, .int tw])), (ms, .inl (K, 889, .inl sf))]) (fun _ => []) sz := by
  refine Met.ofW (cc := cX8_digit) (maxL := 3) (ret := (some .int)) (by decide) rfl ?_
  intro p e s m args below meth c s₁ B hml hv
  obtain ⟨rfl, hsz, hP, hK, hD0, hG⟩ := hv
  have hx := B.exec
  have hb := B.bytes
  have hr := B.returns
  have ht : ∀ v9 ∈ wsA, v9.before ([.ref mo, .int v] : List Value).toArray s = true := fun v9 h9 => atoms_spec (ws := k_ws yX8_digit cX8_digit 3 (some .int)) B.pre v9 (List.mem_cons_of_mem _ h9)
  have hown : s.vm.findClass RX8 = some m.cls := findClass_of_methodNamed B.named
  have S0 : k_C p s m ([.ref mo, .int v] : List Value).toArray c cX8_digit 3 RX8 := ⟨hx, hb, hml, hown, ht⟩
  have hlocks := B.notSynchronized
  subst hsz
  have hD := hD0.self (sz := s.heap.size)
  generalize hAe : va_A [(mo, .inr (8, [.ref ms, .int sv, .ref mb, .int ty, .int th, .ref mk, .int ml, .ref mfd, .int mf, .int sp, .int on, .int tw])), (ms, .inl (K, 889, .inl sf))] s.heap.size = A at hD hG ⊢
  have hA : ∀ q : Nat, s.heap.size ≤ q → A q := fun q h => by rw [← hAe]; exact Or.inr h
  have hS : va_S A s.heap s.heap [] := va_S.rf
  have hl := lv_entry ([.ref mo, .int v]) (n := 3) (Nat.le_of_ble_eq_true rfl)
  rw [lg_entry_eq]
  generalize (lg_sl ([.ref mo, .int v]) ++ List.replicate (3 - (lg_sl ([.ref mo, .int v])).length) Slot.unset).toArray = ls at hl ⊢
  have hl : lv_has ls 3 [(0, .ref mo), (1, .int v)] := hl
  have hP : va_P D vwCl [(mo, .inr (8, [.ref ms, .int sv, .ref mb, .int ty, .int th, .ref mk, .int ml, .ref mfd, .int mf, .int sp, .int on, .int tw])), (ms, .inl (K, 889, .inl sf))] s.heap := hP
  have hR9 := hR
  have hlx9 : True := trivial
  obtain ⟨q0, q1, q2, h51, q4, h93, ⟨h94, q7⟩, h125, h126⟩ := hR
  obtain ⟨b1, b2, b3, b4⟩ := bST_le hbx
  refine lv_aload_n hx hb dX8_digit_0 rfl (lv_at hl 0 rfl) ?_
  refine lv_iload_n hx hb dX8_digit_1 rfl (lv_at hl 1 rfl) ?_
  refine lv_iconst (v := 0) hx hb dX8_digit_2 (by decide) ?_
  refine lv_bipush (v := 8) hx hb dX8_digit_3 (by decide) ?_
  have ct := k_cut_of (wc := []) (wr := [(mo, .inr (8, [.ref ms, .int sv, .ref mb, .int ty, .int th, .ref mk, .int ml, .ref mfd, .int mf, .int sp, .int on, .int tw])), (ms, .inl (K, 889, .inl sf))]) (tc := []) hG hS hA hK hP hD [] [0, 1] [] rfl rfl (by decide) (by decide) (by decide) rfl
  refine k_endi (As := [.int v, .int 0, .int 8]) ct (k_runS (As := [.int v, .int 0, .int 8]) (rest := [.ref mo]) S0 Ls_X8_46 ct (c_M_in0 l D v 0 8 (in_08 hxi) s.heap.size) hl.1 rfl (Nat.le_of_ble_eq_true rfl) rfl dX8_digit_5 ⟨⟨Nat.le_of_ble_eq_true rfl, Nat.le_of_ble_eq_true rfl⟩, Nat.le_of_ble_eq_true rfl, Nat.le_of_ble_eq_true rfl⟩) rfl rfl (fun r_1 _ H locs hw_2 hP hD hK hS => ?_)
  have hK : va_K D vwCl [(K, .int)] s := hK
  have hP : va_P D vwCl [(mo, .inr (8, [.ref ms, .int sv, .ref mb, .int ty, .int th, .ref mk, .int ml, .ref mfd, .int mf, .int sp, .int on, .int tw])), (ms, .inl (K, 889, .inl sf))] H := hP
  have hD : va_D A [(mo, .inr (8, [.ref ms, .int sv, .ref mb, .int ty, .int th, .ref mk, .int ml, .ref mfd, .int mf, .int sp, .int on, .int tw])), (ms, .inl (K, 889, .inl sf))] := hD
  have hw_2 : r_1 = (0) := hw_2
  have hw_2 := hw_2.symm
  subst hw_2
  refine k_nrm (y := 0) rfl ?_
  refine lv_iconst (v := 1) hx hb dX8_digit_8 (by decide) ?_
  have ct := k_cut_of (wc := [(mo, .inr (8, [.ref ms, .int sv, .ref mb, .int ty, .int th, .ref mk, .int ml, .ref mfd, .int mf, .int sp, .int on, .int tw]))]) (wr := [(ms, .inl (K, 889, .inl sf))]) (tc := []) hG hS hA hK hP hD [0] [1] [] rfl rfl (by decide) (by decide) (by decide) rfl
  refine k_endi (As := [.ref mo, .int 0, .int 1]) ct (k_runV (As := [.int 0, .int 1]) (rest := []) S0 Lv_X8_58 rfl (ci := 8) (q0 := 0) rfl rfl ct (c_M_goes0 l D mo ms sv mb ty th mk ml mfd mf sp on tw 1 H.size) hl.1 rfl (Nat.le_of_ble_eq_true rfl) rfl dX8_digit_9 ⟨⟨Nat.le_of_ble_eq_true rfl, Nat.le_of_ble_eq_true rfl⟩, Nat.le_of_ble_eq_true rfl, Nat.le_of_ble_eq_true rfl⟩) rfl rfl (fun r_3 _ H locs hw_4 hP hD hK hS => ?_)
  have hK : va_K D vwCl [(K, .int)] s := hK
  have hP : va_P D vwCl [(ms, .inl (K, 889, .inl sf)), (mo, .inr (8, [.ref ms, .int sv, .ref mb, .int ty, .int 1, .ref mk, .int ml, .ref mfd, .int mf, .int sp, .int on, .int tw]))] H := hP
  have hD : va_D A [(ms, .inl (K, 889, .inl sf)), (mo, .inr (8, [.ref ms, .int sv, .ref mb, .int ty, .int 1, .ref mk, .int ml, .ref mfd, .int mf, .int sp, .int on, .int tw]))] := hD
  have hw_4 : r_3 = (0) := hw_4
  have hw_4 := hw_4.symm
  subst hw_4
  refine k_nrm (y := 0) rfl ?_
  refine lv_if_ne (tgt := 17) hx hb dX8_digit_12 (by decide) (fun c9 => absurd (by decide) c9) (fun _ => ?_)
  refine lv_iconst (v := 0) hx hb dX8_digit_15 (by decide) ?_
  have hP9 : va_P D vwCl [(mo, .inr (8, [.ref ms, .int sv, .ref mb, .int ty, .int 1, .ref mk, .int ml, .ref mfd, .int mf, .int sp, .int on, .int tw])), (ms, .inl (K, 889, .inl sf))] H := hP.sub [1, 0] rfl
  have hD9 : va_D A [(mo, .inr (8, [.ref ms, .int sv, .ref mb, .int ty, .int 1, .ref mk, .int ml, .ref mfd, .int mf, .int sp, .int on, .int tw])), (ms, .inl (K, 889, .inl sf))] := hD.sub [1, 0] (by decide) rfl
  have hK9 : va_K D vwCl [] s := hK.sub [] rfl
  exact W.iret (v := 0) hx hb hr (fun t ht9 hW9 => ⟨⟨0, (), rfl, by first | rfl | trivial | (simp only [if_true, if_false, reduceIte, and_self]; done) | simp_all, ⟨by rw [ht9]; exact hP9, va_K.moved hW9.alike hK9, hD9⟩⟩, hS.F ht9⟩) hS.2.2 dX8_digit_16
set_option maxHeartbeats 4000000 in
set_option maxRecDepth 100000 in
theorem c_M_nearest (l : Launch) (D : va_G) (mo : Nat) (ms : Nat) (sv : Int32) (mb : Nat) (ty : Int32) (th : Int32) (mk : Nat) (ml : Int32) (mfd : Nat) (mf : Int32) (sp : Int32) (on : Int32) (tw : Int32) (K : ClassId) (sf : Nat → Int32) (lk : Nat → Int32) (x : ST) (x9 : Nat) (hR : RS x sf) (hbx : bST x) (hx9 : x9 + 4 ≤ s_tn x) (sz : Nat) : k_Mi (S := Int32 × (Nat → Int32)) l D yX8_nearest cX8_nearest 2 (some .int) 4 0 0 96 [.ref mo, .int (nI x9)] [(mo, .inr (8, [.ref ms, .int sv, .ref mb, .int ty, .int th, .ref mk, .int ml, .ref mfd, .int mf, .int sp, .int on, .int tw])), (ms, .inl (K, 889, .inl sf)), (mk, .inl (K, 41, .inl lk))] [(K, .int)] (fun (r : Int32) (u : Int32 × (Nat → Int32)) => match u with | (ml1, lk1) => r = (nrF (dsF (rowAt 41 (nI (s_tn x)) (s_tf x) (nI x9)) (rowAt 41 (nI (s_tn x)) (s_tf x) (nI x9 + 1)) (rowAt 41 (nI (s_tn x)) (s_tf x) (nI x9 + 2)) (rowAt 41 (nI (s_tn x)) (s_tf x) (nI x9 + 3)) (rowAt 41 (nI (s_tn x)) (s_tf x) (nI x9) + rowAt 41 (nI (s_tn x)) (s_tf x) (nI x9 + 1) + rowAt 41 (nI (s_tn x)) (s_tf x) (nI x9 + 2) + rowAt 41 (nI (s_tn x)) (s_tf x) (nI x9 + 3))) 0 0 10).1) (fun u => match u with | (ml1, lk1) => [(mo, .inr (8, [.ref ms, .int sv, .ref mb, .int ty, .int 0, .ref mk, .int ml1, .ref mfd, .int mf, .int sp, .int on, .int tw])), (ms, .inl (K, 889, .inl sf)), (mk, .inl (K, 41, .inl lk1))]) (fun u => match u with | (ml1, lk1) => []) sz := by
  refine Met.ofW (cc := cX8_nearest) (maxL := 2) (ret := (some .int)) (by decide) rfl ?_
  intro p e s m args below meth c s₁ B hml hv
  obtain ⟨rfl, hsz, hP, hK, hD0, hG⟩ := hv
  have hx := B.exec
  have hb := B.bytes
  have hr := B.returns
  have ht : ∀ v9 ∈ wsA, v9.before ([.ref mo, .int (nI x9)] : List Value).toArray s = true := fun v9 h9 => atoms_spec (ws := k_ws yX8_nearest cX8_nearest 2 (some .int)) B.pre v9 (List.mem_cons_of_mem _ h9)
  have hown : s.vm.findClass RX8 = some m.cls := findClass_of_methodNamed B.named
  have S0 : k_C p s m ([.ref mo, .int (nI x9)] : List Value).toArray c cX8_nearest 2 RX8 := ⟨hx, hb, hml, hown, ht⟩
  have hlocks := B.notSynchronized
  subst hsz
  have hD := hD0.self (sz := s.heap.size)
  generalize hAe : va_A [(mo, .inr (8, [.ref ms, .int sv, .ref mb, .int ty, .int th, .ref mk, .int ml, .ref mfd, .int mf, .int sp, .int on, .int tw])), (ms, .inl (K, 889, .inl sf)), (mk, .inl (K, 41, .inl lk))] s.heap.size = A at hD hG ⊢
  have hA : ∀ q : Nat, s.heap.size ≤ q → A q := fun q h => by rw [← hAe]; exact Or.inr h
  have hS : va_S A s.heap s.heap [] := va_S.rf
  have hl := lv_entry ([.ref mo, .int (nI x9)]) (n := 2) (Nat.le_of_ble_eq_true rfl)
  rw [lg_entry_eq]
  generalize (lg_sl ([.ref mo, .int (nI x9)]) ++ List.replicate (2 - (lg_sl ([.ref mo, .int (nI x9)])).length) Slot.unset).toArray = ls at hl ⊢
  have hl : lv_has ls 2 [(0, .ref mo), (1, .int (nI x9))] := hl
  have hP : va_P D vwCl [(mo, .inr (8, [.ref ms, .int sv, .ref mb, .int ty, .int th, .ref mk, .int ml, .ref mfd, .int mf, .int sp, .int on, .int tw])), (ms, .inl (K, 889, .inl sf)), (mk, .inl (K, 41, .inl lk))] s.heap := hP
  have hR9 := hR
  have hlx9 : True := trivial
  obtain ⟨q0, q1, q2, h51, q4, h93, ⟨h94, q7⟩, h125, h126⟩ := hR
  obtain ⟨b1, b2, b3, b4⟩ := bST_le hbx
  have hcf : ∀ j9, j9 < s_tn x → (cpy (fun j9 => sf (52 + j9)) lk (s_tn x)) j9 = s_tf x j9 := fun j9 h9 => (cpy_lt h9).trans (q4 j9 h9)
  refine lv_aload_n hx hb dX8_nearest_0 rfl (lv_at hl 0 rfl) ?_
  refine lv_iload_n hx hb dX8_nearest_1 rfl (lv_at hl 1 rfl) ?_
  refine lv_iconst (v := 0) hx hb dX8_nearest_2 (by decide) ?_
  refine lv_aload_n hx hb dX8_nearest_3 rfl (lv_at hl 0 rfl) ?_
  refine va_get (D := D) (ci := 8) (v := .ref ms) (C := RX8) (T := TX8) (N := 12) hx hb ht inA_X8 hown hK hP 0 rfl rfl 0 (by decide) (ht _ lf_X8_7) (fun _ h9 => h9) rfl dX8_nearest_4 ?_
  refine lv_bipush (v := 51) hx hb dX8_nearest_7 (by decide) ?_
  refine va_iald hx hb hK hP 1 0 rfl rfl (by unfold vp_in; decide) dX8_nearest_9 ?_
  refine k_nrm (y := (nI (s_tn x))) (show sf (51 : Int32).toNatClampNeg = (nI (s_tn x)) from h51) ?_
  refine lv_iconst (v := 4) hx hb dX8_nearest_10 (by decide) ?_
  refine lv_isub hx hb dX8_nearest_11 ?_
  refine k_nrm (y := (nI (s_tn x - 4))) (pk_sub (b := 4) (by omega)) ?_
  have ct := k_cut_of (wc := []) (wr := [(mo, .inr (8, [.ref ms, .int sv, .ref mb, .int ty, .int th, .ref mk, .int ml, .ref mfd, .int mf, .int sp, .int on, .int tw])), (ms, .inl (K, 889, .inl sf)), (mk, .inl (K, 41, .inl lk))]) (tc := []) hG hS hA hK hP hD [] [0, 1, 2] [] rfl rfl (by decide) (by decide) (by decide) rfl
  refine k_endi (As := [.int (nI x9), .int 0, .int (nI (s_tn x - 4))]) ct (k_runS (As := [.int (nI x9), .int 0, .int (nI (s_tn x - 4))]) (rest := [.ref mo]) S0 Ls_X8_46 ct (c_M_in1 l D (nI x9) 0 (nI (s_tn x - 4)) (nI_pos (by omega)) (nI_nlt (by omega) (by omega)) s.heap.size) hl.1 rfl (Nat.le_of_ble_eq_true rfl) rfl dX8_nearest_12 ⟨⟨Nat.le_of_ble_eq_true rfl, Nat.le_of_ble_eq_true rfl⟩, Nat.le_of_ble_eq_true rfl, Nat.le_of_ble_eq_true rfl⟩) rfl rfl (fun r_1 _ H locs hw_2 hP hD hK hS => ?_)
  have hK : va_K D vwCl [(K, .int)] s := hK
  have hP : va_P D vwCl [(mo, .inr (8, [.ref ms, .int sv, .ref mb, .int ty, .int th, .ref mk, .int ml, .ref mfd, .int mf, .int sp, .int on, .int tw])), (ms, .inl (K, 889, .inl sf)), (mk, .inl (K, 41, .inl lk))] H := hP
  have hD : va_D A [(mo, .inr (8, [.ref ms, .int sv, .ref mb, .int ty, .int th, .ref mk, .int ml, .ref mfd, .int mf, .int sp, .int on, .int tw])), (ms, .inl (K, 889, .inl sf)), (mk, .inl (K, 41, .inl lk))] := hD
  have hw_2 : r_1 = (1) := hw_2
  have hw_2 := hw_2.symm
  subst hw_2
  refine k_nrm (y := 1) rfl ?_
  refine lv_iconst (v := 1) hx hb dX8_nearest_15 (by decide) ?_
  have ct := k_cut_of (wc := [(mo, .inr (8, [.ref ms, .int sv, .ref mb, .int ty, .int th, .ref mk, .int ml, .ref mfd, .int mf, .int sp, .int on, .int tw]))]) (wr := [(ms, .inl (K, 889, .inl sf)), (mk, .inl (K, 41, .inl lk))]) (tc := []) hG hS hA hK hP hD [0] [1, 2] [] rfl rfl (by decide) (by decide) (by decide) rfl
  refine k_endi (As := [.ref mo, .int 1, .int 1]) ct (k_runV (As := [.int 1, .int 1]) (rest := []) S0 Lv_X8_58 rfl (ci := 8) (q0 := 0) rfl rfl ct (c_M_goes11 l D mo ms sv mb ty th mk ml mfd mf sp on tw H.size) hl.1 rfl (Nat.le_of_ble_eq_true rfl) rfl dX8_nearest_16 ⟨⟨Nat.le_of_ble_eq_true rfl, Nat.le_of_ble_eq_true rfl⟩, Nat.le_of_ble_eq_true rfl, Nat.le_of_ble_eq_true rfl⟩) rfl rfl (fun r_3 _ H locs hw_4 hP hD hK hS => ?_)
  have hK : va_K D vwCl [(K, .int)] s := hK
  have hP : va_P D vwCl [(ms, .inl (K, 889, .inl sf)), (mk, .inl (K, 41, .inl lk)), (mo, .inr (8, [.ref ms, .int sv, .ref mb, .int ty, .int 0, .ref mk, .int ml, .ref mfd, .int mf, .int sp, .int on, .int tw]))] H := hP
  have hD : va_D A [(ms, .inl (K, 889, .inl sf)), (mk, .inl (K, 41, .inl lk)), (mo, .inr (8, [.ref ms, .int sv, .ref mb, .int ty, .int 0, .ref mk, .int ml, .ref mfd, .int mf, .int sp, .int on, .int tw]))] := hD
  have hw_4 : r_3 = (1) := hw_4
  have hw_4 := hw_4.symm
  subst hw_4
  refine k_nrm (y := 1) rfl ?_
  refine lv_if_ne (tgt := 24) hx hb dX8_nearest_19 (by decide) (fun _ => ?_) (fun c9 => absurd c9 (by decide))
  refine lv_aload_n hx hb dX8_nearest_24 rfl (lv_at hl 0 rfl) ?_
  have ct := k_cut_of (wc := [(mo, .inr (8, [.ref ms, .int sv, .ref mb, .int ty, .int 0, .ref mk, .int ml, .ref mfd, .int mf, .int sp, .int on, .int tw])), (ms, .inl (K, 889, .inl sf)), (mk, .inl (K, 41, .inl lk))]) (wr := []) (tc := [(K, .int)]) hG hS hA hK hP hD [2, 0, 1] [] [0] rfl rfl (by decide) (by decide) (by decide) rfl
  refine k_endv (As := [.ref mo]) ct (k_runV (As := []) (rest := []) S0 Lv_X8_119 rfl (ci := 8) (q0 := 0) rfl rfl ct (c_M_looksM l D mo ms sv mb ty 0 mk ml mfd mf sp on tw K sf lk (s_tn x) (by assumption) (by first | assumption | omega) H.size) hl.1 rfl (Nat.le_of_ble_eq_true rfl) rfl dX8_nearest_25 ⟨⟨Nat.le_of_ble_eq_true rfl, Nat.le_of_ble_eq_true rfl⟩, Nat.le_of_ble_eq_true rfl, Nat.le_of_ble_eq_true rfl⟩) rfl rfl (fun _ _ H locs hw_6 hP hD hK hS => ?_)
  have hK : va_K D vwCl [(K, .int)] s := hK
  have hP : va_P D vwCl [(mo, .inr (8, [.ref ms, .int sv, .ref mb, .int ty, .int 0, .ref mk, .int (nI (s_tn x)), .ref mfd, .int mf, .int sp, .int on, .int tw])), (ms, .inl (K, 889, .inl sf)), (mk, .inl (K, 41, .inl (cpy (fun j9 => sf (52 + j9)) lk (s_tn x))))] H := hP
  have hD : va_D A [(mo, .inr (8, [.ref ms, .int sv, .ref mb, .int ty, .int 0, .ref mk, .int (nI (s_tn x)), .ref mfd, .int mf, .int sp, .int on, .int tw])), (ms, .inl (K, 889, .inl sf)), (mk, .inl (K, 41, .inl (cpy (fun j9 => sf (52 + j9)) lk (s_tn x))))] := hD
  refine lv_aload_n hx hb dX8_nearest_28 rfl (lv_at hl 0 rfl) ?_
  refine lv_iload_n hx hb dX8_nearest_29 rfl (lv_at hl 1 rfl) ?_
  refine lv_iconst (v := 0) hx hb dX8_nearest_30 (by decide) ?_
  have ct := k_cut_of (wc := [(mo, .inr (8, [.ref ms, .int sv, .ref mb, .int ty, .int 0, .ref mk, .int (nI (s_tn x)), .ref mfd, .int mf, .int sp, .int on, .int tw])), (mk, .inl (K, 41, .inl (cpy (fun j9 => sf (52 + j9)) lk (s_tn x))))]) (wr := [(ms, .inl (K, 889, .inl sf))]) (tc := [(K, .int)]) hG hS hA hK hP hD [0, 2] [1] [0] rfl rfl (by decide) (by decide) (by decide) rfl
  refine k_endi (As := [.ref mo, .int (nI x9), .int 0]) ct (k_runV (As := [.int (nI x9), .int 0]) (rest := []) S0 Lv_X8_95 rfl (ci := 8) (q0 := 0) rfl rfl ct (c_M_nearD l D mo ms sv mb ty 0 mk (s_tn x) mfd mf sp on tw K (cpy (fun j9 => sf (52 + j9)) lk (s_tn x)) x9 0 (by first | assumption | omega) (by first | assumption | omega) H.size) hl.1 rfl (Nat.le_of_ble_eq_true rfl) rfl dX8_nearest_31 ⟨⟨Nat.le_of_ble_eq_true rfl, Nat.le_of_ble_eq_true rfl⟩, Nat.le_of_ble_eq_true rfl, Nat.le_of_ble_eq_true rfl⟩) rfl rfl (fun r_7 _ H locs hw_8 hP hD hK hS => ?_)
  have hK : va_K D vwCl [(K, .int)] s := hK
  have hP : va_P D vwCl [(ms, .inl (K, 889, .inl sf)), (mo, .inr (8, [.ref ms, .int sv, .ref mb, .int ty, .int 0, .ref mk, .int (nI (s_tn x)), .ref mfd, .int mf, .int sp, .int on, .int tw])), (mk, .inl (K, 41, .inl (cpy (fun j9 => sf (52 + j9)) lk (s_tn x))))] H := hP
  have hD : va_D A [(ms, .inl (K, 889, .inl sf)), (mo, .inr (8, [.ref ms, .int sv, .ref mb, .int ty, .int 0, .ref mk, .int (nI (s_tn x)), .ref mfd, .int mf, .int sp, .int on, .int tw])), (mk, .inl (K, 41, .inl (cpy (fun j9 => sf (52 + j9)) lk (s_tn x))))] := hD
  have hw_8 : r_7 = (nI (nbN (dsM (s_tn x) (cpy (fun j9 => sf (52 + j9)) lk (s_tn x)) 0 x9) 9)) := hw_8
  have hw_8 := hw_8.symm
  subst hw_8
  refine k_nrm (y := (nI (nbN (dsM (s_tn x) (cpy (fun j9 => sf (52 + j9)) lk (s_tn x)) 0 x9) 9))) rfl ?_
  have hP9 : va_P D vwCl [(mo, .inr (8, [.ref ms, .int sv, .ref mb, .int ty, .int 0, .ref mk, .int (nI (s_tn x)), .ref mfd, .int mf, .int sp, .int on, .int tw])), (ms, .inl (K, 889, .inl sf)), (mk, .inl (K, 41, .inl (cpy (fun j9 => sf (52 + j9)) lk (s_tn x))))] H := hP.sub [1, 0, 2] rfl
  have hD9 : va_D A [(mo, .inr (8, [.ref ms, .int sv, .ref mb, .int ty, .int 0, .ref mk, .int (nI (s_tn x)), .ref mfd, .int mf, .int sp, .int on, .int tw])), (ms, .inl (K, 889, .inl sf)), (mk, .inl (K, 41, .inl (cpy (fun j9 => sf (52 + j9)) lk (s_tn x))))] := hD.sub [1, 0, 2] (by decide) rfl
  have hK9 : va_K D vwCl [] s := hK.sub [] rfl
  exact W.iret (v := (nI (nbN (dsM (s_tn x) (cpy (fun j9 => sf (52 + j9)) lk (s_tn x)) 0 x9) 9))) hx hb hr (fun t ht9 hW9 => ⟨⟨(nI (nbN (dsM (s_tn x) (cpy (fun j9 => sf (52 + j9)) lk (s_tn x)) 0 x9) 9)), ((nI (s_tn x)), (cpy (fun j9 => sf (52 + j9)) lk (s_tn x))), rfl, by exact near_eq hcf b3 hx9, ⟨by rw [ht9]; exact hP9, va_K.moved hW9.alike hK9, hD9⟩⟩, hS.F ht9⟩) hS.2.2 dX8_nearest_34
set_option maxHeartbeats 4000000 in
set_option maxRecDepth 100000 in
theorem c_M_nearestX (l : Launch) (D : va_G) (mo : Nat) (ms : Nat) (sv : Int32) (mb : Nat) (ty : Int32) (th : Int32) (mk : Nat) (ml : Int32) (mfd : Nat) (mf : Int32) (sp : Int32) (on : Int32) (tw : Int32) (K : ClassId) (sf : Nat → Int32) (x : ST) (v : Int32) (hR : RS x sf) (hbx : bST x) (hn9 : v < 0 ∨ nI (s_tn x) - 4 < v) (sz : Nat) : k_Mi (S := Unit) l D yX8_nearest cX8_nearest 2 (some .int) 1 0 0 22 [.ref mo, .int v] [(mo, .inr (8, [.ref ms, .int sv, .ref mb, .int ty, .int th, .ref mk, .int ml, .ref mfd, .int mf, .int sp, .int on, .int tw])), (ms, .inl (K, 889, .inl sf))] [(K, .int)] (fun (r : Int32) (_ : Unit) => r = (0)) (fun _ => [(mo, .inr (8, [.ref ms, .int sv, .ref mb, .int ty, .int 1, .ref mk, .int ml, .ref mfd, .int mf, .int sp, .int on, .int tw])), (ms, .inl (K, 889, .inl sf))]) (fun _ => []) sz := by
  refine Met.ofW (cc := cX8_nearest) (maxL := 2) (ret := (some .int)) (by decide) rfl ?_
  intro p e s m args below meth c s₁ B hml hv
  obtain ⟨rfl, hsz, hP, hK, hD0, hG⟩ := hv
  have hx := B.exec
  have hb := B.bytes
  have hr := B.returns
  have ht : ∀ v9 ∈ wsA, v9.before ([.ref mo, .int v] : List Value).toArray s = true := fun v9 h9 => atoms_spec (ws := k_ws yX8_nearest cX8_nearest 2 (some .int)) B.pre v9 (List.mem_cons_of_mem _ h9)
  have hown : s.vm.findClass RX8 = some m.cls := findClass_of_methodNamed B.named
  have S0 : k_C p s m ([.ref mo, .int v] : List Value).toArray c cX8_nearest 2 RX8 := ⟨hx, hb, hml, hown, ht⟩
  have hlocks := B.notSynchronized
  subst hsz
  have hD := hD0.self (sz := s.heap.size)
  generalize hAe : va_A [(mo, .inr (8, [.ref ms, .int sv, .ref mb, .int ty, .int th, .ref mk, .int ml, .ref mfd, .int mf, .int sp, .int on, .int tw])), (ms, .inl (K, 889, .inl sf))] s.heap.size = A at hD hG ⊢
  have hA : ∀ q : Nat, s.heap.size ≤ q → A q := fun q h => by rw [← hAe]; exact Or.inr h
  have hS : va_S A s.heap s.heap [] := va_S.rf
  have hl := lv_entry ([.ref mo, .int v]) (n := 2) (Nat.le_of_ble_eq_true rfl)
  rw [lg_entry_eq]
  generalize (lg_sl ([.ref mo, .int v]) ++ List.replicate (2 - (lg_sl ([.ref mo, .int v])).length) Slot.unset).toArray = ls at hl ⊢
  have hl : lv_has ls 2 [(0, .ref mo), (1, .int v)] := hl
  have hP : va_P D vwCl [(mo, .inr (8, [.ref ms, .int sv, .ref mb, .int ty, .int th, .ref mk, .int ml, .ref mfd, .int mf, .int sp, .int on, .int tw])), (ms, .inl (K, 889, .inl sf))] s.heap := hP
  have hR9 := hR
  have hlx9 : True := trivial
  obtain ⟨q0, q1, q2, h51, q4, h93, ⟨h94, q7⟩, h125, h126⟩ := hR
  obtain ⟨b1, b2, b3, b4⟩ := bST_le hbx
  refine lv_aload_n hx hb dX8_nearest_0 rfl (lv_at hl 0 rfl) ?_
  refine lv_iload_n hx hb dX8_nearest_1 rfl (lv_at hl 1 rfl) ?_
  refine lv_iconst (v := 0) hx hb dX8_nearest_2 (by decide) ?_
  refine lv_aload_n hx hb dX8_nearest_3 rfl (lv_at hl 0 rfl) ?_
  refine va_get (D := D) (ci := 8) (v := .ref ms) (C := RX8) (T := TX8) (N := 12) hx hb ht inA_X8 hown hK hP 0 rfl rfl 0 (by decide) (ht _ lf_X8_7) (fun _ h9 => h9) rfl dX8_nearest_4 ?_
  refine lv_bipush (v := 51) hx hb dX8_nearest_7 (by decide) ?_
  refine va_iald hx hb hK hP 1 0 rfl rfl (by unfold vp_in; decide) dX8_nearest_9 ?_
  refine k_nrm (y := (nI (s_tn x))) (show sf (51 : Int32).toNatClampNeg = (nI (s_tn x)) from h51) ?_
  refine lv_iconst (v := 4) hx hb dX8_nearest_10 (by decide) ?_
  refine lv_isub hx hb dX8_nearest_11 ?_
  refine k_nrm (y := (nI (s_tn x) - 4)) (rfl) ?_
  have ct := k_cut_of (wc := []) (wr := [(mo, .inr (8, [.ref ms, .int sv, .ref mb, .int ty, .int th, .ref mk, .int ml, .ref mfd, .int mf, .int sp, .int on, .int tw])), (ms, .inl (K, 889, .inl sf))]) (tc := []) hG hS hA hK hP hD [] [0, 1] [] rfl rfl (by decide) (by decide) (by decide) rfl
  refine k_endi (As := [.int v, .int 0, .int (nI (s_tn x) - 4)]) ct (k_runS (As := [.int v, .int 0, .int (nI (s_tn x) - 4)]) (rest := [.ref mo]) S0 Ls_X8_46 ct (c_M_in0 l D v 0 (nI (s_tn x) - 4) hn9 s.heap.size) hl.1 rfl (Nat.le_of_ble_eq_true rfl) rfl dX8_nearest_12 ⟨⟨Nat.le_of_ble_eq_true rfl, Nat.le_of_ble_eq_true rfl⟩, Nat.le_of_ble_eq_true rfl, Nat.le_of_ble_eq_true rfl⟩) rfl rfl (fun r_1 _ H locs hw_2 hP hD hK hS => ?_)
  have hK : va_K D vwCl [(K, .int)] s := hK
  have hP : va_P D vwCl [(mo, .inr (8, [.ref ms, .int sv, .ref mb, .int ty, .int th, .ref mk, .int ml, .ref mfd, .int mf, .int sp, .int on, .int tw])), (ms, .inl (K, 889, .inl sf))] H := hP
  have hD : va_D A [(mo, .inr (8, [.ref ms, .int sv, .ref mb, .int ty, .int th, .ref mk, .int ml, .ref mfd, .int mf, .int sp, .int on, .int tw])), (ms, .inl (K, 889, .inl sf))] := hD
  have hw_2 : r_1 = (0) := hw_2
  have hw_2 := hw_2.symm
  subst hw_2
  refine k_nrm (y := 0) rfl ?_
  refine lv_iconst (v := 1) hx hb dX8_nearest_15 (by decide) ?_
  have ct := k_cut_of (wc := [(mo, .inr (8, [.ref ms, .int sv, .ref mb, .int ty, .int th, .ref mk, .int ml, .ref mfd, .int mf, .int sp, .int on, .int tw]))]) (wr := [(ms, .inl (K, 889, .inl sf))]) (tc := []) hG hS hA hK hP hD [0] [1] [] rfl rfl (by decide) (by decide) (by decide) rfl
  refine k_endi (As := [.ref mo, .int 0, .int 1]) ct (k_runV (As := [.int 0, .int 1]) (rest := []) S0 Lv_X8_58 rfl (ci := 8) (q0 := 0) rfl rfl ct (c_M_goes0 l D mo ms sv mb ty th mk ml mfd mf sp on tw 1 H.size) hl.1 rfl (Nat.le_of_ble_eq_true rfl) rfl dX8_nearest_16 ⟨⟨Nat.le_of_ble_eq_true rfl, Nat.le_of_ble_eq_true rfl⟩, Nat.le_of_ble_eq_true rfl, Nat.le_of_ble_eq_true rfl⟩) rfl rfl (fun r_3 _ H locs hw_4 hP hD hK hS => ?_)
  have hK : va_K D vwCl [(K, .int)] s := hK
  have hP : va_P D vwCl [(ms, .inl (K, 889, .inl sf)), (mo, .inr (8, [.ref ms, .int sv, .ref mb, .int ty, .int 1, .ref mk, .int ml, .ref mfd, .int mf, .int sp, .int on, .int tw]))] H := hP
  have hD : va_D A [(ms, .inl (K, 889, .inl sf)), (mo, .inr (8, [.ref ms, .int sv, .ref mb, .int ty, .int 1, .ref mk, .int ml, .ref mfd, .int mf, .int sp, .int on, .int tw]))] := hD
  have hw_4 : r_3 = (0) := hw_4
  have hw_4 := hw_4.symm
  subst hw_4
  refine k_nrm (y := 0) rfl ?_
  refine lv_if_ne (tgt := 24) hx hb dX8_nearest_19 (by decide) (fun c9 => absurd (by decide) c9) (fun _ => ?_)
  refine lv_iconst (v := 0) hx hb dX8_nearest_22 (by decide) ?_
  have hP9 : va_P D vwCl [(mo, .inr (8, [.ref ms, .int sv, .ref mb, .int ty, .int 1, .ref mk, .int ml, .ref mfd, .int mf, .int sp, .int on, .int tw])), (ms, .inl (K, 889, .inl sf))] H := hP.sub [1, 0] rfl
  have hD9 : va_D A [(mo, .inr (8, [.ref ms, .int sv, .ref mb, .int ty, .int 1, .ref mk, .int ml, .ref mfd, .int mf, .int sp, .int on, .int tw])), (ms, .inl (K, 889, .inl sf))] := hD.sub [1, 0] (by decide) rfl
  have hK9 : va_K D vwCl [] s := hK.sub [] rfl
  exact W.iret (v := 0) hx hb hr (fun t ht9 hW9 => ⟨⟨0, (), rfl, by first | rfl | trivial | (simp only [if_true, if_false, reduceIte, and_self]; done) | simp_all, ⟨by rw [ht9]; exact hP9, va_K.moved hW9.alike hK9, hD9⟩⟩, hS.F ht9⟩) hS.2.2 dX8_nearest_23
set_option maxHeartbeats 4000000 in
set_option maxRecDepth 100000 in
theorem c_M_least (l : Launch) (D : va_G) (mo : Nat) (ms : Nat) (sv : Int32) (mb : Nat) (ty : Int32) (th : Int32) (mk : Nat) (ml : Int32) (mfd : Nat) (mf : Int32) (sp : Int32) (on : Int32) (tw : Int32) (K : ClassId) (sf : Nat → Int32) (lk : Nat → Int32) (fd : Nat → Int32) (x : ST) (hR : RS x sf) (hbx : bST x) (sz : Nat) : k_Mi (S := Int32 × Int32 × (Nat → Int32) × (Nat → Int32)) l D yX8_leastTolerance cX8_leastTolerance 2 (some .int) 7 0 0 169 [.ref mo] [(mo, .inr (8, [.ref ms, .int sv, .ref mb, .int ty, .int th, .ref mk, .int ml, .ref mfd, .int mf, .int sp, .int on, .int tw])), (ms, .inl (K, 889, .inl sf)), (mk, .inl (K, 41, .inl lk)), (mfd, .inl (K, 9, .inl fd))] [(K, .int)] (fun (r : Int32) (u : Int32 × Int32 × (Nat → Int32) × (Nat → Int32)) => match u with | (ml1, mf1, lk1, fd1) => r = (leaF (s_tn x) (s_tf x))) (fun u => match u with | (ml1, mf1, lk1, fd1) => [(mo, .inr (8, [.ref ms, .int sv, .ref mb, .int ty, .int 0, .ref mk, .int ml1, .ref mfd, .int mf1, .int sp, .int on, .int tw])), (ms, .inl (K, 889, .inl sf)), (mk, .inl (K, 41, .inl lk1)), (mfd, .inl (K, 9, .inl fd1))]) (fun u => match u with | (ml1, mf1, lk1, fd1) => []) sz := by
  refine Met.ofW (cc := cX8_leastTolerance) (maxL := 2) (ret := (some .int)) (by decide) rfl ?_
  intro p e s m args below meth c s₁ B hml hv
  obtain ⟨rfl, hsz, hP, hK, hD0, hG⟩ := hv
  have hx := B.exec
  have hb := B.bytes
  have hr := B.returns
  have ht : ∀ v9 ∈ wsA, v9.before ([.ref mo] : List Value).toArray s = true := fun v9 h9 => atoms_spec (ws := k_ws yX8_leastTolerance cX8_leastTolerance 2 (some .int)) B.pre v9 (List.mem_cons_of_mem _ h9)
  have hown : s.vm.findClass RX8 = some m.cls := findClass_of_methodNamed B.named
  have S0 : k_C p s m ([.ref mo] : List Value).toArray c cX8_leastTolerance 2 RX8 := ⟨hx, hb, hml, hown, ht⟩
  have hlocks := B.notSynchronized
  subst hsz
  have hD := hD0.self (sz := s.heap.size)
  generalize hAe : va_A [(mo, .inr (8, [.ref ms, .int sv, .ref mb, .int ty, .int th, .ref mk, .int ml, .ref mfd, .int mf, .int sp, .int on, .int tw])), (ms, .inl (K, 889, .inl sf)), (mk, .inl (K, 41, .inl lk)), (mfd, .inl (K, 9, .inl fd))] s.heap.size = A at hD hG ⊢
  have hA : ∀ q : Nat, s.heap.size ≤ q → A q := fun q h => by rw [← hAe]; exact Or.inr h
  have hS : va_S A s.heap s.heap [] := va_S.rf
  have hl := lv_entry ([.ref mo]) (n := 2) (Nat.le_of_ble_eq_true rfl)
  rw [lg_entry_eq]
  generalize (lg_sl ([.ref mo]) ++ List.replicate (2 - (lg_sl ([.ref mo])).length) Slot.unset).toArray = ls at hl ⊢
  have hl : lv_has ls 2 [(0, .ref mo)] := hl
  have hP : va_P D vwCl [(mo, .inr (8, [.ref ms, .int sv, .ref mb, .int ty, .int th, .ref mk, .int ml, .ref mfd, .int mf, .int sp, .int on, .int tw])), (ms, .inl (K, 889, .inl sf)), (mk, .inl (K, 41, .inl lk)), (mfd, .inl (K, 9, .inl fd))] s.heap := hP
  have hR9 := hR
  have hlx9 : True := trivial
  obtain ⟨q0, q1, q2, h51, q4, h93, ⟨h94, q7⟩, h125, h126⟩ := hR
  obtain ⟨b1, b2, b3, b4⟩ := bST_le hbx
  have hcf : ∀ j9, j9 < s_tn x → (cpy (fun j9 => sf (52 + j9)) lk (s_tn x)) j9 = s_tf x j9 := fun j9 h9 => (cpy_lt h9).trans (q4 j9 h9)
  refine lv_aload_n hx hb dX8_leastTolerance_0 rfl (lv_at hl 0 rfl) ?_
  refine lv_iconst (v := 0) hx hb dX8_leastTolerance_1 (by decide) ?_
  refine va_put (D := D) (ci := 8) (v := .int 0) (ty := .int) (C := RX8) (T := TX8) (N := 12) hx hb ht inA_X8 tyX8 tyX8_ok nmX8 hown hK hP hD hS 0 rfl rfl 4 (by decide) (ht _ lf_X8_23) (fun _ h9 => h9) rfl (tyX8_ok 4 (by decide)) rfl rfl (Nat.le_of_ble_eq_true rfl) dX8_leastTolerance_2 (fun H locs hP hD hS => ?_)
  have hP : va_P D vwCl [(mo, .inr (8, [.ref ms, .int sv, .ref mb, .int ty, .int 0, .ref mk, .int ml, .ref mfd, .int mf, .int sp, .int on, .int tw])), (ms, .inl (K, 889, .inl sf)), (mk, .inl (K, 41, .inl lk)), (mfd, .inl (K, 9, .inl fd))] H := hP
  have hD : va_D A [(mo, .inr (8, [.ref ms, .int sv, .ref mb, .int ty, .int 0, .ref mk, .int ml, .ref mfd, .int mf, .int sp, .int on, .int tw])), (ms, .inl (K, 889, .inl sf)), (mk, .inl (K, 41, .inl lk)), (mfd, .inl (K, 9, .inl fd))] := hD
  refine lv_aload_n hx hb dX8_leastTolerance_5 rfl (lv_at hl 0 rfl) ?_
  have ct := k_cut_of (wc := [(mo, .inr (8, [.ref ms, .int sv, .ref mb, .int ty, .int 0, .ref mk, .int ml, .ref mfd, .int mf, .int sp, .int on, .int tw])), (ms, .inl (K, 889, .inl sf)), (mk, .inl (K, 41, .inl lk))]) (wr := [(mfd, .inl (K, 9, .inl fd))]) (tc := [(K, .int)]) hG hS hA hK hP hD [0, 1, 2] [3] [0] rfl rfl (by decide) (by decide) (by decide) rfl
  refine k_endv (As := [.ref mo]) ct (k_runV (As := []) (rest := []) S0 Lv_X8_119 rfl (ci := 8) (q0 := 0) rfl rfl ct (c_M_looksM l D mo ms sv mb ty 0 mk ml mfd mf sp on tw K sf lk (s_tn x) (by assumption) (by first | assumption | omega) H.size) hl.1 rfl (Nat.le_of_ble_eq_true rfl) rfl dX8_leastTolerance_6 ⟨⟨Nat.le_of_ble_eq_true rfl, Nat.le_of_ble_eq_true rfl⟩, Nat.le_of_ble_eq_true rfl, Nat.le_of_ble_eq_true rfl⟩) rfl rfl (fun _ _ H locs hw_2 hP hD hK hS => ?_)
  have hK : va_K D vwCl [(K, .int)] s := hK
  have hP : va_P D vwCl [(mfd, .inl (K, 9, .inl fd)), (mo, .inr (8, [.ref ms, .int sv, .ref mb, .int ty, .int 0, .ref mk, .int (nI (s_tn x)), .ref mfd, .int mf, .int sp, .int on, .int tw])), (ms, .inl (K, 889, .inl sf)), (mk, .inl (K, 41, .inl (cpy (fun j9 => sf (52 + j9)) lk (s_tn x))))] H := hP
  have hD : va_D A [(mfd, .inl (K, 9, .inl fd)), (mo, .inr (8, [.ref ms, .int sv, .ref mb, .int ty, .int 0, .ref mk, .int (nI (s_tn x)), .ref mfd, .int mf, .int sp, .int on, .int tw])), (ms, .inl (K, 889, .inl sf)), (mk, .inl (K, 41, .inl (cpy (fun j9 => sf (52 + j9)) lk (s_tn x))))] := hD
  refine lv_iconst (v := 1) hx hb dX8_leastTolerance_9 (by decide) ?_
  refine lv_istore_n (lv' := [(1, .int 1), (0, .ref mo)]) hx hb dX8_leastTolerance_10 rfl hl (by decide) rfl (fun ls hl => ?_)
  have hl : lv_has ls 2 [(1, .int (nI 1)), (0, .ref mo)] := hl
  refine k_loop (ι := Nat × Int32 × (Nat → Int32)) (fun (x9 : Nat × Int32 × (Nat → Int32)) H9 locs9 ls9 => match x9 with | (i, mq, fq) => (1 ≤ i) ∧ (i ≤ 9) ∧ (leaF (s_tn x) (s_tf x) = ltS (s_tn x) (s_tf x) (9 - i) i) ∧ va_P D vwCl [(mo, .inr (8, [.ref ms, .int sv, .ref mb, .int ty, .int 0, .ref mk, .int (nI (s_tn x)), .ref mfd, .int mq, .int sp, .int on, .int tw])), (ms, .inl (K, 889, .inl sf)), (mk, .inl (K, 41, .inl (cpy (fun j9 => sf (52 + j9)) lk (s_tn x)))), (mfd, .inl (K, 9, .inl fq))] H9 ∧ va_D A [(mo, .inr (8, [.ref ms, .int sv, .ref mb, .int ty, .int 0, .ref mk, .int (nI (s_tn x)), .ref mfd, .int mq, .int sp, .int on, .int tw])), (ms, .inl (K, 889, .inl sf)), (mk, .inl (K, 41, .inl (cpy (fun j9 => sf (52 + j9)) lk (s_tn x)))), (mfd, .inl (K, 9, .inl fq))] ∧ va_S A s.heap H9 locs9 ∧ lv_has ls9 2 [(1, .int (nI i)), (0, .ref mo)]) (fun (x9 : Nat × Int32 × (Nat → Int32)) => match x9 with | (i, mq, fq) => 9 - i) ?_ ((1, mf, fd)) ⟨(by decide), (by decide), rfl, hP.sub [1, 2, 3, 0] rfl, hD.sub [1, 2, 3, 0] (by decide) rfl, hS, lv_sub hl [0, 1] rfl⟩
  intro x9 H locs ls hF9 ih9
  obtain ⟨i, mq, fq⟩ := x9
  obtain ⟨hi1, hi9, hlt, hP, hD, hS, hl⟩ := hF9
  try dsimp only at ih9
  have hP : va_P D vwCl [(mo, .inr (8, [.ref ms, .int sv, .ref mb, .int ty, .int 0, .ref mk, .int (nI (s_tn x)), .ref mfd, .int mq, .int sp, .int on, .int tw])), (ms, .inl (K, 889, .inl sf)), (mk, .inl (K, 41, .inl (cpy (fun j9 => sf (52 + j9)) lk (s_tn x)))), (mfd, .inl (K, 9, .inl fq))] H := hP
  have hD : va_D A [(mo, .inr (8, [.ref ms, .int sv, .ref mb, .int ty, .int 0, .ref mk, .int (nI (s_tn x)), .ref mfd, .int mq, .int sp, .int on, .int tw])), (ms, .inl (K, 889, .inl sf)), (mk, .inl (K, 41, .inl (cpy (fun j9 => sf (52 + j9)) lk (s_tn x)))), (mfd, .inl (K, 9, .inl fq))] := hD
  have hl : lv_has ls 2 [(1, .int (nI i)), (0, .ref mo)] := hl
  refine lv_iload_n hx hb dX8_leastTolerance_11 rfl (lv_at hl 0 rfl) ?_
  refine lv_bipush (v := 8) hx hb dX8_leastTolerance_12 (by decide) ?_
  refine lv_icmp_gt (tgt := 33) hx hb dX8_leastTolerance_14 (by decide) (fun c_3 => ?_) (fun c_3 => ?_)
  · have hc9 := c_3
    refine lv_iconst (v := (-1)) hx hb dX8_leastTolerance_33 (by decide) ?_
    have hP9 : va_P D vwCl [(mo, .inr (8, [.ref ms, .int sv, .ref mb, .int ty, .int 0, .ref mk, .int (nI (s_tn x)), .ref mfd, .int mq, .int sp, .int on, .int tw])), (ms, .inl (K, 889, .inl sf)), (mk, .inl (K, 41, .inl (cpy (fun j9 => sf (52 + j9)) lk (s_tn x)))), (mfd, .inl (K, 9, .inl fq))] H := hP.sub [0, 1, 2, 3] rfl
    have hD9 : va_D A [(mo, .inr (8, [.ref ms, .int sv, .ref mb, .int ty, .int 0, .ref mk, .int (nI (s_tn x)), .ref mfd, .int mq, .int sp, .int on, .int tw])), (ms, .inl (K, 889, .inl sf)), (mk, .inl (K, 41, .inl (cpy (fun j9 => sf (52 + j9)) lk (s_tn x)))), (mfd, .inl (K, 9, .inl fq))] := hD.sub [0, 1, 2, 3] (by decide) rfl
    have hK9 : va_K D vwCl [] s := hK.sub [] rfl
    exact W.iret (v := (-1)) hx hb hr (fun t ht9 hW9 => ⟨⟨(-1), ((nI (s_tn x)), mq, (cpy (fun j9 => sf (52 + j9)) lk (s_tn x)), fq), rfl, by (rw [hlt, show i = 9 from by rcases Nat.lt_or_ge i 9 with q9 | q9; exact absurd c_3 (Int32.not_lt.mpr (nI_le (b := 8) (by omega) (by decide))); omega]; rfl), ⟨by rw [ht9]; exact hP9, va_K.moved hW9.alike hK9, hD9⟩⟩, hS.F ht9⟩) hS.2.2 dX8_leastTolerance_34
  · have hc9 := c_3
    have hi8 : i ≤ 8 := by rcases Nat.lt_or_ge 8 i with q9 | q9; exact absurd (nI_lt (a := 8) q9 (by omega)) c_3; exact q9
    refine lv_aload_n hx hb dX8_leastTolerance_17 rfl (lv_at hl 1 rfl) ?_
    refine lv_iload_n hx hb dX8_leastTolerance_18 rfl (lv_at hl 0 rfl) ?_
    have ct := k_cut_of (wc := [(mo, .inr (8, [.ref ms, .int sv, .ref mb, .int ty, .int 0, .ref mk, .int (nI (s_tn x)), .ref mfd, .int mq, .int sp, .int on, .int tw])), (mk, .inl (K, 41, .inl (cpy (fun j9 => sf (52 + j9)) lk (s_tn x)))), (mfd, .inl (K, 9, .inl fq))]) (wr := [(ms, .inl (K, 889, .inl sf))]) (tc := [(K, .int)]) hG hS hA hK hP hD [0, 2, 3] [1] [0] rfl rfl (by decide) (by decide) (by decide) rfl
    refine k_endi (As := [.ref mo, .int (nI i)]) ct (k_runV (As := [.int (nI i)]) (rest := []) S0 Lv_X8_122 rfl (ci := 8) (q0 := 0) rfl rfl ct (c_M_reads l D mo ms sv mb ty 0 mk (s_tn x) mfd mq sp on tw K (cpy (fun j9 => sf (52 + j9)) lk (s_tn x)) fq (nI i) (by first | assumption | omega) H.size) hl.1 rfl (Nat.le_of_ble_eq_true rfl) rfl dX8_leastTolerance_19 ⟨⟨Nat.le_of_ble_eq_true rfl, Nat.le_of_ble_eq_true rfl⟩, Nat.le_of_ble_eq_true rfl, Nat.le_of_ble_eq_true rfl⟩) rfl rfl (fun r_4 u H locs hw_7 hP hD hK hS => ?_)
    obtain ⟨mf1v_5, fd1v_6⟩ := u
    have hK : va_K D vwCl [(K, .int)] s := hK
    have hP : va_P D vwCl [(ms, .inl (K, 889, .inl sf)), (mo, .inr (8, [.ref ms, .int sv, .ref mb, .int ty, .int 0, .ref mk, .int (nI (s_tn x)), .ref mfd, .int mf1v_5, .int sp, .int on, .int tw])), (mk, .inl (K, 41, .inl (cpy (fun j9 => sf (52 + j9)) lk (s_tn x)))), (mfd, .inl (K, 9, .inl fd1v_6))] H := hP
    have hD : va_D A [(ms, .inl (K, 889, .inl sf)), (mo, .inr (8, [.ref ms, .int sv, .ref mb, .int ty, .int 0, .ref mk, .int (nI (s_tn x)), .ref mfd, .int mf1v_5, .int sp, .int on, .int tw])), (mk, .inl (K, 41, .inl (cpy (fun j9 => sf (52 + j9)) lk (s_tn x)))), (mfd, .inl (K, 9, .inl fd1v_6))] := hD
    have hw_7 : r_4 = resF (s_tn x) (cpy (fun j9 => sf (52 + j9)) lk (s_tn x)) (nI i) ∧ RFD (s_tn x) (cpy (fun j9 => sf (52 + j9)) lk (s_tn x)) r_4 mf1v_5 fd1v_6 := hw_7
    refine lv_if_gt (tgt := 27) hx hb dX8_leastTolerance_22 (by decide) (fun c_8 => ?_) (fun c_8 => ?_)
    · have hc9 := c_8
      obtain ⟨x_9, ex_9⟩ : ∃ z : Int32, z = (nI i) + 1 := ⟨_, rfl⟩
      refine lv_iinc (v := x_9) (lv' := [(1, .int x_9), (0, .ref mo)]) hx hb dX8_leastTolerance_27 hl (k := 0) rfl (by rw [ex_9]; rfl) (by decide) rfl (fun ls hl => ?_)
      refine lv_goto (tgt := 11) hx hb dX8_leastTolerance_30 (by decide) ?_
      have he9 : x_9 = (nI (i + 1)) := by rw [ex_9]; exact nI_1 i
      rw [he9] at hl
      have hl : lv_has ls 2 [(1, .int (nI (i + 1))), (0, .ref mo)] := hl
      exact ih9 ((i + 1, mf1v_5, fd1v_6)) H locs ls (by omega) ⟨(by omega), (by omega), (by rw [hlt, ltS_s hi1 hi8 ((lea_s hcf b3 hw_7.1).2 (Int32.not_le.mpr c_8))]), hP.sub [1, 0, 2, 3] rfl, hD.sub [1, 0, 2, 3] (by decide) rfl, hS, lv_sub hl [0, 1] rfl⟩
    · have hc9 := c_8
      refine lv_iload_n hx hb dX8_leastTolerance_25 rfl (lv_at hl 0 rfl) ?_
      have hP9 : va_P D vwCl [(mo, .inr (8, [.ref ms, .int sv, .ref mb, .int ty, .int 0, .ref mk, .int (nI (s_tn x)), .ref mfd, .int mf1v_5, .int sp, .int on, .int tw])), (ms, .inl (K, 889, .inl sf)), (mk, .inl (K, 41, .inl (cpy (fun j9 => sf (52 + j9)) lk (s_tn x)))), (mfd, .inl (K, 9, .inl fd1v_6))] H := hP.sub [1, 0, 2, 3] rfl
      have hD9 : va_D A [(mo, .inr (8, [.ref ms, .int sv, .ref mb, .int ty, .int 0, .ref mk, .int (nI (s_tn x)), .ref mfd, .int mf1v_5, .int sp, .int on, .int tw])), (ms, .inl (K, 889, .inl sf)), (mk, .inl (K, 41, .inl (cpy (fun j9 => sf (52 + j9)) lk (s_tn x)))), (mfd, .inl (K, 9, .inl fd1v_6))] := hD.sub [1, 0, 2, 3] (by decide) rfl
      have hK9 : va_K D vwCl [] s := hK.sub [] rfl
      exact W.iret (v := (nI i)) hx hb hr (fun t ht9 hW9 => ⟨⟨(nI i), ((nI (s_tn x)), mf1v_5, (cpy (fun j9 => sf (52 + j9)) lk (s_tn x)), fd1v_6), rfl, by (rw [hlt, ltS_e hi1 hi8 ((lea_s hcf b3 hw_7.1).1 (fa_of_nlt c_8))]), ⟨by rw [ht9]; exact hP9, va_K.moved hW9.alike hK9, hD9⟩⟩, hS.F ht9⟩) hS.2.2 dX8_leastTolerance_26

