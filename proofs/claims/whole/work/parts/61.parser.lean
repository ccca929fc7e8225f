theorem lf_X1_11 : Cond.fieldLink RX1 11 "BarcodeWand$CommandParser" "part" "I" ∈ wsA := mA 181 rfl rfl
theorem lf_X1_29 : Cond.fieldLink RX1 29 "BarcodeWand$CommandParser" "kind" "I" ∈ wsA := mA 173 rfl rfl
theorem lf_X1_35 : Cond.fieldLink RX1 35 "BarcodeWand$CommandParser" "isNegative" "Z" ∈ wsA := mA 182 rfl rfl
theorem lf_X1_32 : Cond.fieldLink RX1 32 "BarcodeWand$CommandParser" "numberLength" "I" ∈ wsA := mA 179 rfl rfl
set_option maxRecDepth 20000 in
theorem lk_X1_leastNumber : Cond.code yX1_leastNumber cX1_leastNumber 1 (some .int) ∈ wsA := mA 426 rfl rfl
theorem ly_X1_leastNumber : k_y yX1_leastNumber 0 := ⟨by decide +kernel, by decide +kernel, by decide +kernel⟩
set_option maxRecDepth 20000 in
theorem lm_X1_leastNumber : Cond.instanceMethod yX1_leastNumber ∈ wsA := mA 425 rfl rfl
theorem le_X1_leastNumber : Cond.selects (yX1_leastNumber).cls yX1_leastNumber yX1_leastNumber ∈ wsA := mS 12 rfl rfl
set_option maxRecDepth 20000 in
theorem Lv_X1_53 : k_LV RX1 53 yX1_leastNumber cX1_leastNumber 1 (some .int) 0 := ⟨mA 423 rfl rfl, lm_X1_leastNumber, le_X1_leastNumber, li_BarcodeWand_CommandParser, lk_X1_leastNumber, ly_X1_leastNumber⟩
set_option maxRecDepth 20000 in
theorem lk_X1_greatestNumber : Cond.code yX1_greatestNumber cX1_greatestNumber 1 (some .int) ∈ wsA := mA 430 rfl rfl
theorem ly_X1_greatestNumber : k_y yX1_greatestNumber 0 := ⟨by decide +kernel, by decide +kernel, by decide +kernel⟩
set_option maxRecDepth 20000 in
theorem lm_X1_greatestNumber : Cond.instanceMethod yX1_greatestNumber ∈ wsA := mA 429 rfl rfl
theorem le_X1_greatestNumber : Cond.selects (yX1_greatestNumber).cls yX1_greatestNumber yX1_greatestNumber ∈ wsA := mS 13 rfl rfl
set_option maxRecDepth 20000 in
theorem Lv_X1_57 : k_LV RX1 57 yX1_greatestNumber cX1_greatestNumber 1 (some .int) 0 := ⟨mA 427 rfl rfl, lm_X1_greatestNumber, le_X1_greatestNumber, li_BarcodeWand_CommandParser, lk_X1_greatestNumber, ly_X1_greatestNumber⟩
theorem lf_X1_39 : Cond.fieldLink RX1 39 "BarcodeWand$CommandParser" "second" "I" ∈ wsA := mA 177 rfl rfl
theorem lf_X1_42 : Cond.fieldLink RX1 42 "BarcodeWand$CommandParser" "first" "I" ∈ wsA := mA 175 rfl rfl
set_option maxRecDepth 20000 in
theorem lk_X1_startNumber : Cond.code yX1_startNumber cX1_startNumber 2 none ∈ wsA := mA 414 rfl rfl
theorem ly_X1_startNumber : k_y yX1_startNumber 1 := ⟨by decide +kernel, by decide +kernel, by decide +kernel⟩
set_option maxRecDepth 20000 in
theorem lm_X1_startNumber : Cond.instanceMethod yX1_startNumber ∈ wsA := mA 413 rfl rfl
theorem le_X1_startNumber : Cond.selects (yX1_startNumber).cls yX1_startNumber yX1_startNumber ∈ wsA := mS 9 rfl rfl
set_option maxRecDepth 20000 in
theorem Lv_X1_45 : k_LV RX1 45 yX1_startNumber cX1_startNumber 2 none 1 := ⟨mA 411 rfl rfl, lm_X1_startNumber, le_X1_startNumber, li_BarcodeWand_CommandParser, lk_X1_startNumber, ly_X1_startNumber⟩
set_option maxRecDepth 20000 in
theorem lk_X1_isAllowed : Cond.code yX1_isAllowed cX1_isAllowed 4 (some .boolean) ∈ wsA := mA 422 rfl rfl
theorem ly_X1_isAllowed : k_y yX1_isAllowed 2 := ⟨by decide +kernel, by decide +kernel, by decide +kernel⟩
set_option maxRecDepth 20000 in
theorem lm_X1_isAllowed : Cond.instanceMethod yX1_isAllowed ∈ wsA := mA 421 rfl rfl
theorem le_X1_isAllowed : Cond.selects (yX1_isAllowed).cls yX1_isAllowed yX1_isAllowed ∈ wsA := mS 11 rfl rfl
set_option maxRecDepth 20000 in
theorem Lv_X1_49 : k_LV RX1 49 yX1_isAllowed cX1_isAllowed 4 (some .boolean) 2 := ⟨mA 419 rfl rfl, lm_X1_isAllowed, le_X1_isAllowed, li_BarcodeWand_CommandParser, lk_X1_isAllowed, ly_X1_isAllowed⟩
set_option maxRecDepth 20000 in
theorem lk_X1_isAtEndOfCommand : Cond.code yX1_isAtEndOfCommand cX1_isAtEndOfCommand 2 (some .boolean) ∈ wsA := mA 442 rfl rfl
theorem ly_X1_isAtEndOfCommand : k_y yX1_isAtEndOfCommand 0 := ⟨by decide +kernel, by decide +kernel, by decide +kernel⟩
set_option maxRecDepth 20000 in
theorem lm_X1_isAtEndOfCommand : Cond.instanceMethod yX1_isAtEndOfCommand ∈ wsA := mA 440 rfl rfl
set_option maxRecDepth 20000 in
theorem le_X1_isAtEndOfCommand : Cond.selects (yX1_isAtEndOfCommand).cls yX1_isAtEndOfCommand yX1_isAtEndOfCommand ∈ wsA := mA 441 rfl rfl
set_option maxRecDepth 20000 in
theorem Lv_X1_60 : k_LV RX1 60 yX1_isAtEndOfCommand cX1_isAtEndOfCommand 2 (some .boolean) 0 := ⟨mA 439 rfl rfl, lm_X1_isAtEndOfCommand, le_X1_isAtEndOfCommand, li_BarcodeWand_CommandParser, lk_X1_isAtEndOfCommand, ly_X1_isAtEndOfCommand⟩
set_option maxRecDepth 20000 in
theorem lk_X1_acceptSeparator : Cond.code yX1_acceptSeparator cX1_acceptSeparator 2 (some .boolean) ∈ wsA := mA 438 rfl rfl
theorem ly_X1_acceptSeparator : k_y yX1_acceptSeparator 1 := ⟨by decide +kernel, by decide +kernel, by decide +kernel⟩
set_option maxRecDepth 20000 in
theorem lm_X1_acceptSeparator : Cond.instanceMethod yX1_acceptSeparator ∈ wsA := mA 437 rfl rfl
theorem le_X1_acceptSeparator : Cond.selects (yX1_acceptSeparator).cls yX1_acceptSeparator yX1_acceptSeparator ∈ wsA := mS 15 rfl rfl
set_option maxRecDepth 20000 in
theorem Lv_X1_26 : k_LV RX1 26 yX1_acceptSeparator cX1_acceptSeparator 2 (some .boolean) 1 := ⟨mA 435 rfl rfl, lm_X1_acceptSeparator, le_X1_acceptSeparator, li_BarcodeWand_CommandParser, lk_X1_acceptSeparator, ly_X1_acceptSeparator⟩
set_option maxRecDepth 20000 in
theorem lk_X1_acceptMinus : Cond.code yX1_acceptMinus cX1_acceptMinus 2 (some .boolean) ∈ wsA := mA 434 rfl rfl
theorem ly_X1_acceptMinus : k_y yX1_acceptMinus 0 := ⟨by decide +kernel, by decide +kernel, by decide +kernel⟩
set_option maxRecDepth 20000 in
theorem lm_X1_acceptMinus : Cond.instanceMethod yX1_acceptMinus ∈ wsA := mA 433 rfl rfl
theorem le_X1_acceptMinus : Cond.selects (yX1_acceptMinus).cls yX1_acceptMinus yX1_acceptMinus ∈ wsA := mS 14 rfl rfl
set_option maxRecDepth 20000 in
theorem Lv_X1_22 : k_LV RX1 22 yX1_acceptMinus cX1_acceptMinus 2 (some .boolean) 0 := ⟨mA 431 rfl rfl, lm_X1_acceptMinus, le_X1_acceptMinus, li_BarcodeWand_CommandParser, lk_X1_acceptMinus, ly_X1_acceptMinus⟩
set_option maxRecDepth 20000 in
theorem lk_X1_acceptDigit : Cond.code yX1_acceptDigit cX1_acceptDigit 3 (some .boolean) ∈ wsA := mA 418 rfl rfl
theorem ly_X1_acceptDigit : k_y yX1_acceptDigit 1 := ⟨by decide +kernel, by decide +kernel, by decide +kernel⟩
set_option maxRecDepth 20000 in
theorem lm_X1_acceptDigit : Cond.instanceMethod yX1_acceptDigit ∈ wsA := mA 417 rfl rfl
theorem le_X1_acceptDigit : Cond.selects (yX1_acceptDigit).cls yX1_acceptDigit yX1_acceptDigit ∈ wsA := mS 10 rfl rfl
set_option maxRecDepth 20000 in
theorem Lv_X1_19 : k_LV RX1 19 yX1_acceptDigit cX1_acceptDigit 3 (some .boolean) 1 := ⟨mA 415 rfl rfl, lm_X1_acceptDigit, le_X1_acceptDigit, li_BarcodeWand_CommandParser, lk_X1_acceptDigit, ly_X1_acceptDigit⟩
set_option maxRecDepth 20000 in
theorem lk_X1_acceptKind : Cond.code yX1_acceptKind cX1_acceptKind 2 (some .boolean) ∈ wsA := mA 410 rfl rfl
theorem ly_X1_acceptKind : k_y yX1_acceptKind 1 := ⟨by decide +kernel, by decide +kernel, by decide +kernel⟩
set_option maxRecDepth 20000 in
theorem lm_X1_acceptKind : Cond.instanceMethod yX1_acceptKind ∈ wsA := mA 409 rfl rfl
theorem le_X1_acceptKind : Cond.selects (yX1_acceptKind).cls yX1_acceptKind yX1_acceptKind ∈ wsA := mS 8 rfl rfl
set_option maxRecDepth 20000 in
theorem Lv_X1_15 : k_LV RX1 15 yX1_acceptKind cX1_acceptKind 2 (some .boolean) 1 := ⟨mA 407 rfl rfl, lm_X1_acceptKind, le_X1_acceptKind, li_BarcodeWand_CommandParser, lk_X1_acceptKind, ly_X1_acceptKind⟩
theorem dX1_restart_0 : decode cX1_restart 0 = .ok (.aload_n 0, 1) := by decide +kernel
theorem dX1_restart_1 : decode cX1_restart 1 = .ok (.iconst 0, 1) := by decide +kernel
theorem dX1_restart_2 : decode cX1_restart 2 = .ok (.putfield 11, 3) := by decide +kernel
theorem dX1_restart_5 : decode cX1_restart 5 = .ok (.return_, 1) := by decide +kernel
theorem dX1_leastNumber_0 : decode cX1_leastNumber 0 = .ok (.aload_n 0, 1) := by decide +kernel
theorem dX1_leastNumber_1 : decode cX1_leastNumber 1 = .ok (.getfield 29, 3) := by decide +kernel
theorem dX1_leastNumber_4 : decode cX1_leastNumber 4 = .ok (.bipush 115, 2) := by decide +kernel
theorem dX1_leastNumber_6 : decode cX1_leastNumber 6 = .ok (.if_icmp .ne 14, 3) := by decide +kernel
theorem dX1_leastNumber_9 : decode cX1_leastNumber 9 = .ok (.aload_n 0, 1) := by decide +kernel
theorem dX1_leastNumber_10 : decode cX1_leastNumber 10 = .ok (.getfield 35, 3) := by decide +kernel
theorem dX1_leastNumber_13 : decode cX1_leastNumber 13 = .ok (.ifCond .ne 7, 3) := by decide +kernel
theorem dX1_leastNumber_16 : decode cX1_leastNumber 16 = .ok (.iconst 0, 1) := by decide +kernel
theorem dX1_leastNumber_17 : decode cX1_leastNumber 17 = .ok (.goto 4, 3) := by decide +kernel
theorem dX1_leastNumber_20 : decode cX1_leastNumber 20 = .ok (.iconst 1, 1) := by decide +kernel
theorem dX1_leastNumber_21 : decode cX1_leastNumber 21 = .ok (.ireturn, 1) := by decide +kernel
theorem dX1_greatestNumber_0 : decode cX1_greatestNumber 0 = .ok (.aload_n 0, 1) := by decide +kernel
theorem dX1_greatestNumber_1 : decode cX1_greatestNumber 1 = .ok (.getfield 29, 3) := by decide +kernel
theorem dX1_greatestNumber_4 : decode cX1_greatestNumber 4 = .ok (.bipush 115, 2) := by decide +kernel
theorem dX1_greatestNumber_6 : decode cX1_greatestNumber 6 = .ok (.if_icmp .eq 6, 3) := by decide +kernel
theorem dX1_greatestNumber_9 : decode cX1_greatestNumber 9 = .ok (.bipush 50, 2) := by decide +kernel
theorem dX1_greatestNumber_11 : decode cX1_greatestNumber 11 = .ok (.ireturn, 1) := by decide +kernel
theorem dX1_greatestNumber_12 : decode cX1_greatestNumber 12 = .ok (.aload_n 0, 1) := by decide +kernel
theorem dX1_greatestNumber_13 : decode cX1_greatestNumber 13 = .ok (.getfield 11, 3) := by decide +kernel
theorem dX1_greatestNumber_16 : decode cX1_greatestNumber 16 = .ok (.iconst 1, 1) := by decide +kernel
theorem dX1_greatestNumber_17 : decode cX1_greatestNumber 17 = .ok (.if_icmp .ne 8, 3) := by decide +kernel
theorem dX1_greatestNumber_20 : decode cX1_greatestNumber 20 = .ok (.bipush 40, 2) := by decide +kernel
theorem dX1_greatestNumber_22 : decode cX1_greatestNumber 22 = .ok (.goto 5, 3) := by decide +kernel
theorem dX1_greatestNumber_25 : decode cX1_greatestNumber 25 = .ok (.bipush 9, 2) := by decide +kernel
theorem dX1_greatestNumber_27 : decode cX1_greatestNumber 27 = .ok (.ireturn, 1) := by decide +kernel
theorem dX1_isAllowed_0 : decode cX1_isAllowed 0 = .ok (.aload_n 0, 1) := by decide +kernel
theorem dX1_isAllowed_1 : decode cX1_isAllowed 1 = .ok (.getfield 29, 3) := by decide +kernel
theorem dX1_isAllowed_4 : decode cX1_isAllowed 4 = .ok (.bipush 112, 2) := by decide +kernel
theorem dX1_isAllowed_6 : decode cX1_isAllowed 6 = .ok (.if_icmp .ne 18, 3) := by decide +kernel
theorem dX1_isAllowed_9 : decode cX1_isAllowed 9 = .ok (.aload_n 0, 1) := by decide +kernel
theorem dX1_isAllowed_10 : decode cX1_isAllowed 10 = .ok (.getfield 32, 3) := by decide +kernel
theorem dX1_isAllowed_13 : decode cX1_isAllowed 13 = .ok (.bipush 8, 2) := by decide +kernel
theorem dX1_isAllowed_15 : decode cX1_isAllowed 15 = .ok (.if_icmp .ge 7, 3) := by decide +kernel
theorem dX1_isAllowed_18 : decode cX1_isAllowed 18 = .ok (.iconst 1, 1) := by decide +kernel
theorem dX1_isAllowed_19 : decode cX1_isAllowed 19 = .ok (.goto 4, 3) := by decide +kernel
theorem dX1_isAllowed_22 : decode cX1_isAllowed 22 = .ok (.iconst 0, 1) := by decide +kernel
theorem dX1_isAllowed_23 : decode cX1_isAllowed 23 = .ok (.ireturn, 1) := by decide +kernel
theorem dX1_isAllowed_24 : decode cX1_isAllowed 24 = .ok (.aload_n 0, 1) := by decide +kernel
theorem dX1_isAllowed_25 : decode cX1_isAllowed 25 = .ok (.getfield 32, 3) := by decide +kernel
theorem dX1_isAllowed_28 : decode cX1_isAllowed 28 = .ok (.ifCond .le 12, 3) := by decide +kernel
theorem dX1_isAllowed_31 : decode cX1_isAllowed 31 = .ok (.iload_n 1, 1) := by decide +kernel
theorem dX1_isAllowed_32 : decode cX1_isAllowed 32 = .ok (.iload_n 2, 1) := by decide +kernel
theorem dX1_isAllowed_33 : decode cX1_isAllowed 33 = .ok (.if_icmp .ne 7, 3) := by decide +kernel
theorem dX1_isAllowed_36 : decode cX1_isAllowed 36 = .ok (.iconst 1, 1) := by decide +kernel
theorem dX1_isAllowed_37 : decode cX1_isAllowed 37 = .ok (.goto 4, 3) := by decide +kernel
theorem dX1_isAllowed_40 : decode cX1_isAllowed 40 = .ok (.iconst 0, 1) := by decide +kernel
theorem dX1_isAllowed_41 : decode cX1_isAllowed 41 = .ok (.istore_n 3, 1) := by decide +kernel
theorem dX1_isAllowed_42 : decode cX1_isAllowed 42 = .ok (.iload_n 3, 1) := by decide +kernel
theorem dX1_isAllowed_43 : decode cX1_isAllowed 43 = .ok (.ifCond .ne 23, 3) := by decide +kernel
theorem dX1_isAllowed_46 : decode cX1_isAllowed 46 = .ok (.iload_n 1, 1) := by decide +kernel
theorem dX1_isAllowed_47 : decode cX1_isAllowed 47 = .ok (.aload_n 0, 1) := by decide +kernel
theorem dX1_isAllowed_48 : decode cX1_isAllowed 48 = .ok (.invokevirtual 53, 3) := by decide +kernel
theorem dX1_isAllowed_51 : decode cX1_isAllowed 51 = .ok (.if_icmp .lt 15, 3) := by decide +kernel
theorem dX1_isAllowed_54 : decode cX1_isAllowed 54 = .ok (.iload_n 1, 1) := by decide +kernel
theorem dX1_isAllowed_55 : decode cX1_isAllowed 55 = .ok (.aload_n 0, 1) := by decide +kernel
theorem dX1_isAllowed_56 : decode cX1_isAllowed 56 = .ok (.invokevirtual 57, 3) := by decide +kernel
theorem dX1_isAllowed_59 : decode cX1_isAllowed 59 = .ok (.if_icmp .gt 7, 3) := by decide +kernel
theorem dX1_isAllowed_62 : decode cX1_isAllowed 62 = .ok (.iconst 1, 1) := by decide +kernel
theorem dX1_isAllowed_63 : decode cX1_isAllowed 63 = .ok (.goto 4, 3) := by decide +kernel
theorem dX1_isAllowed_66 : decode cX1_isAllowed 66 = .ok (.iconst 0, 1) := by decide +kernel
theorem dX1_isAllowed_67 : decode cX1_isAllowed 67 = .ok (.ireturn, 1) := by decide +kernel
theorem dX1_isAtEndOfCommand_0 : decode cX1_isAtEndOfCommand 0 = .ok (.aload_n 0, 1) := by decide +kernel
theorem dX1_isAtEndOfCommand_1 : decode cX1_isAtEndOfCommand 1 = .ok (.getfield 11, 3) := by decide +kernel
theorem dX1_isAtEndOfCommand_4 : decode cX1_isAtEndOfCommand 4 = .ok (.iconst 2, 1) := by decide +kernel
theorem dX1_isAtEndOfCommand_5 : decode cX1_isAtEndOfCommand 5 = .ok (.if_icmp .eq 20, 3) := by decide +kernel
theorem dX1_isAtEndOfCommand_8 : decode cX1_isAtEndOfCommand 8 = .ok (.aload_n 0, 1) := by decide +kernel
theorem dX1_isAtEndOfCommand_9 : decode cX1_isAtEndOfCommand 9 = .ok (.getfield 11, 3) := by decide +kernel
theorem dX1_isAtEndOfCommand_12 : decode cX1_isAtEndOfCommand 12 = .ok (.iconst 1, 1) := by decide +kernel
theorem dX1_isAtEndOfCommand_13 : decode cX1_isAtEndOfCommand 13 = .ok (.if_icmp .ne 16, 3) := by decide +kernel
theorem dX1_isAtEndOfCommand_16 : decode cX1_isAtEndOfCommand 16 = .ok (.aload_n 0, 1) := by decide +kernel
theorem dX1_isAtEndOfCommand_17 : decode cX1_isAtEndOfCommand 17 = .ok (.getfield 29, 3) := by decide +kernel
theorem dX1_isAtEndOfCommand_20 : decode cX1_isAtEndOfCommand 20 = .ok (.bipush 112, 2) := by decide +kernel
theorem dX1_isAtEndOfCommand_22 : decode cX1_isAtEndOfCommand 22 = .ok (.if_icmp .ne 7, 3) := by decide +kernel
theorem dX1_isAtEndOfCommand_25 : decode cX1_isAtEndOfCommand 25 = .ok (.iconst 1, 1) := by decide +kernel
theorem dX1_isAtEndOfCommand_26 : decode cX1_isAtEndOfCommand 26 = .ok (.goto 4, 3) := by decide +kernel
theorem dX1_isAtEndOfCommand_29 : decode cX1_isAtEndOfCommand 29 = .ok (.iconst 0, 1) := by decide +kernel
theorem dX1_isAtEndOfCommand_30 : decode cX1_isAtEndOfCommand 30 = .ok (.istore_n 1, 1) := by decide +kernel
theorem dX1_isAtEndOfCommand_31 : decode cX1_isAtEndOfCommand 31 = .ok (.iload_n 1, 1) := by decide +kernel
theorem dX1_isAtEndOfCommand_32 : decode cX1_isAtEndOfCommand 32 = .ok (.ifCond .eq 14, 3) := by decide +kernel
theorem dX1_isAtEndOfCommand_35 : decode cX1_isAtEndOfCommand 35 = .ok (.aload_n 0, 1) := by decide +kernel
theorem dX1_isAtEndOfCommand_36 : decode cX1_isAtEndOfCommand 36 = .ok (.getfield 32, 3) := by decide +kernel
theorem dX1_isAtEndOfCommand_39 : decode cX1_isAtEndOfCommand 39 = .ok (.ifCond .le 7, 3) := by decide +kernel
theorem dX1_isAtEndOfCommand_42 : decode cX1_isAtEndOfCommand 42 = .ok (.iconst 1, 1) := by decide +kernel
theorem dX1_isAtEndOfCommand_43 : decode cX1_isAtEndOfCommand 43 = .ok (.goto 4, 3) := by decide +kernel
theorem dX1_isAtEndOfCommand_46 : decode cX1_isAtEndOfCommand 46 = .ok (.iconst 0, 1) := by decide +kernel
theorem dX1_isAtEndOfCommand_47 : decode cX1_isAtEndOfCommand 47 = .ok (.ireturn, 1) := by decide +kernel
theorem dX1_signedSecond_0 : decode cX1_signedSecond 0 = .ok (.aload_n 0, 1) := by decide +kernel
theorem dX1_signedSecond_1 : decode cX1_signedSecond 1 = .ok (.getfield 35, 3) := by decide +kernel
theorem dX1_signedSecond_4 : decode cX1_signedSecond 4 = .ok (.ifCond .eq 11, 3) := by decide +kernel
theorem dX1_signedSecond_7 : decode cX1_signedSecond 7 = .ok (.aload_n 0, 1) := by decide +kernel
theorem dX1_signedSecond_8 : decode cX1_signedSecond 8 = .ok (.getfield 39, 3) := by decide +kernel
theorem dX1_signedSecond_11 : decode cX1_signedSecond 11 = .ok (.ineg, 1) := by decide +kernel
theorem dX1_signedSecond_12 : decode cX1_signedSecond 12 = .ok (.goto 7, 3) := by decide +kernel
theorem dX1_signedSecond_15 : decode cX1_signedSecond 15 = .ok (.aload_n 0, 1) := by decide +kernel
theorem dX1_signedSecond_16 : decode cX1_signedSecond 16 = .ok (.getfield 39, 3) := by decide +kernel
theorem dX1_signedSecond_19 : decode cX1_signedSecond 19 = .ok (.ireturn, 1) := by decide +kernel
theorem dX1_startNumber_0 : decode cX1_startNumber 0 = .ok (.aload_n 0, 1) := by decide +kernel
theorem dX1_startNumber_1 : decode cX1_startNumber 1 = .ok (.iload_n 1, 1) := by decide +kernel
theorem dX1_startNumber_2 : decode cX1_startNumber 2 = .ok (.putfield 11, 3) := by decide +kernel
theorem dX1_startNumber_5 : decode cX1_startNumber 5 = .ok (.aload_n 0, 1) := by decide +kernel
theorem dX1_startNumber_6 : decode cX1_startNumber 6 = .ok (.iconst 0, 1) := by decide +kernel
theorem dX1_startNumber_7 : decode cX1_startNumber 7 = .ok (.putfield 39, 3) := by decide +kernel
theorem dX1_startNumber_10 : decode cX1_startNumber 10 = .ok (.aload_n 0, 1) := by decide +kernel
theorem dX1_startNumber_11 : decode cX1_startNumber 11 = .ok (.iconst 0, 1) := by decide +kernel
theorem dX1_startNumber_12 : decode cX1_startNumber 12 = .ok (.putfield 32, 3) := by decide +kernel
theorem dX1_startNumber_15 : decode cX1_startNumber 15 = .ok (.aload_n 0, 1) := by decide +kernel
theorem dX1_startNumber_16 : decode cX1_startNumber 16 = .ok (.iconst 0, 1) := by decide +kernel
theorem dX1_startNumber_17 : decode cX1_startNumber 17 = .ok (.putfield 35, 3) := by decide +kernel
theorem dX1_startNumber_20 : decode cX1_startNumber 20 = .ok (.return_, 1) := by decide +kernel
theorem dX1_acceptKind_0 : decode cX1_acceptKind 0 = .ok (.iload_n 1, 1) := by decide +kernel
theorem dX1_acceptKind_1 : decode cX1_acceptKind 1 = .ok (.bipush 112, 2) := by decide +kernel
theorem dX1_acceptKind_3 : decode cX1_acceptKind 3 = .ok (.if_icmp .eq 23, 3) := by decide +kernel
theorem dX1_acceptKind_6 : decode cX1_acceptKind 6 = .ok (.iload_n 1, 1) := by decide +kernel
theorem dX1_acceptKind_7 : decode cX1_acceptKind 7 = .ok (.bipush 115, 2) := by decide +kernel
theorem dX1_acceptKind_9 : decode cX1_acceptKind 9 = .ok (.if_icmp .eq 17, 3) := by decide +kernel
theorem dX1_acceptKind_12 : decode cX1_acceptKind 12 = .ok (.iload_n 1, 1) := by decide +kernel
theorem dX1_acceptKind_13 : decode cX1_acceptKind 13 = .ok (.bipush 100, 2) := by decide +kernel
theorem dX1_acceptKind_15 : decode cX1_acceptKind 15 = .ok (.if_icmp .eq 11, 3) := by decide +kernel
theorem dX1_acceptKind_18 : decode cX1_acceptKind 18 = .ok (.iload_n 1, 1) := by decide +kernel
theorem dX1_acceptKind_19 : decode cX1_acceptKind 19 = .ok (.bipush 98, 2) := by decide +kernel
theorem dX1_acceptKind_21 : decode cX1_acceptKind 21 = .ok (.if_icmp .eq 5, 3) := by decide +kernel
theorem dX1_acceptKind_24 : decode cX1_acceptKind 24 = .ok (.iconst 0, 1) := by decide +kernel
theorem dX1_acceptKind_25 : decode cX1_acceptKind 25 = .ok (.ireturn, 1) := by decide +kernel
theorem dX1_acceptKind_26 : decode cX1_acceptKind 26 = .ok (.aload_n 0, 1) := by decide +kernel
theorem dX1_acceptKind_27 : decode cX1_acceptKind 27 = .ok (.iload_n 1, 1) := by decide +kernel
theorem dX1_acceptKind_28 : decode cX1_acceptKind 28 = .ok (.putfield 29, 3) := by decide +kernel
theorem dX1_acceptKind_31 : decode cX1_acceptKind 31 = .ok (.aload_n 0, 1) := by decide +kernel
theorem dX1_acceptKind_32 : decode cX1_acceptKind 32 = .ok (.iconst 0, 1) := by decide +kernel
theorem dX1_acceptKind_33 : decode cX1_acceptKind 33 = .ok (.putfield 42, 3) := by decide +kernel
theorem dX1_acceptKind_36 : decode cX1_acceptKind 36 = .ok (.aload_n 0, 1) := by decide +kernel
theorem dX1_acceptKind_37 : decode cX1_acceptKind 37 = .ok (.iconst 1, 1) := by decide +kernel
theorem dX1_acceptKind_38 : decode cX1_acceptKind 38 = .ok (.invokevirtual 45, 3) := by decide +kernel
theorem dX1_acceptKind_41 : decode cX1_acceptKind 41 = .ok (.iconst 1, 1) := by decide +kernel
theorem dX1_acceptKind_42 : decode cX1_acceptKind 42 = .ok (.ireturn, 1) := by decide +kernel
theorem dX1_acceptDigit_0 : decode cX1_acceptDigit 0 = .ok (.bipush 10, 2) := by decide +kernel
theorem dX1_acceptDigit_2 : decode cX1_acceptDigit 2 = .ok (.aload_n 0, 1) := by decide +kernel
theorem dX1_acceptDigit_3 : decode cX1_acceptDigit 3 = .ok (.getfield 11, 3) := by decide +kernel
theorem dX1_acceptDigit_6 : decode cX1_acceptDigit 6 = .ok (.iconst 1, 1) := by decide +kernel
theorem dX1_acceptDigit_7 : decode cX1_acceptDigit 7 = .ok (.if_icmp .ne 10, 3) := by decide +kernel
theorem dX1_acceptDigit_10 : decode cX1_acceptDigit 10 = .ok (.aload_n 0, 1) := by decide +kernel
theorem dX1_acceptDigit_11 : decode cX1_acceptDigit 11 = .ok (.getfield 42, 3) := by decide +kernel
theorem dX1_acceptDigit_14 : decode cX1_acceptDigit 14 = .ok (.goto 7, 3) := by decide +kernel
theorem dX1_acceptDigit_17 : decode cX1_acceptDigit 17 = .ok (.aload_n 0, 1) := by decide +kernel
theorem dX1_acceptDigit_18 : decode cX1_acceptDigit 18 = .ok (.getfield 39, 3) := by decide +kernel
theorem dX1_acceptDigit_21 : decode cX1_acceptDigit 21 = .ok (.imul, 1) := by decide +kernel
theorem dX1_acceptDigit_22 : decode cX1_acceptDigit 22 = .ok (.iload_n 1, 1) := by decide +kernel
theorem dX1_acceptDigit_23 : decode cX1_acceptDigit 23 = .ok (.iadd, 1) := by decide +kernel
theorem dX1_acceptDigit_24 : decode cX1_acceptDigit 24 = .ok (.istore_n 2, 1) := by decide +kernel
theorem dX1_acceptDigit_25 : decode cX1_acceptDigit 25 = .ok (.aload_n 0, 1) := by decide +kernel
theorem dX1_acceptDigit_26 : decode cX1_acceptDigit 26 = .ok (.iload_n 2, 1) := by decide +kernel
theorem dX1_acceptDigit_27 : decode cX1_acceptDigit 27 = .ok (.iload_n 1, 1) := by decide +kernel
theorem dX1_acceptDigit_28 : decode cX1_acceptDigit 28 = .ok (.invokevirtual 49, 3) := by decide +kernel
theorem dX1_acceptDigit_31 : decode cX1_acceptDigit 31 = .ok (.ifCond .ne 5, 3) := by decide +kernel
theorem dX1_acceptDigit_34 : decode cX1_acceptDigit 34 = .ok (.iconst 0, 1) := by decide +kernel
theorem dX1_acceptDigit_35 : decode cX1_acceptDigit 35 = .ok (.ireturn, 1) := by decide +kernel
theorem dX1_acceptDigit_36 : decode cX1_acceptDigit 36 = .ok (.aload_n 0, 1) := by decide +kernel
theorem dX1_acceptDigit_37 : decode cX1_acceptDigit 37 = .ok (.getfield 11, 3) := by decide +kernel
theorem dX1_acceptDigit_40 : decode cX1_acceptDigit 40 = .ok (.iconst 1, 1) := by decide +kernel
theorem dX1_acceptDigit_41 : decode cX1_acceptDigit 41 = .ok (.if_icmp .ne 11, 3) := by decide +kernel
theorem dX1_acceptDigit_44 : decode cX1_acceptDigit 44 = .ok (.aload_n 0, 1) := by decide +kernel
theorem dX1_acceptDigit_45 : decode cX1_acceptDigit 45 = .ok (.iload_n 2, 1) := by decide +kernel
theorem dX1_acceptDigit_46 : decode cX1_acceptDigit 46 = .ok (.putfield 42, 3) := by decide +kernel
theorem dX1_acceptDigit_49 : decode cX1_acceptDigit 49 = .ok (.goto 8, 3) := by decide +kernel
theorem dX1_acceptDigit_52 : decode cX1_acceptDigit 52 = .ok (.aload_n 0, 1) := by decide +kernel
theorem dX1_acceptDigit_53 : decode cX1_acceptDigit 53 = .ok (.iload_n 2, 1) := by decide +kernel
theorem dX1_acceptDigit_54 : decode cX1_acceptDigit 54 = .ok (.putfield 39, 3) := by decide +kernel
theorem dX1_acceptDigit_57 : decode cX1_acceptDigit 57 = .ok (.aload_n 0, 1) := by decide +kernel
theorem dX1_acceptDigit_58 : decode cX1_acceptDigit 58 = .ok (.dup, 1) := by decide +kernel
theorem dX1_acceptDigit_59 : decode cX1_acceptDigit 59 = .ok (.getfield 32, 3) := by decide +kernel
theorem dX1_acceptDigit_62 : decode cX1_acceptDigit 62 = .ok (.iconst 1, 1) := by decide +kernel
theorem dX1_acceptDigit_63 : decode cX1_acceptDigit 63 = .ok (.iadd, 1) := by decide +kernel
theorem dX1_acceptDigit_64 : decode cX1_acceptDigit 64 = .ok (.putfield 32, 3) := by decide +kernel
theorem dX1_acceptDigit_67 : decode cX1_acceptDigit 67 = .ok (.iconst 1, 1) := by decide +kernel
theorem dX1_acceptDigit_68 : decode cX1_acceptDigit 68 = .ok (.ireturn, 1) := by decide +kernel
theorem dX1_acceptMinus_0 : decode cX1_acceptMinus 0 = .ok (.aload_n 0, 1) := by decide +kernel
theorem dX1_acceptMinus_1 : decode cX1_acceptMinus 1 = .ok (.getfield 29, 3) := by decide +kernel
theorem dX1_acceptMinus_4 : decode cX1_acceptMinus 4 = .ok (.bipush 115, 2) := by decide +kernel
theorem dX1_acceptMinus_6 : decode cX1_acceptMinus 6 = .ok (.if_icmp .ne 29, 3) := by decide +kernel
theorem dX1_acceptMinus_9 : decode cX1_acceptMinus 9 = .ok (.aload_n 0, 1) := by decide +kernel
theorem dX1_acceptMinus_10 : decode cX1_acceptMinus 10 = .ok (.getfield 11, 3) := by decide +kernel
theorem dX1_acceptMinus_13 : decode cX1_acceptMinus 13 = .ok (.iconst 2, 1) := by decide +kernel
theorem dX1_acceptMinus_14 : decode cX1_acceptMinus 14 = .ok (.if_icmp .ne 21, 3) := by decide +kernel
theorem dX1_acceptMinus_17 : decode cX1_acceptMinus 17 = .ok (.aload_n 0, 1) := by decide +kernel
theorem dX1_acceptMinus_18 : decode cX1_acceptMinus 18 = .ok (.getfield 32, 3) := by decide +kernel
theorem dX1_acceptMinus_21 : decode cX1_acceptMinus 21 = .ok (.ifCond .ne 14, 3) := by decide +kernel
theorem dX1_acceptMinus_24 : decode cX1_acceptMinus 24 = .ok (.aload_n 0, 1) := by decide +kernel
theorem dX1_acceptMinus_25 : decode cX1_acceptMinus 25 = .ok (.getfield 35, 3) := by decide +kernel
theorem dX1_acceptMinus_28 : decode cX1_acceptMinus 28 = .ok (.ifCond .ne 7, 3) := by decide +kernel
theorem dX1_acceptMinus_31 : decode cX1_acceptMinus 31 = .ok (.iconst 1, 1) := by decide +kernel
theorem dX1_acceptMinus_32 : decode cX1_acceptMinus 32 = .ok (.goto 4, 3) := by decide +kernel
theorem dX1_acceptMinus_35 : decode cX1_acceptMinus 35 = .ok (.iconst 0, 1) := by decide +kernel
theorem dX1_acceptMinus_36 : decode cX1_acceptMinus 36 = .ok (.istore_n 1, 1) := by decide +kernel
theorem dX1_acceptMinus_37 : decode cX1_acceptMinus 37 = .ok (.aload_n 0, 1) := by decide +kernel
theorem dX1_acceptMinus_38 : decode cX1_acceptMinus 38 = .ok (.aload_n 0, 1) := by decide +kernel
theorem dX1_acceptMinus_39 : decode cX1_acceptMinus 39 = .ok (.getfield 35, 3) := by decide +kernel
theorem dX1_acceptMinus_42 : decode cX1_acceptMinus 42 = .ok (.ifCond .ne 7, 3) := by decide +kernel
theorem dX1_acceptMinus_45 : decode cX1_acceptMinus 45 = .ok (.iload_n 1, 1) := by decide +kernel
theorem dX1_acceptMinus_46 : decode cX1_acceptMinus 46 = .ok (.ifCond .eq 7, 3) := by decide +kernel
theorem dX1_acceptMinus_49 : decode cX1_acceptMinus 49 = .ok (.iconst 1, 1) := by decide +kernel
theorem dX1_acceptMinus_50 : decode cX1_acceptMinus 50 = .ok (.goto 4, 3) := by decide +kernel
theorem dX1_acceptMinus_53 : decode cX1_acceptMinus 53 = .ok (.iconst 0, 1) := by decide +kernel
theorem dX1_acceptMinus_54 : decode cX1_acceptMinus 54 = .ok (.putfield 35, 3) := by decide +kernel
theorem dX1_acceptMinus_57 : decode cX1_acceptMinus 57 = .ok (.iload_n 1, 1) := by decide +kernel
theorem dX1_acceptMinus_58 : decode cX1_acceptMinus 58 = .ok (.ireturn, 1) := by decide +kernel
theorem dX1_acceptSeparator_0 : decode cX1_acceptSeparator 0 = .ok (.aload_n 0, 1) := by decide +kernel
theorem dX1_acceptSeparator_1 : decode cX1_acceptSeparator 1 = .ok (.getfield 32, 3) := by decide +kernel
theorem dX1_acceptSeparator_4 : decode cX1_acceptSeparator 4 = .ok (.ifCond .ne 5, 3) := by decide +kernel
theorem dX1_acceptSeparator_7 : decode cX1_acceptSeparator 7 = .ok (.iconst 0, 1) := by decide +kernel
theorem dX1_acceptSeparator_8 : decode cX1_acceptSeparator 8 = .ok (.ireturn, 1) := by decide +kernel
theorem dX1_acceptSeparator_9 : decode cX1_acceptSeparator 9 = .ok (.aload_n 0, 1) := by decide +kernel
theorem dX1_acceptSeparator_10 : decode cX1_acceptSeparator 10 = .ok (.invokevirtual 60, 3) := by decide +kernel
theorem dX1_acceptSeparator_13 : decode cX1_acceptSeparator 13 = .ok (.ifCond .eq 33, 3) := by decide +kernel
theorem dX1_acceptSeparator_16 : decode cX1_acceptSeparator 16 = .ok (.aload_n 0, 1) := by decide +kernel
theorem dX1_acceptSeparator_17 : decode cX1_acceptSeparator 17 = .ok (.iload_n 1, 1) := by decide +kernel
theorem dX1_acceptSeparator_18 : decode cX1_acceptSeparator 18 = .ok (.bipush 59, 2) := by decide +kernel
theorem dX1_acceptSeparator_20 : decode cX1_acceptSeparator 20 = .ok (.if_icmp .ne 7, 3) := by decide +kernel
theorem dX1_acceptSeparator_23 : decode cX1_acceptSeparator 23 = .ok (.iconst 0, 1) := by decide +kernel
theorem dX1_acceptSeparator_24 : decode cX1_acceptSeparator 24 = .ok (.goto 7, 3) := by decide +kernel
theorem dX1_acceptSeparator_27 : decode cX1_acceptSeparator 27 = .ok (.aload_n 0, 1) := by decide +kernel
theorem dX1_acceptSeparator_28 : decode cX1_acceptSeparator 28 = .ok (.getfield 11, 3) := by decide +kernel
theorem dX1_acceptSeparator_31 : decode cX1_acceptSeparator 31 = .ok (.putfield 11, 3) := by decide +kernel
theorem dX1_acceptSeparator_34 : decode cX1_acceptSeparator 34 = .ok (.iload_n 1, 1) := by decide +kernel
theorem dX1_acceptSeparator_35 : decode cX1_acceptSeparator 35 = .ok (.bipush 59, 2) := by decide +kernel
theorem dX1_acceptSeparator_37 : decode cX1_acceptSeparator 37 = .ok (.if_icmp .ne 7, 3) := by decide +kernel
theorem dX1_acceptSeparator_40 : decode cX1_acceptSeparator 40 = .ok (.iconst 1, 1) := by decide +kernel
theorem dX1_acceptSeparator_41 : decode cX1_acceptSeparator 41 = .ok (.goto 4, 3) := by decide +kernel
theorem dX1_acceptSeparator_44 : decode cX1_acceptSeparator 44 = .ok (.iconst 0, 1) := by decide +kernel
theorem dX1_acceptSeparator_45 : decode cX1_acceptSeparator 45 = .ok (.ireturn, 1) := by decide +kernel
theorem dX1_acceptSeparator_46 : decode cX1_acceptSeparator 46 = .ok (.iload_n 1, 1) := by decide +kernel
theorem dX1_acceptSeparator_47 : decode cX1_acceptSeparator 47 = .ok (.aload_n 0, 1) := by decide +kernel
theorem dX1_acceptSeparator_48 : decode cX1_acceptSeparator 48 = .ok (.getfield 29, 3) := by decide +kernel
theorem dX1_acceptSeparator_51 : decode cX1_acceptSeparator 51 = .ok (.bipush 115, 2) := by decide +kernel
theorem dX1_acceptSeparator_53 : decode cX1_acceptSeparator 53 = .ok (.if_icmp .ne 8, 3) := by decide +kernel
theorem dX1_acceptSeparator_56 : decode cX1_acceptSeparator 56 = .ok (.bipush 61, 2) := by decide +kernel
theorem dX1_acceptSeparator_58 : decode cX1_acceptSeparator 58 = .ok (.goto 5, 3) := by decide +kernel
theorem dX1_acceptSeparator_61 : decode cX1_acceptSeparator 61 = .ok (.bipush 44, 2) := by decide +kernel
theorem dX1_acceptSeparator_63 : decode cX1_acceptSeparator 63 = .ok (.if_icmp .eq 5, 3) := by decide +kernel
theorem dX1_acceptSeparator_66 : decode cX1_acceptSeparator 66 = .ok (.iconst 0, 1) := by decide +kernel
theorem dX1_acceptSeparator_67 : decode cX1_acceptSeparator 67 = .ok (.ireturn, 1) := by decide +kernel
theorem dX1_acceptSeparator_68 : decode cX1_acceptSeparator 68 = .ok (.aload_n 0, 1) := by decide +kernel
theorem dX1_acceptSeparator_69 : decode cX1_acceptSeparator 69 = .ok (.iconst 2, 1) := by decide +kernel
theorem dX1_acceptSeparator_70 : decode cX1_acceptSeparator 70 = .ok (.invokevirtual 45, 3) := by decide +kernel
theorem dX1_acceptSeparator_73 : decode cX1_acceptSeparator 73 = .ok (.iconst 1, 1) := by decide +kernel
theorem dX1_acceptSeparator_74 : decode cX1_acceptSeparator 74 = .ok (.ireturn, 1) := by decide +kernel
theorem dX1_accept_0 : decode cX1_accept 0 = .ok (.aload_n 0, 1) := by decide +kernel
theorem dX1_accept_1 : decode cX1_accept 1 = .ok (.getfield 11, 3) := by decide +kernel
theorem dX1_accept_4 : decode cX1_accept 4 = .ok (.ifCond .ne 9, 3) := by decide +kernel
theorem dX1_accept_7 : decode cX1_accept 7 = .ok (.aload_n 0, 1) := by decide +kernel
theorem dX1_accept_8 : decode cX1_accept 8 = .ok (.iload_n 1, 1) := by decide +kernel
theorem dX1_accept_9 : decode cX1_accept 9 = .ok (.invokevirtual 15, 3) := by decide +kernel
theorem dX1_accept_12 : decode cX1_accept 12 = .ok (.ireturn, 1) := by decide +kernel
theorem dX1_accept_13 : decode cX1_accept 13 = .ok (.iload_n 1, 1) := by decide +kernel
theorem dX1_accept_14 : decode cX1_accept 14 = .ok (.bipush 48, 2) := by decide +kernel
theorem dX1_accept_16 : decode cX1_accept 16 = .ok (.if_icmp .lt 18, 3) := by decide +kernel
theorem dX1_accept_19 : decode cX1_accept 19 = .ok (.iload_n 1, 1) := by decide +kernel
theorem dX1_accept_20 : decode cX1_accept 20 = .ok (.bipush 57, 2) := by decide +kernel
theorem dX1_accept_22 : decode cX1_accept 22 = .ok (.if_icmp .gt 12, 3) := by decide +kernel
theorem dX1_accept_25 : decode cX1_accept 25 = .ok (.aload_n 0, 1) := by decide +kernel
theorem dX1_accept_26 : decode cX1_accept 26 = .ok (.iload_n 1, 1) := by decide +kernel
theorem dX1_accept_27 : decode cX1_accept 27 = .ok (.bipush 48, 2) := by decide +kernel
theorem dX1_accept_29 : decode cX1_accept 29 = .ok (.isub, 1) := by decide +kernel
theorem dX1_accept_30 : decode cX1_accept 30 = .ok (.invokevirtual 19, 3) := by decide +kernel
theorem dX1_accept_33 : decode cX1_accept 33 = .ok (.ireturn, 1) := by decide +kernel
theorem dX1_accept_34 : decode cX1_accept 34 = .ok (.iload_n 1, 1) := by decide +kernel
theorem dX1_accept_35 : decode cX1_accept 35 = .ok (.bipush 45, 2) := by decide +kernel
theorem dX1_accept_37 : decode cX1_accept 37 = .ok (.if_icmp .ne 8, 3) := by decide +kernel
theorem dX1_accept_40 : decode cX1_accept 40 = .ok (.aload_n 0, 1) := by decide +kernel
theorem dX1_accept_41 : decode cX1_accept 41 = .ok (.invokevirtual 22, 3) := by decide +kernel
theorem dX1_accept_44 : decode cX1_accept 44 = .ok (.ireturn, 1) := by decide +kernel
theorem dX1_accept_45 : decode cX1_accept 45 = .ok (.aload_n 0, 1) := by decide +kernel
theorem dX1_accept_46 : decode cX1_accept 46 = .ok (.iload_n 1, 1) := by decide +kernel
theorem dX1_accept_47 : decode cX1_accept 47 = .ok (.invokevirtual 26, 3) := by decide +kernel
theorem dX1_accept_50 : decode cX1_accept 50 = .ok (.ireturn, 1) := by decide +kernel
set_option maxHeartbeats 4000000 in
set_option maxRecDepth 100000 in
theorem c_P_restart (l : Launch) (D : va_G) (pa : Nat) (pk : Int32) (pf : Int32) (ps : Int32) (pn : Int32) (pp : Int32) (pm : Int32) (sz : Nat) : k_Mv (S := Unit) l D yX1_restart cX1_restart 1 none 0 0 0 0 [.ref pa] [(pa, .inr (1, [.int pk, .int pf, .int ps, .int pn, .int pp, .int pm]))] [] (fun (_ : Unit) => True) (fun _ => [(pa, .inr (1, [.int pk, .int pf, .int ps, .int pn, .int 0, .int pm]))]) (fun _ => []) sz := by
  refine Met.ofW (cc := cX1_restart) (maxL := 1) (ret := none) (by decide) rfl ?_
  intro p e s m args below meth c s₁ B hml hv
  obtain ⟨rfl, hsz, hP, hK, hD0, hG⟩ := hv
  have hx := B.exec
  have hb := B.bytes
  have hr := B.returns
  have ht : ∀ v9 ∈ wsA, v9.before ([.ref pa] : List Value).toArray s = true := fun v9 h9 => atoms_spec (ws := k_ws yX1_restart cX1_restart 1 none) B.pre v9 (List.mem_cons_of_mem _ h9)
  have hown : s.vm.findClass RX1 = some m.cls := findClass_of_methodNamed B.named
  have S0 : k_C p s m ([.ref pa] : List Value).toArray c cX1_restart 1 RX1 := ⟨hx, hb, hml, hown, ht⟩
  have hlocks := B.notSynchronized
  subst hsz
  have hD := hD0.self (sz := s.heap.size)
  generalize hAe : va_A [(pa, .inr (1, [.int pk, .int pf, .int ps, .int pn, .int pp, .int pm]))] s.heap.size = A at hD hG ⊢
  have hA : ∀ q : Nat, s.heap.size ≤ q → A q := fun q h => by rw [← hAe]; exact Or.inr h
  have hS : va_S A s.heap s.heap [] := va_S.rf
  have hl := lv_entry ([.ref pa]) (n := 1) (Nat.le_of_ble_eq_true rfl)
  rw [lg_entry_eq]
  generalize (lg_sl ([.ref pa]) ++ List.replicate (1 - (lg_sl ([.ref pa])).length) Slot.unset).toArray = ls at hl ⊢
  have hl : lv_has ls 1 [(0, .ref pa)] := hl
  have hP : va_P D vwCl [(pa, .inr (1, [.int pk, .int pf, .int ps, .int pn, .int pp, .int pm]))] s.heap := hP
  refine lv_aload_n hx hb dX1_restart_0 rfl (lv_at hl 0 rfl) ?_
  refine lv_iconst (v := 0) hx hb dX1_restart_1 (by decide) ?_
  refine va_put (D := D) (ci := 1) (v := .int 0) (ty := .int) (C := RX1) (T := TX1) (N := 6) hx hb ht inA_X1 tyX1 tyX1_ok nmX1 hown hK hP hD hS 0 rfl rfl 4 (by decide) (ht _ lf_X1_11) (fun _ h9 => h9) rfl (tyX1_ok 4 (by decide)) rfl rfl (Nat.le_of_ble_eq_true rfl) dX1_restart_2 (fun H locs hP hD hS => ?_)
  have hP : va_P D vwCl [(pa, .inr (1, [.int pk, .int pf, .int ps, .int pn, .int 0, .int pm]))] H := hP
  have hD : va_D A [(pa, .inr (1, [.int pk, .int pf, .int ps, .int pn, .int 0, .int pm]))] := hD
  have hP9 : va_P D vwCl [(pa, .inr (1, [.int pk, .int pf, .int ps, .int pn, .int 0, .int pm]))] H := hP.sub [0] rfl
  have hD9 : va_D A [(pa, .inr (1, [.int pk, .int pf, .int ps, .int pn, .int 0, .int pm]))] := hD.sub [0] (by decide) rfl
  have hK9 : va_K D vwCl [] s := hK.sub [] rfl
  exact W.vret hx hb hr (fun t ht9 hW9 => ⟨⟨(), rfl, by first | rfl | trivial | (simp only [if_true, if_false, reduceIte, and_self]; done) | simp_all, ⟨by rw [ht9]; exact hP9, va_K.moved hW9.alike hK9, hD9⟩⟩, hS.F ht9⟩) hS.2.2 dX1_restart_5
set_option maxHeartbeats 4000000 in
set_option maxRecDepth 100000 in
theorem c_P_least (l : Launch) (D : va_G) (pa : Nat) (pk : Int32) (pf : Int32) (ps : Int32) (pn : Int32) (pp : Int32) (pm : Int32) (sz : Nat) : k_Mi (S := Unit) l D yX1_leastNumber cX1_leastNumber 1 (some .int) 0 0 0 0 [.ref pa] [(pa, .inr (1, [.int pk, .int pf, .int ps, .int pn, .int pp, .int pm]))] [] (fun (r : Int32) (_ : Unit) => r = (leastP pk pm)) (fun _ => [(pa, .inr (1, [.int pk, .int pf, .int ps, .int pn, .int pp, .int pm]))]) (fun _ => []) sz := by
  refine Met.ofW (cc := cX1_leastNumber) (maxL := 1) (ret := (some .int)) (by decide) rfl ?_
  intro p e s m args below meth c s₁ B hml hv
  obtain ⟨rfl, hsz, hP, hK, hD0, hG⟩ := hv
  have hx := B.exec
  have hb := B.bytes
  have hr := B.returns
  have ht : ∀ v9 ∈ wsA, v9.before ([.ref pa] : List Value).toArray s = true := fun v9 h9 => atoms_spec (ws := k_ws yX1_leastNumber cX1_leastNumber 1 (some .int)) B.pre v9 (List.mem_cons_of_mem _ h9)
  have hown : s.vm.findClass RX1 = some m.cls := findClass_of_methodNamed B.named
  have S0 : k_C p s m ([.ref pa] : List Value).toArray c cX1_leastNumber 1 RX1 := ⟨hx, hb, hml, hown, ht⟩
  have hlocks := B.notSynchronized
  subst hsz
  have hD := hD0.self (sz := s.heap.size)
  generalize hAe : va_A [(pa, .inr (1, [.int pk, .int pf, .int ps, .int pn, .int pp, .int pm]))] s.heap.size = A at hD hG ⊢
  have hA : ∀ q : Nat, s.heap.size ≤ q → A q := fun q h => by rw [← hAe]; exact Or.inr h
  have hS : va_S A s.heap s.heap [] := va_S.rf
  have hl := lv_entry ([.ref pa]) (n := 1) (Nat.le_of_ble_eq_true rfl)
  rw [lg_entry_eq]
  generalize (lg_sl ([.ref pa]) ++ List.replicate (1 - (lg_sl ([.ref pa])).length) Slot.unset).toArray = ls at hl ⊢
  have hl : lv_has ls 1 [(0, .ref pa)] := hl
  have hP : va_P D vwCl [(pa, .inr (1, [.int pk, .int pf, .int ps, .int pn, .int pp, .int pm]))] s.heap := hP
  refine lv_aload_n hx hb dX1_leastNumber_0 rfl (lv_at hl 0 rfl) ?_
  refine va_get (D := D) (ci := 1) (v := .int pk) (C := RX1) (T := TX1) (N := 6) hx hb ht inA_X1 hown hK hP 0 rfl rfl 0 (by decide) (ht _ lf_X1_29) (fun _ h9 => h9) rfl dX1_leastNumber_1 ?_
  refine lv_bipush (v := 115) hx hb dX1_leastNumber_4 (by decide) ?_
  refine lv_icmp_ne (tgt := 20) hx hb dX1_leastNumber_6 (by decide) (fun c_1 => ?_) (fun c_1 => ?_)
  · have hc9 := c_1
    refine lv_iconst (v := 1) hx hb dX1_leastNumber_20 (by decide) ?_
    have hP9 : va_P D vwCl [(pa, .inr (1, [.int pk, .int pf, .int ps, .int pn, .int pp, .int pm]))] s.heap := hP.sub [0] rfl
    have hD9 : va_D A [(pa, .inr (1, [.int pk, .int pf, .int ps, .int pn, .int pp, .int pm]))] := hD.sub [0] (by decide) rfl
    have hK9 : va_K D vwCl [] s := hK.sub [] rfl
    exact W.iret (v := 1) hx hb hr (fun t ht9 hW9 => ⟨⟨1, (), rfl, by (unfold leastP; rw [if_neg c_1]), ⟨by rw [ht9]; exact hP9, va_K.moved hW9.alike hK9, hD9⟩⟩, hS.F ht9⟩) hS.2.2 dX1_leastNumber_21
  · have hc9 := c_1
    refine lv_aload_n hx hb dX1_leastNumber_9 rfl (lv_at hl 0 rfl) ?_
    refine va_get (D := D) (ci := 1) (v := .int pm) (C := RX1) (T := TX1) (N := 6) hx hb ht inA_X1 hown hK hP 0 rfl rfl 5 (by decide) (ht _ lf_X1_35) (fun _ h9 => h9) rfl dX1_leastNumber_10 ?_
    refine lv_if_ne (tgt := 20) hx hb dX1_leastNumber_13 (by decide) (fun c_2 => ?_) (fun c_2 => ?_)
    · have hc9 := c_2
      refine lv_iconst (v := 1) hx hb dX1_leastNumber_20 (by decide) ?_
      have hP9 : va_P D vwCl [(pa, .inr (1, [.int pk, .int pf, .int ps, .int pn, .int pp, .int pm]))] s.heap := hP.sub [0] rfl
      have hD9 : va_D A [(pa, .inr (1, [.int pk, .int pf, .int ps, .int pn, .int pp, .int pm]))] := hD.sub [0] (by decide) rfl
      have hK9 : va_K D vwCl [] s := hK.sub [] rfl
      exact W.iret (v := 1) hx hb hr (fun t ht9 hW9 => ⟨⟨1, (), rfl, by (unfold leastP; rw [if_pos c_1, if_neg c_2]), ⟨by rw [ht9]; exact hP9, va_K.moved hW9.alike hK9, hD9⟩⟩, hS.F ht9⟩) hS.2.2 dX1_leastNumber_21
    · have hc9 := c_2
      refine lv_iconst (v := 0) hx hb dX1_leastNumber_16 (by decide) ?_
      refine lv_goto (tgt := 21) hx hb dX1_leastNumber_17 (by decide) ?_
      have hP9 : va_P D vwCl [(pa, .inr (1, [.int pk, .int pf, .int ps, .int pn, .int pp, .int pm]))] s.heap := hP.sub [0] rfl
      have hD9 : va_D A [(pa, .inr (1, [.int pk, .int pf, .int ps, .int pn, .int pp, .int pm]))] := hD.sub [0] (by decide) rfl
      have hK9 : va_K D vwCl [] s := hK.sub [] rfl
      exact W.iret (v := 0) hx hb hr (fun t ht9 hW9 => ⟨⟨0, (), rfl, by (unfold leastP; rw [if_pos c_1, if_pos c_2]), ⟨by rw [ht9]; exact hP9, va_K.moved hW9.alike hK9, hD9⟩⟩, hS.F ht9⟩) hS.2.2 dX1_leastNumber_21
set_option maxHeartbeats 4000000 in
set_option maxRecDepth 100000 in
theorem c_P_grt (l : Launch) (D : va_G) (pa : Nat) (pk : Int32) (pf : Int32) (ps : Int32) (pn : Int32) (pp : Int32) (pm : Int32) (sz : Nat) : k_Mi (S := Unit) l D yX1_greatestNumber cX1_greatestNumber 1 (some .int) 0 0 0 0 [.ref pa] [(pa, .inr (1, [.int pk, .int pf, .int ps, .int pn, .int pp, .int pm]))] [] (fun (r : Int32) (_ : Unit) => r = (grtP pk pp)) (fun _ => [(pa, .inr (1, [.int pk, .int pf, .int ps, .int pn, .int pp, .int pm]))]) (fun _ => []) sz := by
  refine Met.ofW (cc := cX1_greatestNumber) (maxL := 1) (ret := (some .int)) (by decide) rfl ?_
  intro p e s m args below meth c s₁ B hml hv
  obtain ⟨rfl, hsz, hP, hK, hD0, hG⟩ := hv
  have hx := B.exec
  have hb := B.bytes
  have hr := B.returns
  have ht : ∀ v9 ∈ wsA, v9.before ([.ref pa] : List Value).toArray s = true := fun v9 h9 => atoms_spec (ws := k_ws yX1_greatestNumber cX1_greatestNumber 1 (some .int)) B.pre v9 (List.mem_cons_of_mem _ h9)
  have hown : s.vm.findClass RX1 = some m.cls := findClass_of_methodNamed B.named
  have S0 : k_C p s m ([.ref pa] : List Value).toArray c cX1_greatestNumber 1 RX1 := ⟨hx, hb, hml, hown, ht⟩
  have hlocks := B.notSynchronized
  subst hsz
  have hD := hD0.self (sz := s.heap.size)
  generalize hAe : va_A [(pa, .inr (1, [.int pk, .int pf, .int ps, .int pn, .int pp, .int pm]))] s.heap.size = A at hD hG ⊢
  have hA : ∀ q : Nat, s.heap.size ≤ q → A q := fun q h => by rw [← hAe]; exact Or.inr h
  have hS : va_S A s.heap s.heap [] := va_S.rf
  have hl := lv_entry ([.ref pa]) (n := 1) (Nat.le_of_ble_eq_true rfl)
  rw [lg_entry_eq]
  generalize (lg_sl ([.ref pa]) ++ List.replicate (1 - (lg_sl ([.ref pa])).length) Slot.unset).toArray = ls at hl ⊢
  have hl : lv_has ls 1 [(0, .ref pa)] := hl
  have hP : va_P D vwCl [(pa, .inr (1, [.int pk, .int pf, .int ps, .int pn, .int pp, .int pm]))] s.heap := hP
  refine lv_aload_n hx hb dX1_greatestNumber_0 rfl (lv_at hl 0 rfl) ?_
  refine va_get (D := D) (ci := 1) (v := .int pk) (C := RX1) (T := TX1) (N := 6) hx hb ht inA_X1 hown hK hP 0 rfl rfl 0 (by decide) (ht _ lf_X1_29) (fun _ h9 => h9) rfl dX1_greatestNumber_1 ?_
  refine lv_bipush (v := 115) hx hb dX1_greatestNumber_4 (by decide) ?_
  refine lv_icmp_eq (tgt := 12) hx hb dX1_greatestNumber_6 (by decide) (fun c_1 => ?_) (fun c_1 => ?_)
  · have hc9 := c_1
    refine lv_aload_n hx hb dX1_greatestNumber_12 rfl (lv_at hl 0 rfl) ?_
    refine va_get (D := D) (ci := 1) (v := .int pp) (C := RX1) (T := TX1) (N := 6) hx hb ht inA_X1 hown hK hP 0 rfl rfl 4 (by decide) (ht _ lf_X1_11) (fun _ h9 => h9) rfl dX1_greatestNumber_13 ?_
    refine lv_iconst (v := 1) hx hb dX1_greatestNumber_16 (by decide) ?_
    refine lv_icmp_ne (tgt := 25) hx hb dX1_greatestNumber_17 (by decide) (fun c_2 => ?_) (fun c_2 => ?_)
    · have hc9 := c_2
      refine lv_bipush (v := 9) hx hb dX1_greatestNumber_25 (by decide) ?_
      have hP9 : va_P D vwCl [(pa, .inr (1, [.int pk, .int pf, .int ps, .int pn, .int pp, .int pm]))] s.heap := hP.sub [0] rfl
      have hD9 : va_D A [(pa, .inr (1, [.int pk, .int pf, .int ps, .int pn, .int pp, .int pm]))] := hD.sub [0] (by decide) rfl
      have hK9 : va_K D vwCl [] s := hK.sub [] rfl
      exact W.iret (v := 9) hx hb hr (fun t ht9 hW9 => ⟨⟨9, (), rfl, by (unfold grtP; rw [if_pos c_1, if_neg c_2]), ⟨by rw [ht9]; exact hP9, va_K.moved hW9.alike hK9, hD9⟩⟩, hS.F ht9⟩) hS.2.2 dX1_greatestNumber_27
    · have hc9 := c_2
      refine lv_bipush (v := 40) hx hb dX1_greatestNumber_20 (by decide) ?_
      refine lv_goto (tgt := 27) hx hb dX1_greatestNumber_22 (by decide) ?_
      have hP9 : va_P D vwCl [(pa, .inr (1, [.int pk, .int pf, .int ps, .int pn, .int pp, .int pm]))] s.heap := hP.sub [0] rfl
      have hD9 : va_D A [(pa, .inr (1, [.int pk, .int pf, .int ps, .int pn, .int pp, .int pm]))] := hD.sub [0] (by decide) rfl
      have hK9 : va_K D vwCl [] s := hK.sub [] rfl
      exact W.iret (v := 40) hx hb hr (fun t ht9 hW9 => ⟨⟨40, (), rfl, by (unfold grtP; rw [if_pos c_1, if_pos c_2]), ⟨by rw [ht9]; exact hP9, va_K.moved hW9.alike hK9, hD9⟩⟩, hS.F ht9⟩) hS.2.2 dX1_greatestNumber_27
  · have hc9 := c_1
    refine lv_bipush (v := 50) hx hb dX1_greatestNumber_9 (by decide) ?_
    have hP9 : va_P D vwCl [(pa, .inr (1, [.int pk, .int pf, .int ps, .int pn, .int pp, .int pm]))] s.heap := hP.sub [0] rfl
    have hD9 : va_D A [(pa, .inr (1, [.int pk, .int pf, .int ps, .int pn, .int pp, .int pm]))] := hD.sub [0] (by decide) rfl
    have hK9 : va_K D vwCl [] s := hK.sub [] rfl
    exact W.iret (v := 50) hx hb hr (fun t ht9 hW9 => ⟨⟨50, (), rfl, by (unfold grtP; rw [if_neg c_1]), ⟨by rw [ht9]; exact hP9, va_K.moved hW9.alike hK9, hD9⟩⟩, hS.F ht9⟩) hS.2.2 dX1_greatestNumber_11
set_option maxHeartbeats 4000000 in
set_option maxRecDepth 100000 in
theorem c_P_allowed (l : Launch) (D : va_G) (pa : Nat) (pk : Int32) (pf : Int32) (ps : Int32) (pn : Int32) (pp : Int32) (pm : Int32) (vx : Int32) (dx : Int32) (sz : Nat) : k_Mi (S := Unit) l D yX1_isAllowed cX1_isAllowed 4 (some .boolean) 1 0 0 20 [.ref pa, .int vx, .int dx] [(pa, .inr (1, [.int pk, .int pf, .int ps, .int pn, .int pp, .int pm]))] [] (fun (r : Int32) (_ : Unit) => r = (alwF pk pn pp pm vx dx)) (fun _ => [(pa, .inr (1, [.int pk, .int pf, .int ps, .int pn, .int pp, .int pm]))]) (fun _ => []) sz := by
  refine Met.ofW (cc := cX1_isAllowed) (maxL := 4) (ret := (some .boolean)) (by decide) rfl ?_
  intro p e s m args below meth c s₁ B hml hv
  obtain ⟨rfl, hsz, hP, hK, hD0, hG⟩ := hv
  have hx := B.exec
  have hb := B.bytes
  have hr := B.returns
  have ht : ∀ v9 ∈ wsA, v9.before ([.ref pa, .int vx, .int dx] : List Value).toArray s = true := fun v9 h9 => atoms_spec (ws := k_ws yX1_isAllowed cX1_isAllowed 4 (some .boolean)) B.pre v9 (List.mem_cons_of_mem _ h9)
  have hown : s.vm.findClass RX1 = some m.cls := findClass_of_methodNamed B.named
  have S0 : k_C p s m ([.ref pa, .int vx, .int dx] : List Value).toArray c cX1_isAllowed 4 RX1 := ⟨hx, hb, hml, hown, ht⟩
  have hlocks := B.notSynchronized
  subst hsz
  have hD := hD0.self (sz := s.heap.size)
  generalize hAe : va_A [(pa, .inr (1, [.int pk, .int pf, .int ps, .int pn, .int pp, .int pm]))] s.heap.size = A at hD hG ⊢
  have hA : ∀ q : Nat, s.heap.size ≤ q → A q := fun q h => by rw [← hAe]; exact Or.inr h
  have hS : va_S A s.heap s.heap [] := va_S.rf
  have hl := lv_entry ([.ref pa, .int vx, .int dx]) (n := 4) (Nat.le_of_ble_eq_true rfl)
  rw [lg_entry_eq]
  generalize (lg_sl ([.ref pa, .int vx, .int dx]) ++ List.replicate (4 - (lg_sl ([.ref pa, .int vx, .int dx])).length) Slot.unset).toArray = ls at hl ⊢
  have hl : lv_has ls 4 [(0, .ref pa), (1, .int vx), (2, .int dx)] := hl
  have hP : va_P D vwCl [(pa, .inr (1, [.int pk, .int pf, .int ps, .int pn, .int pp, .int pm]))] s.heap := hP
  refine lv_aload_n hx hb dX1_isAllowed_0 rfl (lv_at hl 0 rfl) ?_
  refine va_get (D := D) (ci := 1) (v := .int pk) (C := RX1) (T := TX1) (N := 6) hx hb ht inA_X1 hown hK hP 0 rfl rfl 0 (by decide) (ht _ lf_X1_29) (fun _ h9 => h9) rfl dX1_isAllowed_1 ?_
  refine lv_bipush (v := 112) hx hb dX1_isAllowed_4 (by decide) ?_
  refine lv_icmp_ne (tgt := 24) hx hb dX1_isAllowed_6 (by decide) (fun c_1 => ?_) (fun c_1 => ?_)
  · have hc9 := c_1
    refine lv_aload_n hx hb dX1_isAllowed_24 rfl (lv_at hl 0 rfl) ?_
    refine va_get (D := D) (ci := 1) (v := .int pn) (C := RX1) (T := TX1) (N := 6) hx hb ht inA_X1 hown hK hP 0 rfl rfl 3 (by decide) (ht _ lf_X1_32) (fun _ h9 => h9) rfl dX1_isAllowed_25 ?_
    refine lv_if_le (tgt := 40) hx hb dX1_isAllowed_28 (by decide) (fun c_2 => ?_) (fun c_2 => ?_)
    · have hc9 := c_2
      refine lv_iconst (v := 0) hx hb dX1_isAllowed_40 (by decide) ?_
      refine lv_istore_n (lv' := [(3, .int 0), (0, .ref pa), (1, .int vx), (2, .int dx)]) hx hb dX1_isAllowed_41 rfl hl (by decide) rfl (fun ls hl => ?_)
      refine lv_iload_n hx hb dX1_isAllowed_42 rfl (lv_at hl 0 rfl) ?_
      refine lv_if_ne (tgt := 66) hx hb dX1_isAllowed_43 (by decide) (fun c9 => absurd (by decide) c9) (fun _ => ?_)
      refine lv_iload_n hx hb dX1_isAllowed_46 rfl (lv_at hl 2 rfl) ?_
      refine lv_aload_n hx hb dX1_isAllowed_47 rfl (lv_at hl 1 rfl) ?_
      have ct := k_cut_of (wc := [(pa, .inr (1, [.int pk, .int pf, .int ps, .int pn, .int pp, .int pm]))]) (wr := []) (tc := []) hG hS hA hK hP hD [0] [] [] rfl rfl (by decide) (by decide) (by decide) rfl
      refine k_endi (As := [.ref pa]) ct (k_runV (As := []) (rest := [.int vx]) S0 Lv_X1_53 rfl (ci := 1) (q0 := 0) rfl rfl ct (c_P_least l D pa pk pf ps pn pp pm s.heap.size) hl.1 rfl (Nat.le_of_ble_eq_true rfl) rfl dX1_isAllowed_48 ⟨⟨Nat.le_of_ble_eq_true rfl, Nat.le_of_ble_eq_true rfl⟩, Nat.le_of_ble_eq_true rfl, Nat.le_of_ble_eq_true rfl⟩) rfl rfl (fun r_3 _ H locs hw_4 hP hD hK hS => ?_)
      have hK : va_K D vwCl [] s := hK
      have hP : va_P D vwCl [(pa, .inr (1, [.int pk, .int pf, .int ps, .int pn, .int pp, .int pm]))] H := hP
      have hD : va_D A [(pa, .inr (1, [.int pk, .int pf, .int ps, .int pn, .int pp, .int pm]))] := hD
      have hw_4 : r_3 = (leastP pk pm) := hw_4
      have hw_4 := hw_4.symm
      subst hw_4
      refine k_nrm (y := (leastP pk pm)) rfl ?_
      refine lv_icmp_lt (tgt := 66) hx hb dX1_isAllowed_51 (by decide) (fun c_5 => ?_) (fun c_5 => ?_)
      · have hc9 := c_5
        refine lv_iconst (v := 0) hx hb dX1_isAllowed_66 (by decide) ?_
        have hP9 : va_P D vwCl [(pa, .inr (1, [.int pk, .int pf, .int ps, .int pn, .int pp, .int pm]))] H := hP.sub [0] rfl
        have hD9 : va_D A [(pa, .inr (1, [.int pk, .int pf, .int ps, .int pn, .int pp, .int pm]))] := hD.sub [0] (by decide) rfl
        have hK9 : va_K D vwCl [] s := hK.sub [] rfl
        exact W.zret (v := 0) hx hb hr (rfl) (fun t ht9 hW9 => ⟨⟨0, (), rfl, by (unfold alwF; rw [if_neg c_1, if_pos c_2]; unfold alwB; rw [if_pos c_5]), ⟨by rw [ht9]; exact hP9, va_K.moved hW9.alike hK9, hD9⟩⟩, hS.F ht9⟩) hS.2.2 dX1_isAllowed_67
      · have hc9 := c_5
        refine lv_iload_n hx hb dX1_isAllowed_54 rfl (lv_at hl 2 rfl) ?_
        refine lv_aload_n hx hb dX1_isAllowed_55 rfl (lv_at hl 1 rfl) ?_
        have ct := k_cut_of (wc := [(pa, .inr (1, [.int pk, .int pf, .int ps, .int pn, .int pp, .int pm]))]) (wr := []) (tc := []) hG hS hA hK hP hD [0] [] [] rfl rfl (by decide) (by decide) (by decide) rfl
        refine k_endi (As := [.ref pa]) ct (k_runV (As := []) (rest := [.int vx]) S0 Lv_X1_57 rfl (ci := 1) (q0 := 0) rfl rfl ct (c_P_grt l D pa pk pf ps pn pp pm H.size) hl.1 rfl (Nat.le_of_ble_eq_true rfl) rfl dX1_isAllowed_56 ⟨⟨Nat.le_of_ble_eq_true rfl, Nat.le_of_ble_eq_true rfl⟩, Nat.le_of_ble_eq_true rfl, Nat.le_of_ble_eq_true rfl⟩) rfl rfl (fun r_6 _ H locs hw_7 hP hD hK hS => ?_)
        have hK : va_K D vwCl [] s := hK
        have hP : va_P D vwCl [(pa, .inr (1, [.int pk, .int pf, .int ps, .int pn, .int pp, .int pm]))] H := hP
        have hD : va_D A [(pa, .inr (1, [.int pk, .int pf, .int ps, .int pn, .int pp, .int pm]))] := hD
        have hw_7 : r_6 = (grtP pk pp) := hw_7
        have hw_7 := hw_7.symm
        subst hw_7
        refine k_nrm (y := (grtP pk pp)) rfl ?_
        refine lv_icmp_gt (tgt := 66) hx hb dX1_isAllowed_59 (by decide) (fun c_8 => ?_) (fun c_8 => ?_)
        · have hc9 := c_8
          refine lv_iconst (v := 0) hx hb dX1_isAllowed_66 (by decide) ?_
          have hP9 : va_P D vwCl [(pa, .inr (1, [.int pk, .int pf, .int ps, .int pn, .int pp, .int pm]))] H := hP.sub [0] rfl
          have hD9 : va_D A [(pa, .inr (1, [.int pk, .int pf, .int ps, .int pn, .int pp, .int pm]))] := hD.sub [0] (by decide) rfl
          have hK9 : va_K D vwCl [] s := hK.sub [] rfl
          exact W.zret (v := 0) hx hb hr (rfl) (fun t ht9 hW9 => ⟨⟨0, (), rfl, by (unfold alwF; rw [if_neg c_1, if_pos c_2]; unfold alwB; rw [if_neg c_5, if_pos c_8]), ⟨by rw [ht9]; exact hP9, va_K.moved hW9.alike hK9, hD9⟩⟩, hS.F ht9⟩) hS.2.2 dX1_isAllowed_67
        · have hc9 := c_8
          refine lv_iconst (v := 1) hx hb dX1_isAllowed_62 (by decide) ?_
          refine lv_goto (tgt := 67) hx hb dX1_isAllowed_63 (by decide) ?_
          have hP9 : va_P D vwCl [(pa, .inr (1, [.int pk, .int pf, .int ps, .int pn, .int pp, .int pm]))] H := hP.sub [0] rfl
          have hD9 : va_D A [(pa, .inr (1, [.int pk, .int pf, .int ps, .int pn, .int pp, .int pm]))] := hD.sub [0] (by decide) rfl
          have hK9 : va_K D vwCl [] s := hK.sub [] rfl
          exact W.zret (v := 1) hx hb hr (rfl) (fun t ht9 hW9 => ⟨⟨1, (), rfl, by (unfold alwF; rw [if_neg c_1, if_pos c_2]; unfold alwB; rw [if_neg c_5, if_neg c_8]), ⟨by rw [ht9]; exact hP9, va_K.moved hW9.alike hK9, hD9⟩⟩, hS.F ht9⟩) hS.2.2 dX1_isAllowed_67
    · have hc9 := c_2
      refine lv_iload_n hx hb dX1_isAllowed_31 rfl (lv_at hl 1 rfl) ?_
      refine lv_iload_n hx hb dX1_isAllowed_32 rfl (lv_at hl 2 rfl) ?_
      refine lv_icmp_ne (tgt := 40) hx hb dX1_isAllowed_33 (by decide) (fun c_9 => ?_) (fun c_9 => ?_)
      · have hc9 := c_9
        refine lv_iconst (v := 0) hx hb dX1_isAllowed_40 (by decide) ?_
        refine lv_istore_n (lv' := [(3, .int 0), (0, .ref pa), (1, .int vx), (2, .int dx)]) hx hb dX1_isAllowed_41 rfl hl (by decide) rfl (fun ls hl => ?_)
        refine lv_iload_n hx hb dX1_isAllowed_42 rfl (lv_at hl 0 rfl) ?_
        refine lv_if_ne (tgt := 66) hx hb dX1_isAllowed_43 (by decide) (fun c9 => absurd (by decide) c9) (fun _ => ?_)
        refine lv_iload_n hx hb dX1_isAllowed_46 rfl (lv_at hl 2 rfl) ?_
        refine lv_aload_n hx hb dX1_isAllowed_47 rfl (lv_at hl 1 rfl) ?_
        have ct := k_cut_of (wc := [(pa, .inr (1, [.int pk, .int pf, .int ps, .int pn, .int pp, .int pm]))]) (wr := []) (tc := []) hG hS hA hK hP hD [0] [] [] rfl rfl (by decide) (by decide) (by decide) rfl
        refine k_endi (As := [.ref pa]) ct (k_runV (As := []) (rest := [.int vx]) S0 Lv_X1_53 rfl (ci := 1) (q0 := 0) rfl rfl ct (c_P_least l D pa pk pf ps pn pp pm s.heap.size) hl.1 rfl (Nat.le_of_ble_eq_true rfl) rfl dX1_isAllowed_48 ⟨⟨Nat.le_of_ble_eq_true rfl, Nat.le_of_ble_eq_true rfl⟩, Nat.le_of_ble_eq_true rfl, Nat.le_of_ble_eq_true rfl⟩) rfl rfl (fun r_10 _ H locs hw_11 hP hD hK hS => ?_)
        have hK : va_K D vwCl [] s := hK
        have hP : va_P D vwCl [(pa, .inr (1, [.int pk, .int pf, .int ps, .int pn, .int pp, .int pm]))] H := hP
        have hD : va_D A [(pa, .inr (1, [.int pk, .int pf, .int ps, .int pn, .int pp, .int pm]))] := hD
        have hw_11 : r_10 = (leastP pk pm) := hw_11
        have hw_11 := hw_11.symm
        subst hw_11
        refine k_nrm (y := (leastP pk pm)) rfl ?_
        refine lv_icmp_lt (tgt := 66) hx hb dX1_isAllowed_51 (by decide) (fun c_12 => ?_) (fun c_12 => ?_)
        · have hc9 := c_12
          refine lv_iconst (v := 0) hx hb dX1_isAllowed_66 (by decide) ?_
          have hP9 : va_P D vwCl [(pa, .inr (1, [.int pk, .int pf, .int ps, .int pn, .int pp, .int pm]))] H := hP.sub [0] rfl
          have hD9 : va_D A [(pa, .inr (1, [.int pk, .int pf, .int ps, .int pn, .int pp, .int pm]))] := hD.sub [0] (by decide) rfl
          have hK9 : va_K D vwCl [] s := hK.sub [] rfl
          exact W.zret (v := 0) hx hb hr (rfl) (fun t ht9 hW9 => ⟨⟨0, (), rfl, by (unfold alwF; rw [if_neg c_1, if_neg c_2, if_neg c_9]; unfold alwB; rw [if_pos c_12]), ⟨by rw [ht9]; exact hP9, va_K.moved hW9.alike hK9, hD9⟩⟩, hS.F ht9⟩) hS.2.2 dX1_isAllowed_67
        · have hc9 := c_12
          refine lv_iload_n hx hb dX1_isAllowed_54 rfl (lv_at hl 2 rfl) ?_
          refine lv_aload_n hx hb dX1_isAllowed_55 rfl (lv_at hl 1 rfl) ?_
          have ct := k_cut_of (wc := [(pa, .inr (1, [.int pk, .int pf, .int ps, .int pn, .int pp, .int pm]))]) (wr := []) (tc := []) hG hS hA hK hP hD [0] [] [] rfl rfl (by decide) (by decide) (by decide) rfl
          refine k_endi (As := [.ref pa]) ct (k_runV (As := []) (rest := [.int vx]) S0 Lv_X1_57 rfl (ci := 1) (q0 := 0) rfl rfl ct (c_P_grt l D pa pk pf ps pn pp pm H.size) hl.1 rfl (Nat.le_of_ble_eq_true rfl) rfl dX1_isAllowed_56 ⟨⟨Nat.le_of_ble_eq_true rfl, Nat.le_of_ble_eq_true rfl⟩, Nat.le_of_ble_eq_true rfl, Nat.le_of_ble_eq_true rfl⟩) rfl rfl (fun r_13 _ H locs hw_14 hP hD hK hS => ?_)
          have hK : va_K D vwCl [] s := hK
          have hP : va_P D vwCl [(pa, .inr (1, [.int pk, .int pf, .int ps, .int pn, .int pp, .int pm]))] H := hP
          have hD : va_D A [(pa, .inr (1, [.int pk, .int pf, .int ps, .int pn, .int pp, .int pm]))] := hD
          have hw_14 : r_13 = (grtP pk pp) := hw_14
          have hw_14 := hw_14.symm
          subst hw_14
          refine k_nrm (y := (grtP pk pp)) rfl ?_
          refine lv_icmp_gt (tgt := 66) hx hb dX1_isAllowed_59 (by decide) (fun c_15 => ?_) (fun c_15 => ?_)
          · have hc9 := c_15
            refine lv_iconst (v := 0) hx hb dX1_isAllowed_66 (by decide) ?_
            have hP9 : va_P D vwCl [(pa, .inr (1, [.int pk, .int pf, .int ps, .int pn, .int pp, .int pm]))] H := hP.sub [0] rfl
            have hD9 : va_D A [(pa, .inr (1, [.int pk, .int pf, .int ps, .int pn, .int pp, .int pm]))] := hD.sub [0] (by decide) rfl
            have hK9 : va_K D vwCl [] s := hK.sub [] rfl
            exact W.zret (v := 0) hx hb hr (rfl) (fun t ht9 hW9 => ⟨⟨0, (), rfl, by (unfold alwF; rw [if_neg c_1, if_neg c_2, if_neg c_9]; unfold alwB; rw [if_neg c_12, if_pos c_15]), ⟨by rw [ht9]; exact hP9, va_K.moved hW9.alike hK9, hD9⟩⟩, hS.F ht9⟩) hS.2.2 dX1_isAllowed_67
          · have hc9 := c_15
            refine lv_iconst (v := 1) hx hb dX1_isAllowed_62 (by decide) ?_
            refine lv_goto (tgt := 67) hx hb dX1_isAllowed_63 (by decide) ?_
            have hP9 : va_P D vwCl [(pa, .inr (1, [.int pk, .int pf, .int ps, .int pn, .int pp, .int pm]))] H := hP.sub [0] rfl
            have hD9 : va_D A [(pa, .inr (1, [.int pk, .int pf, .int ps, .int pn, .int pp, .int pm]))] := hD.sub [0] (by decide) rfl
            have hK9 : va_K D vwCl [] s := hK.sub [] rfl
            exact W.zret (v := 1) hx hb hr (rfl) (fun t ht9 hW9 => ⟨⟨1, (), rfl, by (unfold alwF; rw [if_neg c_1, if_neg c_2, if_neg c_9]; unfold alwB; rw [if_neg c_12, if_neg c_15]), ⟨by rw [ht9]; exact hP9, va_K.moved hW9.alike hK9, hD9⟩⟩, hS.F ht9⟩) hS.2.2 dX1_isAllowed_67
      · have hc9 := c_9
        refine lv_iconst (v := 1) hx hb dX1_isAllowed_36 (by decide) ?_
        refine lv_goto (tgt := 41) hx hb dX1_isAllowed_37 (by decide) ?_
        refine lv_istore_n (lv' := [(3, .int 1), (0, .ref pa), (1, .int vx), (2, .int dx)]) hx hb dX1_isAllowed_41 rfl hl (by decide) rfl (fun ls hl => ?_)
        refine lv_iload_n hx hb dX1_isAllowed_42 rfl (lv_at hl 0 rfl) ?_
        refine lv_if_ne (tgt := 66) hx hb dX1_isAllowed_43 (by decide) (fun _ => ?_) (fun c9 => absurd c9 (by decide))
        refine lv_iconst (v := 0) hx hb dX1_isAllowed_66 (by decide) ?_
        have hP9 : va_P D vwCl [(pa, .inr (1, [.int pk, .int pf, .int ps, .int pn, .int pp, .int pm]))] s.heap := hP.sub [0] rfl
        have hD9 : va_D A [(pa, .inr (1, [.int pk, .int pf, .int ps, .int pn, .int pp, .int pm]))] := hD.sub [0] (by decide) rfl
        have hK9 : va_K D vwCl [] s := hK.sub [] rfl
        exact W.zret (v := 0) hx hb hr (rfl) (fun t ht9 hW9 => ⟨⟨0, (), rfl, by (unfold alwF; rw [if_neg c_1, if_neg c_2, if_pos c_9]), ⟨by rw [ht9]; exact hP9, va_K.moved hW9.alike hK9, hD9⟩⟩, hS.F ht9⟩) hS.2.2 dX1_isAllowed_67
  · have hc9 := c_1
    refine lv_aload_n hx hb dX1_isAllowed_9 rfl (lv_at hl 0 rfl) ?_
    refine va_get (D := D) (ci := 1) (v := .int pn) (C := RX1) (T := TX1) (N := 6) hx hb ht inA_X1 hown hK hP 0 rfl rfl 3 (by decide) (ht _ lf_X1_32) (fun _ h9 => h9) rfl dX1_isAllowed_10 ?_
    refine lv_bipush (v := 8) hx hb dX1_isAllowed_13 (by decide) ?_
    refine lv_icmp_ge (tgt := 22) hx hb dX1_isAllowed_15 (by decide) (fun c_16 => ?_) (fun c_16 => ?_)
    · have hc9 := c_16
      refine lv_iconst (v := 0) hx hb dX1_isAllowed_22 (by decide) ?_
      have hP9 : va_P D vwCl [(pa, .inr (1, [.int pk, .int pf, .int ps, .int pn, .int pp, .int pm]))] s.heap := hP.sub [0] rfl
      have hD9 : va_D A [(pa, .inr (1, [.int pk, .int pf, .int ps, .int pn, .int pp, .int pm]))] := hD.sub [0] (by decide) rfl
      have hK9 : va_K D vwCl [] s := hK.sub [] rfl
      exact W.zret (v := 0) hx hb hr (rfl) (fun t ht9 hW9 => ⟨⟨0, (), rfl, by (unfold alwF; rw [if_pos c_1, if_pos c_16]), ⟨by rw [ht9]; exact hP9, va_K.moved hW9.alike hK9, hD9⟩⟩, hS.F ht9⟩) hS.2.2 dX1_isAllowed_23
    · have hc9 := c_16
      refine lv_iconst (v := 1) hx hb dX1_isAllowed_18 (by decide) ?_
      refine lv_goto (tgt := 23) hx hb dX1_isAllowed_19 (by decide) ?_
      have hP9 : va_P D vwCl [(pa, .inr (1, [.int pk, .int pf, .int ps, .int pn, .int pp, .int pm]))] s.heap := hP.sub [0] rfl
      have hD9 : va_D A [(pa, .inr (1, [.int pk, .int pf, .int ps, .int pn, .int pp, .int pm]))] := hD.sub [0] (by decide) rfl
      have hK9 : va_K D vwCl [] s := hK.sub [] rfl
      exact W.zret (v := 1) hx hb hr (rfl) (fun t ht9 hW9 => ⟨⟨1, (), rfl, by (unfold alwF; rw [if_pos c_1, if_neg c_16]), ⟨by rw [ht9]; exact hP9, va_K.moved hW9.alike hK9, hD9⟩⟩, hS.F ht9⟩) hS.2.2 dX1_isAllowed_23
set_option maxHeartbeats 4000000 in
set_option maxRecDepth 100000 in
theorem c_P_isEnd (l : Launch) (D : va_G) (pa : Nat) (pk : Int32) (pf : Int32) (ps : Int32) (pn : Int32) (pp : Int32) (pm : Int32) (sz : Nat) : k_Mi (S := Unit) l D yX1_isAtEndOfCommand cX1_isAtEndOfCommand 2 (some .boolean) 0 0 0 0 [.ref pa] [(pa, .inr (1, [.int pk, .int pf, .int ps, .int pn, .int pp, .int pm]))] [] (fun (r : Int32) (_ : Unit) => r = (endF pk pn pp)) (fun _ => [(pa, .inr (1, [.int pk, .int pf, .int ps, .int pn, .int pp, .int pm]))]) (fun _ => []) sz := by
  refine Met.ofW (cc := cX1_isAtEndOfCommand) (maxL := 2) (ret := (some .boolean)) (by decide) rfl ?_
  intro p e s m args below meth c s₁ B hml hv
  obtain ⟨rfl, hsz, hP, hK, hD0, hG⟩ := hv
  have hx := B.exec
  have hb := B.bytes
  have hr := B.returns
  have ht : ∀ v9 ∈ wsA, v9.before ([.ref pa] : List Value).toArray s = true := fun v9 h9 => atoms_spec (ws := k_ws yX1_isAtEndOfCommand cX1_isAtEndOfCommand 2 (some .boolean)) B.pre v9 (List.mem_cons_of_mem _ h9)
  have hown : s.vm.findClass RX1 = some m.cls := findClass_of_methodNamed B.named
  have S0 : k_C p s m ([.ref pa] : List Value).toArray c cX1_isAtEndOfCommand 2 RX1 := ⟨hx, hb, hml, hown, ht⟩
  have hlocks := B.notSynchronized
  subst hsz
  have hD := hD0.self (sz := s.heap.size)
  generalize hAe : va_A [(pa, .inr (1, [.int pk, .int pf, .int ps, .int pn, .int pp, .int pm]))] s.heap.size = A at hD hG ⊢
  have hA : ∀ q : Nat, s.heap.size ≤ q → A q := fun q h => by rw [← hAe]; exact Or.inr h
  have hS : va_S A s.heap s.heap [] := va_S.rf
  have hl := lv_entry ([.ref pa]) (n := 2) (Nat.le_of_ble_eq_true rfl)
  rw [lg_entry_eq]
  generalize (lg_sl ([.ref pa]) ++ List.replicate (2 - (lg_sl ([.ref pa])).length) Slot.unset).toArray = ls at hl ⊢
  have hl : lv_has ls 2 [(0, .ref pa)] := hl
  have hP : va_P D vwCl [(pa, .inr (1, [.int pk, .int pf, .int ps, .int pn, .int pp, .int pm]))] s.heap := hP
  refine lv_aload_n hx hb dX1_isAtEndOfCommand_0 rfl (lv_at hl 0 rfl) ?_
  refine va_get (D := D) (ci := 1) (v := .int pp) (C := RX1) (T := TX1) (N := 6) hx hb ht inA_X1 hown hK hP 0 rfl rfl 4 (by decide) (ht _ lf_X1_11) (fun _ h9 => h9) rfl dX1_isAtEndOfCommand_1 ?_
  refine lv_iconst (v := 2) hx hb dX1_isAtEndOfCommand_4 (by decide) ?_
  refine lv_icmp_eq (tgt := 25) hx hb dX1_isAtEndOfCommand_5 (by decide) (fun c_1 => ?_) (fun c_1 => ?_)
  · have hc9 := c_1
    refine lv_iconst (v := 1) hx hb dX1_isAtEndOfCommand_25 (by decide) ?_
    refine lv_goto (tgt := 30) hx hb dX1_isAtEndOfCommand_26 (by decide) ?_
    refine lv_istore_n (lv' := [(1, .int 1), (0, .ref pa)]) hx hb dX1_isAtEndOfCommand_30 rfl hl (by decide) rfl (fun ls hl => ?_)
    refine lv_iload_n hx hb dX1_isAtEndOfCommand_31 rfl (lv_at hl 0 rfl) ?_
    refine lv_if_eq (tgt := 46) hx hb dX1_isAtEndOfCommand_32 (by decide) (fun c9 => absurd c9 (by decide)) (fun _ => ?_)
    refine lv_aload_n hx hb dX1_isAtEndOfCommand_35 rfl (lv_at hl 1 rfl) ?_
    refine va_get (D := D) (ci := 1) (v := .int pn) (C := RX1) (T := TX1) (N := 6) hx hb ht inA_X1 hown hK hP 0 rfl rfl 3 (by decide) (ht _ lf_X1_32) (fun _ h9 => h9) rfl dX1_isAtEndOfCommand_36 ?_
    refine lv_if_le (tgt := 46) hx hb dX1_isAtEndOfCommand_39 (by decide) (fun c_2 => ?_) (fun c_2 => ?_)
    · have hc9 := c_2
      refine lv_iconst (v := 0) hx hb dX1_isAtEndOfCommand_46 (by decide) ?_
      have hP9 : va_P D vwCl [(pa, .inr (1, [.int pk, .int pf, .int ps, .int pn, .int pp, .int pm]))] s.heap := hP.sub [0] rfl
      have hD9 : va_D A [(pa, .inr (1, [.int pk, .int pf, .int ps, .int pn, .int pp, .int pm]))] := hD.sub [0] (by decide) rfl
      have hK9 : va_K D vwCl [] s := hK.sub [] rfl
      exact W.zret (v := 0) hx hb hr (rfl) (fun t ht9 hW9 => ⟨⟨0, (), rfl, by (unfold endF; rw [if_pos c_1]; unfold endN; rw [if_pos c_2]), ⟨by rw [ht9]; exact hP9, va_K.moved hW9.alike hK9, hD9⟩⟩, hS.F ht9⟩) hS.2.2 dX1_isAtEndOfCommand_47
    · have hc9 := c_2
      refine lv_iconst (v := 1) hx hb dX1_isAtEndOfCommand_42 (by decide) ?_
      refine lv_goto (tgt := 47) hx hb dX1_isAtEndOfCommand_43 (by decide) ?_
      have hP9 : va_P D vwCl [(pa, .inr (1, [.int pk, .int pf, .int ps, .int pn, .int pp, .int pm]))] s.heap := hP.sub [0] rfl
      have hD9 : va_D A [(pa, .inr (1, [.int pk, .int pf, .int ps, .int pn, .int pp, .int pm]))] := hD.sub [0] (by decide) rfl
      have hK9 : va_K D vwCl [] s := hK.sub [] rfl
      exact W.zret (v := 1) hx hb hr (rfl) (fun t ht9 hW9 => ⟨⟨1, (), rfl, by (unfold endF; rw [if_pos c_1]; unfold endN; rw [if_neg c_2]), ⟨by rw [ht9]; exact hP9, va_K.moved hW9.alike hK9, hD9⟩⟩, hS.F ht9⟩) hS.2.2 dX1_isAtEndOfCommand_47
  · have hc9 := c_1
    refine lv_aload_n hx hb dX1_isAtEndOfCommand_8 rfl (lv_at hl 0 rfl) ?_
    refine va_get (D := D) (ci := 1) (v := .int pp) (C := RX1) (T := TX1) (N := 6) hx hb ht inA_X1 hown hK hP 0 rfl rfl 4 (by decide) (ht _ lf_X1_11) (fun _ h9 => h9) rfl dX1_isAtEndOfCommand_9 ?_
    refine lv_iconst (v := 1) hx hb dX1_isAtEndOfCommand_12 (by decide) ?_
    refine lv_icmp_ne (tgt := 29) hx hb dX1_isAtEndOfCommand_13 (by decide) (fun c_3 => ?_) (fun c_3 => ?_)
    · have hc9 := c_3
      refine lv_iconst (v := 0) hx hb dX1_isAtEndOfCommand_29 (by decide) ?_
      refine lv_istore_n (lv' := [(1, .int 0), (0, .ref pa)]) hx hb dX1_isAtEndOfCommand_30 rfl hl (by decide) rfl (fun ls hl => ?_)
      refine lv_iload_n hx hb dX1_isAtEndOfCommand_31 rfl (lv_at hl 0 rfl) ?_
      refine lv_if_eq (tgt := 46) hx hb dX1_isAtEndOfCommand_32 (by decide) (fun _ => ?_) (fun c9 => absurd (by decide) c9)
      refine lv_iconst (v := 0) hx hb dX1_isAtEndOfCommand_46 (by decide) ?_
      have hP9 : va_P D vwCl [(pa, .inr (1, [.int pk, .int pf, .int ps, .int pn, .int pp, .int pm]))] s.heap := hP.sub [0] rfl
      have hD9 : va_D A [(pa, .inr (1, [.int pk, .int pf, .int ps, .int pn, .int pp, .int pm]))] := hD.sub [0] (by decide) rfl
      have hK9 : va_K D vwCl [] s := hK.sub [] rfl
      exact W.zret (v := 0) hx hb hr (rfl) (fun t ht9 hW9 => ⟨⟨0, (), rfl, by (unfold endF; rw [if_neg c_1, if_neg c_3]), ⟨by rw [ht9]; exact hP9, va_K.moved hW9.alike hK9, hD9⟩⟩, hS.F ht9⟩) hS.2.2 dX1_isAtEndOfCommand_47
    · have hc9 := c_3
      refine lv_aload_n hx hb dX1_isAtEndOfCommand_16 rfl (lv_at hl 0 rfl) ?_
      refine va_get (D := D) (ci := 1) (v := .int pk) (C := RX1) (T := TX1) (N := 6) hx hb ht inA_X1 hown hK hP 0 rfl rfl 0 (by decide) (ht _ lf_X1_29) (fun _ h9 => h9) rfl dX1_isAtEndOfCommand_17 ?_
      refine lv_bipush (v := 112) hx hb dX1_isAtEndOfCommand_20 (by decide) ?_
      refine lv_icmp_ne (tgt := 29) hx hb dX1_isAtEndOfCommand_22 (by decide) (fun c_4 => ?_) (fun c_4 => ?_)
      · have hc9 := c_4
        refine lv_iconst (v := 0) hx hb dX1_isAtEndOfCommand_29 (by decide) ?_
        refine lv_istore_n (lv' := [(1, .int 0), (0, .ref pa)]) hx hb dX1_isAtEndOfCommand_30 rfl hl (by decide) rfl (fun ls hl => ?_)
        refine lv_iload_n hx hb dX1_isAtEndOfCommand_31 rfl (lv_at hl 0 rfl) ?_
        refine lv_if_eq (tgt := 46) hx hb dX1_isAtEndOfCommand_32 (by decide) (fun _ => ?_) (fun c9 => absurd (by decide) c9)
        refine lv_iconst (v := 0) hx hb dX1_isAtEndOfCommand_46 (by decide) ?_
        have hP9 : va_P D vwCl [(pa, .inr (1, [.int pk, .int pf, .int ps, .int pn, .int pp, .int pm]))] s.heap := hP.sub [0] rfl
        have hD9 : va_D A [(pa, .inr (1, [.int pk, .int pf, .int ps, .int pn, .int pp, .int pm]))] := hD.sub [0] (by decide) rfl
        have hK9 : va_K D vwCl [] s := hK.sub [] rfl
        exact W.zret (v := 0) hx hb hr (rfl) (fun t ht9 hW9 => ⟨⟨0, (), rfl, by (unfold endF; rw [if_neg c_1, if_pos c_3, if_neg c_4]), ⟨by rw [ht9]; exact hP9, va_K.moved hW9.alike hK9, hD9⟩⟩, hS.F ht9⟩) hS.2.2 dX1_isAtEndOfCommand_47
      · have hc9 := c_4
        refine lv_iconst (v := 1) hx hb dX1_isAtEndOfCommand_25 (by decide) ?_
        refine lv_goto (tgt := 30) hx hb dX1_isAtEndOfCommand_26 (by decide) ?_
        refine lv_istore_n (lv' := [(1, .int 1), (0, .ref pa)]) hx hb dX1_isAtEndOfCommand_30 rfl hl (by decide) rfl (fun ls hl => ?_)
        refine lv_iload_n hx hb dX1_isAtEndOfCommand_31 rfl (lv_at hl 0 rfl) ?_
        refine lv_if_eq (tgt := 46) hx hb dX1_isAtEndOfCommand_32 (by decide) (fun c9 => absurd c9 (by decide)) (fun _ => ?_)
        refine lv_aload_n hx hb dX1_isAtEndOfCommand_35 rfl (lv_at hl 1 rfl) ?_
        refine va_get (D := D) (ci := 1) (v := .int pn) (C := RX1) (T := TX1) (N := 6) hx hb ht inA_X1 hown hK hP 0 rfl rfl 3 (by decide) (ht _ lf_X1_32) (fun _ h9 => h9) rfl dX1_isAtEndOfCommand_36 ?_
        refine lv_if_le (tgt := 46) hx hb dX1_isAtEndOfCommand_39 (by decide) (fun c_5 => ?_) (fun c_5 => ?_)
        · have hc9 := c_5
          refine lv_iconst (v := 0) hx hb dX1_isAtEndOfCommand_46 (by decide) ?_
          have hP9 : va_P D vwCl [(pa, .inr (1, [.int pk, .int pf, .int ps, .int pn, .int pp, .int pm]))] s.heap := hP.sub [0] rfl
          have hD9 : va_D A [(pa, .inr (1, [.int pk, .int pf, .int ps, .int pn, .int pp, .int pm]))] := hD.sub [0] (by decide) rfl
          have hK9 : va_K D vwCl [] s := hK.sub [] rfl
          exact W.zret (v := 0) hx hb hr (rfl) (fun t ht9 hW9 => ⟨⟨0, (), rfl, by (unfold endF; rw [if_neg c_1, if_pos c_3, if_pos c_4]; unfold endN; rw [if_pos c_5]), ⟨by rw [ht9]; exact hP9, va_K.moved hW9.alike hK9, hD9⟩⟩, hS.F ht9⟩) hS.2.2 dX1_isAtEndOfCommand_47
        · have hc9 := c_5
          refine lv_iconst (v := 1) hx hb dX1_isAtEndOfCommand_42 (by decide) ?_
          refine lv_goto (tgt := 47) hx hb dX1_isAtEndOfCommand_43 (by decide) ?_
          have hP9 : va_P D vwCl [(pa, .inr (1, [.int pk, .int pf, .int ps, .int pn, .int pp, .int pm]))] s.heap := hP.sub [0] rfl
          have hD9 : va_D A [(pa, .inr (1, [.int pk, .int pf, .int ps, .int pn, .int pp, .int pm]))] := hD.sub [0] (by decide) rfl
          have hK9 : va_K D vwCl [] s := hK.sub [] rfl
          exact W.zret (v := 1) hx hb hr (rfl) (fun t ht9 hW9 => ⟨⟨1, (), rfl, by (unfold endF; rw [if_neg c_1, if_pos c_3, if_pos c_4]; unfold endN; rw [if_neg c_5]), ⟨by rw [ht9]; exact hP9, va_K.moved hW9.alike hK9, hD9⟩⟩, hS.F ht9⟩) hS.2.2 dX1_isAtEndOfCommand_47
set_option maxHeartbeats 4000000 in
set_option maxRecDepth 100000 in
theorem c_P_signed (l : Launch) (D : va_G) (pa : Nat) (pk : Int32) (pf : Int32) (ps : Int32) (pn : Int32) (pp : Int32) (pm : Int32) (sz : Nat) : k_Mi (S := Unit) l D yX1_signedSecond cX1_signedSecond 1 (some .int) 0 0 0 0 [.ref pa] [(pa, .inr (1, [.int pk, .int pf, .int ps, .int pn, .int pp, .int pm]))] [] (fun (r : Int32) (_ : Unit) => r = (sgnP ps pm)) (fun _ => [(pa, .inr (1, [.int pk, .int pf, .int ps, .int pn, .int pp, .int pm]))]) (fun _ => []) sz := by
  refine Met.ofW (cc := cX1_signedSecond) (maxL := 1) (ret := (some .int)) (by decide) rfl ?_
  intro p e s m args below meth c s₁ B hml hv
  obtain ⟨rfl, hsz, hP, hK, hD0, hG⟩ := hv
  have hx := B.exec
  have hb := B.bytes
  have hr := B.returns
  have ht : ∀ v9 ∈ wsA, v9.before ([.ref pa] : List Value).toArray s = true := fun v9 h9 => atoms_spec (ws := k_ws yX1_signedSecond cX1_signedSecond 1 (some .int)) B.pre v9 (List.mem_cons_of_mem _ h9)
  have hown : s.vm.findClass RX1 = some m.cls := findClass_of_methodNamed B.named
  have S0 : k_C p s m ([.ref pa] : List Value).toArray c cX1_signedSecond 1 RX1 := ⟨hx, hb, hml, hown, ht⟩
  have hlocks := B.notSynchronized
  subst hsz
  have hD := hD0.self (sz := s.heap.size)
  generalize hAe : va_A [(pa, .inr (1, [.int pk, .int pf, .int ps, .int pn, .int pp, .int pm]))] s.heap.size = A at hD hG ⊢
  have hA : ∀ q : Nat, s.heap.size ≤ q → A q := fun q h => by rw [← hAe]; exact Or.inr h
  have hS : va_S A s.heap s.heap [] := va_S.rf
  have hl := lv_entry ([.ref pa]) (n := 1) (Nat.le_of_ble_eq_true rfl)
  rw [lg_entry_eq]
  generalize (lg_sl ([.ref pa]) ++ List.replicate (1 - (lg_sl ([.ref pa])).length) Slot.unset).toArray = ls at hl ⊢
  have hl : lv_has ls 1 [(0, .ref pa)] := hl
  have hP : va_P D vwCl [(pa, .inr (1, [.int pk, .int pf, .int ps, .int pn, .int pp, .int pm]))] s.heap := hP
  refine lv_aload_n hx hb dX1_signedSecond_0 rfl (lv_at hl 0 rfl) ?_
  refine va_get (D := D) (ci := 1) (v := .int pm) (C := RX1) (T := TX1) (N := 6) hx hb ht inA_X1 hown hK hP 0 rfl rfl 5 (by decide) (ht _ lf_X1_35) (fun _ h9 => h9) rfl dX1_signedSecond_1 ?_
  refine lv_if_eq (tgt := 15) hx hb dX1_signedSecond_4 (by decide) (fun c_1 => ?_) (fun c_1 => ?_)
  · have hc9 := c_1
    refine lv_aload_n hx hb dX1_signedSecond_15 rfl (lv_at hl 0 rfl) ?_
    refine va_get (D := D) (ci := 1) (v := .int ps) (C := RX1) (T := TX1) (N := 6) hx hb ht inA_X1 hown hK hP 0 rfl rfl 2 (by decide) (ht _ lf_X1_39) (fun _ h9 => h9) rfl dX1_signedSecond_16 ?_
    have hP9 : va_P D vwCl [(pa, .inr (1, [.int pk, .int pf, .int ps, .int pn, .int pp, .int pm]))] s.heap := hP.sub [0] rfl
    have hD9 : va_D A [(pa, .inr (1, [.int pk, .int pf, .int ps, .int pn, .int pp, .int pm]))] := hD.sub [0] (by decide) rfl
    have hK9 : va_K D vwCl [] s := hK.sub [] rfl
    exact W.iret (v := ps) hx hb hr (fun t ht9 hW9 => ⟨⟨ps, (), rfl, by (unfold sgnP; rw [if_pos c_1]), ⟨by rw [ht9]; exact hP9, va_K.moved hW9.alike hK9, hD9⟩⟩, hS.F ht9⟩) hS.2.2 dX1_signedSecond_19
  · have hc9 := c_1
    refine lv_aload_n hx hb dX1_signedSecond_7 rfl (lv_at hl 0 rfl) ?_
    refine va_get (D := D) (ci := 1) (v := .int ps) (C := RX1) (T := TX1) (N := 6) hx hb ht inA_X1 hown hK hP 0 rfl rfl 2 (by decide) (ht _ lf_X1_39) (fun _ h9 => h9) rfl dX1_signedSecond_8 ?_
    refine lv_ineg hx hb dX1_signedSecond_11 ?_
    refine k_nrm (y := (-ps)) (rfl) ?_
    refine lv_goto (tgt := 19) hx hb dX1_signedSecond_12 (by decide) ?_
    have hP9 : va_P D vwCl [(pa, .inr (1, [.int pk, .int pf, .int ps, .int pn, .int pp, .int pm]))] s.heap := hP.sub [0] rfl
    have hD9 : va_D A [(pa, .inr (1, [.int pk, .int pf, .int ps, .int pn, .int pp, .int pm]))] := hD.sub [0] (by decide) rfl
    have hK9 : va_K D vwCl [] s := hK.sub [] rfl
    exact W.iret (v := (-ps)) hx hb hr (fun t ht9 hW9 => ⟨⟨(-ps), (), rfl, by (unfold sgnP; rw [if_neg c_1]), ⟨by rw [ht9]; exact hP9, va_K.moved hW9.alike hK9, hD9⟩⟩, hS.F ht9⟩) hS.2.2 dX1_signedSecond_19
set_option maxHeartbeats 4000000 in
set_option maxRecDepth 100000 in
theorem c_P_startNumber (l : Launch) (D : va_G) (pa : Nat) (pk : Int32) (pf : Int32) (ps : Int32) (pn : Int32) (pp : Int32) (pm : Int32) (cx : Int32) (sz : Nat) : k_Mv (S := Unit) l D yX1_startNumber cX1_startNumber 2 none 0 0 0 0 [.ref pa, .int cx] [(pa, .inr (1, [.int pk, .int pf, .int ps, .int pn, .int pp, .int pm]))] [] (fun (_ : Unit) => True) (fun _ => [(pa, .inr (1, [.int pk, .int pf, .int 0, .int 0, .int cx, .int 0]))]) (fun _ => []) sz := by
  refine Met.ofW (cc := cX1_startNumber) (maxL := 2) (ret := none) (by decide) rfl ?_
  intro p e s m args below meth c s₁ B hml hv
  obtain ⟨rfl, hsz, hP, hK, hD0, hG⟩ := hv
  have hx := B.exec
  have hb := B.bytes
  have hr := B.returns
  have ht : ∀ v9 ∈ wsA, v9.before ([.ref pa, .int cx] : List Value).toArray s = true := fun v9 h9 => atoms_spec (ws := k_ws yX1_startNumber cX1_startNumber 2 none) B.pre v9 (List.mem_cons_of_mem _ h9)
  have hown : s.vm.findClass RX1 = some m.cls := findClass_of_methodNamed B.named
  have S0 : k_C p s m ([.ref pa, .int cx] : List Value).toArray c cX1_startNumber 2 RX1 := ⟨hx, hb, hml, hown, ht⟩
  have hlocks := B.notSynchronized
  subst hsz
  have hD := hD0.self (sz := s.heap.size)
  generalize hAe : va_A [(pa, .inr (1, [.int pk, .int pf, .int ps, .int pn, .int pp, .int pm]))] s.heap.size = A at hD hG ⊢
  have hA : ∀ q : Nat, s.heap.size ≤ q → A q := fun q h => by rw [← hAe]; exact Or.inr h
  have hS : va_S A s.heap s.heap [] := va_S.rf
  have hl := lv_entry ([.ref pa, .int cx]) (n := 2) (Nat.le_of_ble_eq_true rfl)
  rw [lg_entry_eq]
  generalize (lg_sl ([.ref pa, .int cx]) ++ List.replicate (2 - (lg_sl ([.ref pa, .int cx])).length) Slot.unset).toArray = ls at hl ⊢
  have hl : lv_has ls 2 [(0, .ref pa), (1, .int cx)] := hl
  have hP : va_P D vwCl [(pa, .inr (1, [.int pk, .int pf, .int ps, .int pn, .int pp, .int pm]))] s.heap := hP
  refine lv_aload_n hx hb dX1_startNumber_0 rfl (lv_at hl 0 rfl) ?_
  refine lv_iload_n hx hb dX1_startNumber_1 rfl (lv_at hl 1 rfl) ?_
  refine va_put (D := D) (ci := 1) (v := .int cx) (ty := .int) (C := RX1) (T := TX1) (N := 6) hx hb ht inA_X1 tyX1 tyX1_ok nmX1 hown hK hP hD hS 0 rfl rfl 4 (by decide) (ht _ lf_X1_11) (fun _ h9 => h9) rfl (tyX1_ok 4 (by decide)) rfl rfl (Nat.le_of_ble_eq_true rfl) dX1_startNumber_2 (fun H locs hP hD hS => ?_)
  have hP : va_P D vwCl [(pa, .inr (1, [.int pk, .int pf, .int ps, .int pn, .int cx, .int pm]))] H := hP
  have hD : va_D A [(pa, .inr (1, [.int pk, .int pf, .int ps, .int pn, .int cx, .int pm]))] := hD
  refine lv_aload_n hx hb dX1_startNumber_5 rfl (lv_at hl 0 rfl) ?_
  refine lv_iconst (v := 0) hx hb dX1_startNumber_6 (by decide) ?_
  refine va_put (D := D) (ci := 1) (v := .int 0) (ty := .int) (C := RX1) (T := TX1) (N := 6) hx hb ht inA_X1 tyX1 tyX1_ok nmX1 hown hK hP hD hS 0 rfl rfl 2 (by decide) (ht _ lf_X1_39) (fun _ h9 => h9) rfl (tyX1_ok 2 (by decide)) rfl rfl (Nat.le_of_ble_eq_true rfl) dX1_startNumber_7 (fun H locs hP hD hS => ?_)
  have hP : va_P D vwCl [(pa, .inr (1, [.int pk, .int pf, .int 0, .int pn, .int cx, .int pm]))] H := hP
  have hD : va_D A [(pa, .inr (1, [.int pk, .int pf, .int 0, .int pn, .int cx, .int pm]))] := hD
  refine lv_aload_n hx hb dX1_startNumber_10 rfl (lv_at hl 0 rfl) ?_
  refine lv_iconst (v := 0) hx hb dX1_startNumber_11 (by decide) ?_
  refine va_put (D := D) (ci := 1) (v := .int 0) (ty := .int) (C := RX1) (T := TX1) (N := 6) hx hb ht inA_X1 tyX1 tyX1_ok nmX1 hown hK hP hD hS 0 rfl rfl 3 (by decide) (ht _ lf_X1_32) (fun _ h9 => h9) rfl (tyX1_ok 3 (by decide)) rfl rfl (Nat.le_of_ble_eq_true rfl) dX1_startNumber_12 (fun H locs hP hD hS => ?_)
  have hP : va_P D vwCl [(pa, .inr (1, [.int pk, .int pf, .int 0, .int 0, .int cx, .int pm]))] H := hP
  have hD : va_D A [(pa, .inr (1, [.int pk, .int pf, .int 0, .int 0, .int cx, .int pm]))] := hD
  refine lv_aload_n hx hb dX1_startNumber_15 rfl (lv_at hl 0 rfl) ?_
  refine lv_iconst (v := 0) hx hb dX1_startNumber_16 (by decide) ?_
  refine va_put (D := D) (ci := 1) (v := .int 0) (ty := .boolean) (C := RX1) (T := TX1) (N := 6) hx hb ht inA_X1 tyX1 tyX1_ok nmX1 hown hK hP hD hS 0 rfl rfl 5 (by decide) (ht _ lf_X1_35) (fun _ h9 => h9) rfl (tyX1_ok 5 (by decide)) rfl rfl (Nat.le_of_ble_eq_true rfl) dX1_startNumber_17 (fun H locs hP hD hS => ?_)
  have hP : va_P D vwCl [(pa, .inr (1, [.int pk, .int pf, .int 0, .int 0, .int cx, .int 0]))] H := hP
  have hD : va_D A [(pa, .inr (1, [.int pk, .int pf, .int 0, .int 0, .int cx, .int 0]))] := hD
  have hP9 : va_P D vwCl [(pa, .inr (1, [.int pk, .int pf, .int 0, .int 0, .int cx, .int 0]))] H := hP.sub [0] rfl
  have hD9 : va_D A [(pa, .inr (1, [.int pk, .int pf, .int 0, .int 0, .int cx, .int 0]))] := hD.sub [0] (by decide) rfl
  have hK9 : va_K D vwCl [] s := hK.sub [] rfl
  exact W.vret hx hb hr (fun t ht9 hW9 => ⟨⟨(), rfl, by first | rfl | trivial | (simp only [if_true, if_false, reduceIte, and_self]; done) | simp_all, ⟨by rw [ht9]; exact hP9, va_K.moved hW9.alike hK9, hD9⟩⟩, hS.F ht9⟩) hS.2.2 dX1_startNumber_20
set_option maxHeartbeats 4000000 in
set_option maxRecDepth 100000 in
theorem c_P_acKind (l : Launch) (D : va_G) (pa : Nat) (pk : Int32) (pf : Int32) (ps : Int32) (pn : Int32) (pp : Int32) (pm : Int32) (cx : Int32) (sz : Nat) : k_Mi (S := Int32 × Int32 × Int32 × Int32 × Int32 × Int32) l D yX1_acceptKind cX1_acceptKind 2 (some .boolean) 1 0 0 21 [.ref pa, .int cx] [(pa, .inr (1, [.int pk, .int pf, .int ps, .int pn, .int pp, .int pm]))] [] (fun (r : Int32) (u : Int32 × Int32 × Int32 × Int32 × Int32 × Int32) => match u with | (k1, f1, s1, n1, p1, m1) => orR (acKind cx) (pk, pf, ps, pn, pp, pm) r (k1, f1, s1, n1, p1, m1)) (fun u => match u with | (k1, f1, s1, n1, p1, m1) => [(pa, .inr (1, [.int k1, .int f1, .int s1, .int n1, .int p1, .int m1]))]) (fun u => match u with | (k1, f1, s1, n1, p1, m1) => []) sz := by
  refine Met.ofW (cc := cX1_acceptKind) (maxL := 2) (ret := (some .boolean)) (by decide) rfl ?_
  intro p e s m args below meth c s₁ B hml hv
  obtain ⟨rfl, hsz, hP, hK, hD0, hG⟩ := hv
  have hx := B.exec
  have hb := B.bytes
  have hr := B.returns
  have ht : ∀ v9 ∈ wsA, v9.before ([.ref pa, .int cx] : List Value).toArray s = true := fun v9 h9 => atoms_spec (ws := k_ws yX1_acceptKind cX1_acceptKind 2 (some .boolean)) B.pre v9 (List.mem_cons_of_mem _ h9)
  have hown : s.vm.findClass RX1 = some m.cls := findClass_of_methodNamed B.named
  have S0 : k_C p s m ([.ref pa, .int cx] : List Value).toArray c cX1_acceptKind 2 RX1 := ⟨hx, hb, hml, hown, ht⟩
  have hlocks := B.notSynchronized
  subst hsz
  have hD := hD0.self (sz := s.heap.size)
  generalize hAe : va_A [(pa, .inr (1, [.int pk, .int pf, .int ps, .int pn, .int pp, .int pm]))] s.heap.size = A at hD hG ⊢
  have hA : ∀ q : Nat, s.heap.size ≤ q → A q := fun q h => by rw [← hAe]; exact Or.inr h
  have hS : va_S A s.heap s.heap [] := va_S.rf
  have hl := lv_entry ([.ref pa, .int cx]) (n := 2) (Nat.le_of_ble_eq_true rfl)
  rw [lg_entry_eq]
  generalize (lg_sl ([.ref pa, .int cx]) ++ List.replicate (2 - (lg_sl ([.ref pa, .int cx])).length) Slot.unset).toArray = ls at hl ⊢
  have hl : lv_has ls 2 [(0, .ref pa), (1, .int cx)] := hl
  have hP : va_P D vwCl [(pa, .inr (1, [.int pk, .int pf, .int ps, .int pn, .int pp, .int pm]))] s.heap := hP
  refine lv_iload_n hx hb dX1_acceptKind_0 rfl (lv_at hl 1 rfl) ?_
  refine lv_bipush (v := 112) hx hb dX1_acceptKind_1 (by decide) ?_
  refine lv_icmp_eq (tgt := 26) hx hb dX1_acceptKind_3 (by decide) (fun c_1 => ?_) (fun c_1 => ?_)
  · have hc9 := c_1
    refine lv_aload_n hx hb dX1_acceptKind_26 rfl (lv_at hl 0 rfl) ?_
    refine lv_iload_n hx hb dX1_acceptKind_27 rfl (lv_at hl 1 rfl) ?_
    refine va_put (D := D) (ci := 1) (v := .int cx) (ty := .int) (C := RX1) (T := TX1) (N := 6) hx hb ht inA_X1 tyX1 tyX1_ok nmX1 hown hK hP hD hS 0 rfl rfl 0 (by decide) (ht _ lf_X1_29) (fun _ h9 => h9) rfl (tyX1_ok 0 (by decide)) rfl rfl (Nat.le_of_ble_eq_true rfl) dX1_acceptKind_28 (fun H locs hP hD hS => ?_)
    have hP : va_P D vwCl [(pa, .inr (1, [.int cx, .int pf, .int ps, .int pn, .int pp, .int pm]))] H := hP
    have hD : va_D A [(pa, .inr (1, [.int cx, .int pf, .int ps, .int pn, .int pp, .int pm]))] := hD
    refine lv_aload_n hx hb dX1_acceptKind_31 rfl (lv_at hl 0 rfl) ?_
    refine lv_iconst (v := 0) hx hb dX1_acceptKind_32 (by decide) ?_
    refine va_put (D := D) (ci := 1) (v := .int 0) (ty := .int) (C := RX1) (T := TX1) (N := 6) hx hb ht inA_X1 tyX1 tyX1_ok nmX1 hown hK hP hD hS 0 rfl rfl 1 (by decide) (ht _ lf_X1_42) (fun _ h9 => h9) rfl (tyX1_ok 1 (by decide)) rfl rfl (Nat.le_of_ble_eq_true rfl) dX1_acceptKind_33 (fun H locs hP hD hS => ?_)
    have hP : va_P D vwCl [(pa, .inr (1, [.int cx, .int 0, .int ps, .int pn, .int pp, .int pm]))] H := hP
    have hD : va_D A [(pa, .inr (1, [.int cx, .int 0, .int ps, .int pn, .int pp, .int pm]))] := hD
    refine lv_aload_n hx hb dX1_acceptKind_36 rfl (lv_at hl 0 rfl) ?_
    refine lv_iconst (v := 1) hx hb dX1_acceptKind_37 (by decide) ?_
    have ct := k_cut_of (wc := [(pa, .inr (1, [.int cx, .int 0, .int ps, .int pn, .int pp, .int pm]))]) (wr := []) (tc := []) hG hS hA hK hP hD [0] [] [] rfl rfl (by decide) (by decide) (by decide) rfl
    refine k_endv (As := [.ref pa, .int 1]) ct (k_runV (As := [.int 1]) (rest := []) S0 Lv_X1_45 rfl (ci := 1) (q0 := 0) rfl rfl ct (c_P_startNumber l D pa cx 0 ps pn pp pm 1 H.size) hl.1 rfl (Nat.le_of_ble_eq_true rfl) rfl dX1_acceptKind_38 ⟨⟨Nat.le_of_ble_eq_true rfl, Nat.le_of_ble_eq_true rfl⟩, Nat.le_of_ble_eq_true rfl, Nat.le_of_ble_eq_true rfl⟩) rfl rfl (fun _ _ H locs hw_3 hP hD hK hS => ?_)
    have hK : va_K D vwCl [] s := hK
    have hP : va_P D vwCl [(pa, .inr (1, [.int cx, .int 0, .int 0, .int 0, .int 1, .int 0]))] H := hP
    have hD : va_D A [(pa, .inr (1, [.int cx, .int 0, .int 0, .int 0, .int 1, .int 0]))] := hD
    refine lv_iconst (v := 1) hx hb dX1_acceptKind_41 (by decide) ?_
    have hP9 : va_P D vwCl [(pa, .inr (1, [.int cx, .int 0, .int 0, .int 0, .int 1, .int 0]))] H := hP.sub [0] rfl
    have hD9 : va_D A [(pa, .inr (1, [.int cx, .int 0, .int 0, .int 0, .int 1, .int 0]))] := hD.sub [0] (by decide) rfl
    have hK9 : va_K D vwCl [] s := hK.sub [] rfl
    exact W.zret (v := 1) hx hb hr (rfl) (fun t ht9 hW9 => ⟨⟨1, (cx, 0, 0, 0, 1, 0), rfl, by (exact Or.inl ⟨rfl, if_pos (Or.inl c_1)⟩), ⟨by rw [ht9]; exact hP9, va_K.moved hW9.alike hK9, hD9⟩⟩, hS.F ht9⟩) hS.2.2 dX1_acceptKind_42
  · have hc9 := c_1
    refine lv_iload_n hx hb dX1_acceptKind_6 rfl (lv_at hl 1 rfl) ?_
    refine lv_bipush (v := 115) hx hb dX1_acceptKind_7 (by decide) ?_
    refine lv_icmp_eq (tgt := 26) hx hb dX1_acceptKind_9 (by decide) (fun c_4 => ?_) (fun c_4 => ?_)
    · have hc9 := c_4
      refine lv_aload_n hx hb dX1_acceptKind_26 rfl (lv_at hl 0 rfl) ?_
      refine lv_iload_n hx hb dX1_acceptKind_27 rfl (lv_at hl 1 rfl) ?_
      refine va_put (D := D) (ci := 1) (v := .int cx) (ty := .int) (C := RX1) (T := TX1) (N := 6) hx hb ht inA_X1 tyX1 tyX1_ok nmX1 hown hK hP hD hS 0 rfl rfl 0 (by decide) (ht _ lf_X1_29) (fun _ h9 => h9) rfl (tyX1_ok 0 (by decide)) rfl rfl (Nat.le_of_ble_eq_true rfl) dX1_acceptKind_28 (fun H locs hP hD hS => ?_)
      have hP : va_P D vwCl [(pa, .inr (1, [.int cx, .int pf, .int ps, .int pn, .int pp, .int pm]))] H := hP
      have hD : va_D A [(pa, .inr (1, [.int cx, .int pf, .int ps, .int pn, .int pp, .int pm]))] := hD
      refine lv_aload_n hx hb dX1_acceptKind_31 rfl (lv_at hl 0 rfl) ?_
      refine lv_iconst (v := 0) hx hb dX1_acceptKind_32 (by decide) ?_
      refine va_put (D := D) (ci := 1) (v := .int 0) (ty := .int) (C := RX1) (T := TX1) (N := 6) hx hb ht inA_X1 tyX1 tyX1_ok nmX1 hown hK hP hD hS 0 rfl rfl 1 (by decide) (ht _ lf_X1_42) (fun _ h9 => h9) rfl (tyX1_ok 1 (by decide)) rfl rfl (Nat.le_of_ble_eq_true rfl) dX1_acceptKind_33 (fun H locs hP hD hS => ?_)
      have hP : va_P D vwCl [(pa, .inr (1, [.int cx, .int 0, .int ps, .int pn, .int pp, .int pm]))] H := hP
      have hD : va_D A [(pa, .inr (1, [.int cx, .int 0, .int ps, .int pn, .int pp, .int pm]))] := hD
      refine lv_aload_n hx hb dX1_acceptKind_36 rfl (lv_at hl 0 rfl) ?_
      refine lv_iconst (v := 1) hx hb dX1_acceptKind_37 (by decide) ?_
      have ct := k_cut_of (wc := [(pa, .inr (1, [.int cx, .int 0, .int ps, .int pn, .int pp, .int pm]))]) (wr := []) (tc := []) hG hS hA hK hP hD [0] [] [] rfl rfl (by decide) (by decide) (by decide) rfl
      refine k_endv (As := [.ref pa, .int 1]) ct (k_runV (As := [.int 1]) (rest := []) S0 Lv_X1_45 rfl (ci := 1) (q0 := 0) rfl rfl ct (c_P_startNumber l D pa cx 0 ps pn pp pm 1 H.size) hl.1 rfl (Nat.le_of_ble_eq_true rfl) rfl dX1_acceptKind_38 ⟨⟨Nat.le_of_ble_eq_true rfl, Nat.le_of_ble_eq_true rfl⟩, Nat.le_of_ble_eq_true rfl, Nat.le_of_ble_eq_true rfl⟩) rfl rfl (fun _ _ H locs hw_6 hP hD hK hS => ?_)
      have hK : va_K D vwCl [] s := hK
      have hP : va_P D vwCl [(pa, .inr (1, [.int cx, .int 0, .int 0, .int 0, .int 1, .int 0]))] H := hP
      have hD : va_D A [(pa, .inr (1, [.int cx, .int 0, .int 0, .int 0, .int 1, .int 0]))] := hD
      refine lv_iconst (v := 1) hx hb dX1_acceptKind_41 (by decide) ?_
      have hP9 : va_P D vwCl [(pa, .inr (1, [.int cx, .int 0, .int 0, .int 0, .int 1, .int 0]))] H := hP.sub [0] rfl
      have hD9 : va_D A [(pa, .inr (1, [.int cx, .int 0, .int 0, .int 0, .int 1, .int 0]))] := hD.sub [0] (by decide) rfl
      have hK9 : va_K D vwCl [] s := hK.sub [] rfl
      exact W.zret (v := 1) hx hb hr (rfl) (fun t ht9 hW9 => ⟨⟨1, (cx, 0, 0, 0, 1, 0), rfl, by (exact Or.inl ⟨rfl, if_pos (Or.inr (Or.inl c_4))⟩), ⟨by rw [ht9]; exact hP9, va_K.moved hW9.alike hK9, hD9⟩⟩, hS.F ht9⟩) hS.2.2 dX1_acceptKind_42
    · have hc9 := c_4
      refine lv_iload_n hx hb dX1_acceptKind_12 rfl (lv_at hl 1 rfl) ?_
      refine lv_bipush (v := 100) hx hb dX1_acceptKind_13 (by decide) ?_
      refine lv_icmp_eq (tgt := 26) hx hb dX1_acceptKind_15 (by decide) (fun c_7 => ?_) (fun c_7 => ?_)
      · have hc9 := c_7
        refine lv_aload_n hx hb dX1_acceptKind_26 rfl (lv_at hl 0 rfl) ?_
        refine lv_iload_n hx hb dX1_acceptKind_27 rfl (lv_at hl 1 rfl) ?_
        refine va_put (D := D) (ci := 1) (v := .int cx) (ty := .int) (C := RX1) (T := TX1) (N := 6) hx hb ht inA_X1 tyX1 tyX1_ok nmX1 hown hK hP hD hS 0 rfl rfl 0 (by decide) (ht _ lf_X1_29) (fun _ h9 => h9) rfl (tyX1_ok 0 (by decide)) rfl rfl (Nat.le_of_ble_eq_true rfl) dX1_acceptKind_28 (fun H locs hP hD hS => ?_)
        have hP : va_P D vwCl [(pa, .inr (1, [.int cx, .int pf, .int ps, .int pn, .int pp, .int pm]))] H := hP
        have hD : va_D A [(pa, .inr (1, [.int cx, .int pf, .int ps, .int pn, .int pp, .int pm]))] := hD
        refine lv_aload_n hx hb dX1_acceptKind_31 rfl (lv_at hl 0 rfl) ?_
        refine lv_iconst (v := 0) hx hb dX1_acceptKind_32 (by decide) ?_
        refine va_put (D := D) (ci := 1) (v := .int 0) (ty := .int) (C := RX1) (T := TX1) (N := 6) hx hb ht inA_X1 tyX1 tyX1_ok nmX1 hown hK hP hD hS 0 rfl rfl 1 (by decide) (ht _ lf_X1_42) (fun _ h9 => h9) rfl (tyX1_ok 1 (by decide)) rfl rfl (Nat.le_of_ble_eq_true rfl) dX1_acceptKind_33 (fun H locs hP hD hS => ?_)
        have hP : va_P D vwCl [(pa, .inr (1, [.int cx, .int 0, .int ps, .int pn, .int pp, .int pm]))] H := hP
        have hD : va_D A [(pa, .inr (1, [.int cx, .int 0, .int ps, .int pn, .int pp, .int pm]))] := hD
        refine lv_aload_n hx hb dX1_acceptKind_36 rfl (lv_at hl 0 rfl) ?_
        refine lv_iconst (v := 1) hx hb dX1_acceptKind_37 (by decide) ?_
        have ct := k_cut_of (wc := [(pa, .inr (1, [.int cx, .int 0, .int ps, .int pn, .int pp, .int pm]))]) (wr := []) (tc := []) hG hS hA hK hP hD [0] [] [] rfl rfl (by decide) (by decide) (by decide) rfl
        refine k_endv (As := [.ref pa, .int 1]) ct (k_runV (As := [.int 1]) (rest := []) S0 Lv_X1_45 rfl (ci := 1) (q0 := 0) rfl rfl ct (c_P_startNumber l D pa cx 0 ps pn pp pm 1 H.size) hl.1 rfl (Nat.le_of_ble_eq_true rfl) rfl dX1_acceptKind_38 ⟨⟨Nat.le_of_ble_eq_true rfl, Nat.le_of_ble_eq_true rfl⟩, Nat.le_of_ble_eq_true rfl, Nat.le_of_ble_eq_true rfl⟩) rfl rfl (fun _ _ H locs hw_9 hP hD hK hS => ?_)
        have hK : va_K D vwCl [] s := hK
        have hP : va_P D vwCl [(pa, .inr (1, [.int cx, .int 0, .int 0, .int 0, .int 1, .int 0]))] H := hP
        have hD : va_D A [(pa, .inr (1, [.int cx, .int 0, .int 0, .int 0, .int 1, .int 0]))] := hD
        refine lv_iconst (v := 1) hx hb dX1_acceptKind_41 (by decide) ?_
        have hP9 : va_P D vwCl [(pa, .inr (1, [.int cx, .int 0, .int 0, .int 0, .int 1, .int 0]))] H := hP.sub [0] rfl
        have hD9 : va_D A [(pa, .inr (1, [.int cx, .int 0, .int 0, .int 0, .int 1, .int 0]))] := hD.sub [0] (by decide) rfl
        have hK9 : va_K D vwCl [] s := hK.sub [] rfl
        exact W.zret (v := 1) hx hb hr (rfl) (fun t ht9 hW9 => ⟨⟨1, (cx, 0, 0, 0, 1, 0), rfl, by (exact Or.inl ⟨rfl, if_pos (Or.inr (Or.inr (Or.inl c_7)))⟩), ⟨by rw [ht9]; exact hP9, va_K.moved hW9.alike hK9, hD9⟩⟩, hS.F ht9⟩) hS.2.2 dX1_acceptKind_42
      · have hc9 := c_7
        refine lv_iload_n hx hb dX1_acceptKind_18 rfl (lv_at hl 1 rfl) ?_
        refine lv_bipush (v := 98) hx hb dX1_acceptKind_19 (by decide) ?_
        refine lv_icmp_eq (tgt := 26) hx hb dX1_acceptKind_21 (by decide) (fun c_10 => ?_) (fun c_10 => ?_)
        · have hc9 := c_10
          refine lv_aload_n hx hb dX1_acceptKind_26 rfl (lv_at hl 0 rfl) ?_
          refine lv_iload_n hx hb dX1_acceptKind_27 rfl (lv_at hl 1 rfl) ?_
          refine va_put (D := D) (ci := 1) (v := .int cx) (ty := .int) (C := RX1) (T := TX1) (N := 6) hx hb ht inA_X1 tyX1 tyX1_ok nmX1 hown hK hP hD hS 0 rfl rfl 0 (by decide) (ht _ lf_X1_29) (fun _ h9 => h9) rfl (tyX1_ok 0 (by decide)) rfl rfl (Nat.le_of_ble_eq_true rfl) dX1_acceptKind_28 (fun H locs hP hD hS => ?_)
          have hP : va_P D vwCl [(pa, .inr (1, [.int cx, .int pf, .int ps, .int pn, .int pp, .int pm]))] H := hP
          have hD : va_D A [(pa, .inr (1, [.int cx, .int pf, .int ps, .int pn, .int pp, .int pm]))] := hD
          refine lv_aload_n hx hb dX1_acceptKind_31 rfl (lv_at hl 0 rfl) ?_
          refine lv_iconst (v := 0) hx hb dX1_acceptKind_32 (by decide) ?_
          refine va_put (D := D) (ci := 1) (v := .int 0) (ty := .int) (C := RX1) (T := TX1) (N := 6) hx hb ht inA_X1 tyX1 tyX1_ok nmX1 hown hK hP hD hS 0 rfl rfl 1 (by decide) (ht _ lf_X1_42) (fun _ h9 => h9) rfl (tyX1_ok 1 (by decide)) rfl rfl (Nat.le_of_ble_eq_true rfl) dX1_acceptKind_33 (fun H locs hP hD hS => ?_)
          have hP : va_P D vwCl [(pa, .inr (1, [.int cx, .int 0, .int ps, .int pn, .int pp, .int pm]))] H := hP
          have hD : va_D A [(pa, .inr (1, [.int cx, .int 0, .int ps, .int pn, .int pp, .int pm]))] := hD
          refine lv_aload_n hx hb dX1_acceptKind_36 rfl (lv_at hl 0 rfl) ?_
          refine lv_iconst (v := 1) hx hb dX1_acceptKind_37 (by decide) ?_
          have ct := k_cut_of (wc := [(pa, .inr (1, [.int cx, .int 0, .int ps, .int pn, .int pp, .int pm]))]) (wr := []) (tc := []) hG hS hA hK hP hD [0] [] [] rfl rfl (by decide) (by decide) (by decide) rfl
          refine k_endv (As := [.ref pa, .int 1]) ct (k_runV (As := [.int 1]) (rest := []) S0 Lv_X1_45 rfl (ci := 1) (q0 := 0) rfl rfl ct (c_P_startNumber l D pa cx 0 ps pn pp pm 1 H.size) hl.1 rfl (Nat.le_of_ble_eq_true rfl) rfl dX1_acceptKind_38 ⟨⟨Nat.le_of_ble_eq_true rfl, Nat.le_of_ble_eq_true rfl⟩, Nat.le_of_ble_eq_true rfl, Nat.le_of_ble_eq_true rfl⟩) rfl rfl (fun _ _ H locs hw_12 hP hD hK hS => ?_)
          have hK : va_K D vwCl [] s := hK
          have hP : va_P D vwCl [(pa, .inr (1, [.int cx, .int 0, .int 0, .int 0, .int 1, .int 0]))] H := hP
          have hD : va_D A [(pa, .inr (1, [.int cx, .int 0, .int 0, .int 0, .int 1, .int 0]))] := hD
          refine lv_iconst (v := 1) hx hb dX1_acceptKind_41 (by decide) ?_
          have hP9 : va_P D vwCl [(pa, .inr (1, [.int cx, .int 0, .int 0, .int 0, .int 1, .int 0]))] H := hP.sub [0] rfl
          have hD9 : va_D A [(pa, .inr (1, [.int cx, .int 0, .int 0, .int 0, .int 1, .int 0]))] := hD.sub [0] (by decide) rfl
          have hK9 : va_K D vwCl [] s := hK.sub [] rfl
          exact W.zret (v := 1) hx hb hr (rfl) (fun t ht9 hW9 => ⟨⟨1, (cx, 0, 0, 0, 1, 0), rfl, by (exact Or.inl ⟨rfl, if_pos (Or.inr (Or.inr (Or.inr c_10)))⟩), ⟨by rw [ht9]; exact hP9, va_K.moved hW9.alike hK9, hD9⟩⟩, hS.F ht9⟩) hS.2.2 dX1_acceptKind_42
        · have hc9 := c_10
          refine lv_iconst (v := 0) hx hb dX1_acceptKind_24 (by decide) ?_
          have hP9 : va_P D vwCl [(pa, .inr (1, [.int pk, .int pf, .int ps, .int pn, .int pp, .int pm]))] s.heap := hP.sub [0] rfl
          have hD9 : va_D A [(pa, .inr (1, [.int pk, .int pf, .int ps, .int pn, .int pp, .int pm]))] := hD.sub [0] (by decide) rfl
          have hK9 : va_K D vwCl [] s := hK.sub [] rfl
          exact W.zret (v := 0) hx hb hr (rfl) (fun t ht9 hW9 => ⟨⟨0, (pk, pf, ps, pn, pp, pm), rfl, by (exact Or.inr ⟨rfl, if_neg (fun q9 => by rcases q9 with q8 | q8 | q8 | q8; exact c_1 q8; exact c_4 q8; exact c_7 q8; exact c_10 q8), rfl⟩), ⟨by rw [ht9]; exact hP9, va_K.moved hW9.alike hK9, hD9⟩⟩, hS.F ht9⟩) hS.2.2 dX1_acceptKind_25
set_option maxHeartbeats 4000000 in
set_option maxRecDepth 100000 in
theorem c_P_acDigit (l : Launch) (D : va_G) (pa : Nat) (pk : Int32) (pf : Int32) (ps : Int32) (pn : Int32) (pp : Int32) (pm : Int32) (dx : Int32) (sz : Nat) : k_Mi (S := Int32 × Int32 × Int32 × Int32 × Int32 × Int32) l D yX1_acceptDigit cX1_acceptDigit 3 (some .boolean) 2 0 0 43 [.ref pa, .int dx] [(pa, .inr (1, [.int pk, .int pf, .int ps, .int pn, .int pp, .int pm]))] [] (fun (r : Int32) (u : Int32 × Int32 × Int32 × Int32 × Int32 × Int32) => match u with | (k1, f1, s1, n1, p1, m1) => orR (acDig pk pf ps pn pp pm dx) (pk, pf, ps, pn, pp, pm) r (k1, f1, s1, n1, p1, m1)) (fun u => match u with | (k1, f1, s1, n1, p1, m1) => [(pa, .inr (1, [.int k1, .int f1, .int s1, .int n1, .int p1, .int m1]))]) (fun u => match u with | (k1, f1, s1, n1, p1, m1) => []) sz := by
  refine Met.ofW (cc := cX1_acceptDigit) (maxL := 3) (ret := (some .boolean)) (by decide) rfl ?_
  intro p e s m args below meth c s₁ B hml hv
  obtain ⟨rfl, hsz, hP, hK, hD0, hG⟩ := hv
  have hx := B.exec
  have hb := B.bytes
  have hr := B.returns
  have ht : ∀ v9 ∈ wsA, v9.before ([.ref pa, .int dx] : List Value).toArray s = true := fun v9 h9 => atoms_spec (ws := k_ws yX1_acceptDigit cX1_acceptDigit 3 (some .boolean)) B.pre v9 (List.mem_cons_of_mem _ h9)
  have hown : s.vm.findClass RX1 = some m.cls := findClass_of_methodNamed B.named
  have S0 : k_C p s m ([.ref pa, .int dx] : List Value).toArray c cX1_acceptDigit 3 RX1 := ⟨hx, hb, hml, hown, ht⟩
  have hlocks := B.notSynchronized
  subst hsz
  have hD := hD0.self (sz := s.heap.size)
  generalize hAe : va_A [(pa, .inr (1, [.int pk, .int pf, .int ps, .int pn, .int pp, .int pm]))] s.heap.size = A at hD hG ⊢
  have hA : ∀ q : Nat, s.heap.size ≤ q → A q := fun q h => by rw [← hAe]; exact Or.inr h
  have hS : va_S A s.heap s.heap [] := va_S.rf
  have hl := lv_entry ([.ref pa, .int dx]) (n := 3) (Nat.le_of_ble_eq_true rfl)
  rw [lg_entry_eq]
  generalize (lg_sl ([.ref pa, .int dx]) ++ List.replicate (3 - (lg_sl ([.ref pa, .int dx])).length) Slot.unset).toArray = ls at hl ⊢
  have hl : lv_has ls 3 [(0, .ref pa), (1, .int dx)] := hl
  have hP : va_P D vwCl [(pa, .inr (1, [.int pk, .int pf, .int ps, .int pn, .int pp, .int pm]))] s.heap := hP
  refine lv_bipush (v := 10) hx hb dX1_acceptDigit_0 (by decide) ?_
  refine lv_aload_n hx hb dX1_acceptDigit_2 rfl (lv_at hl 0 rfl) ?_
  refine va_get (D := D) (ci := 1) (v := .int pp) (C := RX1) (T := TX1) (N := 6) hx hb ht inA_X1 hown hK hP 0 rfl rfl 4 (by decide) (ht _ lf_X1_11) (fun _ h9 => h9) rfl dX1_acceptDigit_3 ?_
  refine lv_iconst (v := 1) hx hb dX1_acceptDigit_6 (by decide) ?_
  refine lv_icmp_ne (tgt := 17) hx hb dX1_acceptDigit_7 (by decide) (fun c_1 => ?_) (fun c_1 => ?_)
  · have hc9 := c_1
    refine lv_aload_n hx hb dX1_acceptDigit_17 rfl (lv_at hl 0 rfl) ?_
    refine va_get (D := D) (ci := 1) (v := .int ps) (C := RX1) (T := TX1) (N := 6) hx hb ht inA_X1 hown hK hP 0 rfl rfl 2 (by decide) (ht _ lf_X1_39) (fun _ h9 => h9) rfl dX1_acceptDigit_18 ?_
    refine lv_imul hx hb dX1_acceptDigit_21 ?_
    refine k_nrm (y := (10 * ps)) (rfl) ?_
    refine lv_iload_n hx hb dX1_acceptDigit_22 rfl (lv_at hl 1 rfl) ?_
    refine lv_iadd hx hb dX1_acceptDigit_23 ?_
    refine k_nrm (y := ((10 * ps) + dx)) (rfl) ?_
    refine lv_istore_n (lv' := [(2, .int ((10 * ps) + dx)), (0, .ref pa), (1, .int dx)]) hx hb dX1_acceptDigit_24 rfl hl (by decide) rfl (fun ls hl => ?_)
    refine lv_aload_n hx hb dX1_acceptDigit_25 rfl (lv_at hl 1 rfl) ?_
    refine lv_iload_n hx hb dX1_acceptDigit_26 rfl (lv_at hl 0 rfl) ?_
    refine lv_iload_n hx hb dX1_acceptDigit_27 rfl (lv_at hl 2 rfl) ?_
    have ct := k_cut_of (wc := [(pa, .inr (1, [.int pk, .int pf, .int ps, .int pn, .int pp, .int pm]))]) (wr := []) (tc := []) hG hS hA hK hP hD [0] [] [] rfl rfl (by decide) (by decide) (by decide) rfl
    refine k_endi (As := [.ref pa, .int ((10 * ps) + dx), .int dx]) ct (k_runV (As := [.int ((10 * ps) + dx), .int dx]) (rest := []) S0 Lv_X1_49 rfl (ci := 1) (q0 := 0) rfl rfl ct (c_P_allowed l D pa pk pf ps pn pp pm ((10 * ps) + dx) dx s.heap.size) hl.1 rfl (Nat.le_of_ble_eq_true rfl) rfl dX1_acceptDigit_28 ⟨⟨Nat.le_of_ble_eq_true rfl, Nat.le_of_ble_eq_true rfl⟩, Nat.le_of_ble_eq_true rfl, Nat.le_of_ble_eq_true rfl⟩) rfl rfl (fun r_2 _ H locs hw_3 hP hD hK hS => ?_)
    have hK : va_K D vwCl [] s := hK
    have hP : va_P D vwCl [(pa, .inr (1, [.int pk, .int pf, .int ps, .int pn, .int pp, .int pm]))] H := hP
    have hD : va_D A [(pa, .inr (1, [.int pk, .int pf, .int ps, .int pn, .int pp, .int pm]))] := hD
    have hw_3 : r_2 = (alwF pk pn pp pm ((10 * ps) + dx) dx) := hw_3
    have hw_3 := hw_3.symm
    subst hw_3
    refine k_nrm (y := (alwF pk pn pp pm ((10 * ps) + dx) dx)) rfl ?_
    refine lv_if_ne (tgt := 36) hx hb dX1_acceptDigit_31 (by decide) (fun c_4 => ?_) (fun c_4 => ?_)
    · have hc9 := c_4
      refine lv_aload_n hx hb dX1_acceptDigit_36 rfl (lv_at hl 1 rfl) ?_
      refine va_get (D := D) (ci := 1) (v := .int pp) (C := RX1) (T := TX1) (N := 6) hx hb ht inA_X1 hown hK hP 0 rfl rfl 4 (by decide) (ht _ lf_X1_11) (fun _ h9 => h9) rfl dX1_acceptDigit_37 ?_
      refine lv_iconst (v := 1) hx hb dX1_acceptDigit_40 (by decide) ?_
      refine lv_icmp_ne (tgt := 52) hx hb dX1_acceptDigit_41 (by decide) (fun c_5 => ?_) (fun c9 => absurd c9 c_1)
      refine lv_aload_n hx hb dX1_acceptDigit_52 rfl (lv_at hl 1 rfl) ?_
      refine lv_iload_n hx hb dX1_acceptDigit_53 rfl (lv_at hl 0 rfl) ?_
      refine va_put (D := D) (ci := 1) (v := .int ((10 * ps) + dx)) (ty := .int) (C := RX1) (T := TX1) (N := 6) hx hb ht inA_X1 tyX1 tyX1_ok nmX1 hown hK hP hD hS 0 rfl rfl 2 (by decide) (ht _ lf_X1_39) (fun _ h9 => h9) rfl (tyX1_ok 2 (by decide)) rfl rfl (Nat.le_of_ble_eq_true rfl) dX1_acceptDigit_54 (fun H locs hP hD hS => ?_)
      have hP : va_P D vwCl [(pa, .inr (1, [.int pk, .int pf, .int ((10 * ps) + dx), .int pn, .int pp, .int pm]))] H := hP
      have hD : va_D A [(pa, .inr (1, [.int pk, .int pf, .int ((10 * ps) + dx), .int pn, .int pp, .int pm]))] := hD
      refine lv_aload_n hx hb dX1_acceptDigit_57 rfl (lv_at hl 1 rfl) ?_
      refine lv_dup hx hb dX1_acceptDigit_58 rfl ?_
      refine va_get (D := D) (ci := 1) (v := .int pn) (C := RX1) (T := TX1) (N := 6) hx hb ht inA_X1 hown hK hP 0 rfl rfl 3 (by decide) (ht _ lf_X1_32) (fun _ h9 => h9) rfl dX1_acceptDigit_59 ?_
      refine lv_iconst (v := 1) hx hb dX1_acceptDigit_62 (by decide) ?_
      refine lv_iadd hx hb dX1_acceptDigit_63 ?_
      refine k_nrm (y := (pn + 1)) (rfl) ?_
      refine va_put (D := D) (ci := 1) (v := .int (pn + 1)) (ty := .int) (C := RX1) (T := TX1) (N := 6) hx hb ht inA_X1 tyX1 tyX1_ok nmX1 hown hK hP hD hS 0 rfl rfl 3 (by decide) (ht _ lf_X1_32) (fun _ h9 => h9) rfl (tyX1_ok 3 (by decide)) rfl rfl (Nat.le_of_ble_eq_true rfl) dX1_acceptDigit_64 (fun H locs hP hD hS => ?_)
      have hP : va_P D vwCl [(pa, .inr (1, [.int pk, .int pf, .int ((10 * ps) + dx), .int (pn + 1), .int pp, .int pm]))] H := hP
      have hD : va_D A [(pa, .inr (1, [.int pk, .int pf, .int ((10 * ps) + dx), .int (pn + 1), .int pp, .int pm]))] := hD
      refine lv_iconst (v := 1) hx hb dX1_acceptDigit_67 (by decide) ?_
      have hP9 : va_P D vwCl [(pa, .inr (1, [.int pk, .int pf, .int ((10 * ps) + dx), .int (pn + 1), .int pp, .int pm]))] H := hP.sub [0] rfl
      have hD9 : va_D A [(pa, .inr (1, [.int pk, .int pf, .int ((10 * ps) + dx), .int (pn + 1), .int pp, .int pm]))] := hD.sub [0] (by decide) rfl
      have hK9 : va_K D vwCl [] s := hK.sub [] rfl
      exact W.zret (v := 1) hx hb hr (rfl) (fun t ht9 hW9 => ⟨⟨1, (pk, pf, ((10 * ps) + dx), (pn + 1), pp, pm), rfl, by (exact Or.inl ⟨rfl, (by unfold acDig; rw [if_neg c_5, if_neg c_4])⟩), ⟨by rw [ht9]; exact hP9, va_K.moved hW9.alike hK9, hD9⟩⟩, hS.F ht9⟩) hS.2.2 dX1_acceptDigit_68
    · have hc9 := c_4
      refine lv_iconst (v := 0) hx hb dX1_acceptDigit_34 (by decide) ?_
      have hP9 : va_P D vwCl [(pa, .inr (1, [.int pk, .int pf, .int ps, .int pn, .int pp, .int pm]))] H := hP.sub [0] rfl
      have hD9 : va_D A [(pa, .inr (1, [.int pk, .int pf, .int ps, .int pn, .int pp, .int pm]))] := hD.sub [0] (by decide) rfl
      have hK9 : va_K D vwCl [] s := hK.sub [] rfl
      exact W.zret (v := 0) hx hb hr (rfl) (fun t ht9 hW9 => ⟨⟨0, (pk, pf, ps, pn, pp, pm), rfl, by (exact Or.inr ⟨rfl, (by unfold acDig; rw [if_neg c_1, if_pos c_4]), rfl⟩), ⟨by rw [ht9]; exact hP9, va_K.moved hW9.alike hK9, hD9⟩⟩, hS.F ht9⟩) hS.2.2 dX1_acceptDigit_35
  · have hc9 := c_1
    refine lv_aload_n hx hb dX1_acceptDigit_10 rfl (lv_at hl 0 rfl) ?_
    refine va_get (D := D) (ci := 1) (v := .int pf) (C := RX1) (T := TX1) (N := 6) hx hb ht inA_X1 hown hK hP 0 rfl rfl 1 (by decide) (ht _ lf_X1_42) (fun _ h9 => h9) rfl dX1_acceptDigit_11 ?_
    refine lv_goto (tgt := 21) hx hb dX1_acceptDigit_14 (by decide) ?_
    refine lv_imul hx hb dX1_acceptDigit_21 ?_
    refine k_nrm (y := (10 * pf)) (rfl) ?_
    refine lv_iload_n hx hb dX1_acceptDigit_22 rfl (lv_at hl 1 rfl) ?_
    refine lv_iadd hx hb dX1_acceptDigit_23 ?_
    refine k_nrm (y := ((10 * pf) + dx)) (rfl) ?_
    refine lv_istore_n (lv' := [(2, .int ((10 * pf) + dx)), (0, .ref pa), (1, .int dx)]) hx hb dX1_acceptDigit_24 rfl hl (by decide) rfl (fun ls hl => ?_)
    refine lv_aload_n hx hb dX1_acceptDigit_25 rfl (lv_at hl 1 rfl) ?_
    refine lv_iload_n hx hb dX1_acceptDigit_26 rfl (lv_at hl 0 rfl) ?_
    refine lv_iload_n hx hb dX1_acceptDigit_27 rfl (lv_at hl 2 rfl) ?_
    have ct := k_cut_of (wc := [(pa, .inr (1, [.int pk, .int pf, .int ps, .int pn, .int pp, .int pm]))]) (wr := []) (tc := []) hG hS hA hK hP hD [0] [] [] rfl rfl (by decide) (by decide) (by decide) rfl
    refine k_endi (As := [.ref pa, .int ((10 * pf) + dx), .int dx]) ct (k_runV (As := [.int ((10 * pf) + dx), .int dx]) (rest := []) S0 Lv_X1_49 rfl (ci := 1) (q0 := 0) rfl rfl ct (c_P_allowed l D pa pk pf ps pn pp pm ((10 * pf) + dx) dx s.heap.size) hl.1 rfl (Nat.le_of_ble_eq_true rfl) rfl dX1_acceptDigit_28 ⟨⟨Nat.le_of_ble_eq_true rfl, Nat.le_of_ble_eq_true rfl⟩, Nat.le_of_ble_eq_true rfl, Nat.le_of_ble_eq_true rfl⟩) rfl rfl (fun r_6 _ H locs hw_7 hP hD hK hS => ?_)
    have hK : va_K D vwCl [] s := hK
    have hP : va_P D vwCl [(pa, .inr (1, [.int pk, .int pf, .int ps, .int pn, .int pp, .int pm]))] H := hP
    have hD : va_D A [(pa, .inr (1, [.int pk, .int pf, .int ps, .int pn, .int pp, .int pm]))] := hD
    have hw_7 : r_6 = (alwF pk pn pp pm ((10 * pf) + dx) dx) := hw_7
    have hw_7 := hw_7.symm
    subst hw_7
    refine k_nrm (y := (alwF pk pn pp pm ((10 * pf) + dx) dx)) rfl ?_
    refine lv_if_ne (tgt := 36) hx hb dX1_acceptDigit_31 (by decide) (fun c_8 => ?_) (fun c_8 => ?_)
    · have hc9 := c_8
      refine lv_aload_n hx hb dX1_acceptDigit_36 rfl (lv_at hl 1 rfl) ?_
      refine va_get (D := D) (ci := 1) (v := .int pp) (C := RX1) (T := TX1) (N := 6) hx hb ht inA_X1 hown hK hP 0 rfl rfl 4 (by decide) (ht _ lf_X1_11) (fun _ h9 => h9) rfl dX1_acceptDigit_37 ?_
      refine lv_iconst (v := 1) hx hb dX1_acceptDigit_40 (by decide) ?_
      refine lv_icmp_ne (tgt := 52) hx hb dX1_acceptDigit_41 (by decide) (fun c9 => absurd c_1 c9) (fun c_9 => ?_)
      refine lv_aload_n hx hb dX1_acceptDigit_44 rfl (lv_at hl 1 rfl) ?_
      refine lv_iload_n hx hb dX1_acceptDigit_45 rfl (lv_at hl 0 rfl) ?_
      refine va_put (D := D) (ci := 1) (v := .int ((10 * pf) + dx)) (ty := .int) (C := RX1) (T := TX1) (N := 6) hx hb ht inA_X1 tyX1 tyX1_ok nmX1 hown hK hP hD hS 0 rfl rfl 1 (by decide) (ht _ lf_X1_42) (fun _ h9 => h9) rfl (tyX1_ok 1 (by decide)) rfl rfl (Nat.le_of_ble_eq_true rfl) dX1_acceptDigit_46 (fun H locs hP hD hS => ?_)
      have hP : va_P D vwCl [(pa, .inr (1, [.int pk, .int ((10 * pf) + dx), .int ps, .int pn, .int pp, .int pm]))] H := hP
      have hD : va_D A [(pa, .inr (1, [.int pk, .int ((10 * pf) + dx), .int ps, .int pn, .int pp, .int pm]))] := hD
      refine lv_goto (tgt := 57) hx hb dX1_acceptDigit_49 (by decide) ?_
      refine lv_aload_n hx hb dX1_acceptDigit_57 rfl (lv_at hl 1 rfl) ?_
      refine lv_dup hx hb dX1_acceptDigit_58 rfl ?_
      refine va_get (D := D) (ci := 1) (v := .int pn) (C := RX1) (T := TX1) (N := 6) hx hb ht inA_X1 hown hK hP 0 rfl rfl 3 (by decide) (ht _ lf_X1_32) (fun _ h9 => h9) rfl dX1_acceptDigit_59 ?_
      refine lv_iconst (v := 1) hx hb dX1_acceptDigit_62 (by decide) ?_
      refine lv_iadd hx hb dX1_acceptDigit_63 ?_
      refine k_nrm (y := (pn + 1)) (rfl) ?_
      refine va_put (D := D) (ci := 1) (v := .int (pn + 1)) (ty := .int) (C := RX1) (T := TX1) (N := 6) hx hb ht inA_X1 tyX1 tyX1_ok nmX1 hown hK hP hD hS 0 rfl rfl 3 (by decide) (ht _ lf_X1_32) (fun _ h9 => h9) rfl (tyX1_ok 3 (by decide)) rfl rfl (Nat.le_of_ble_eq_true rfl) dX1_acceptDigit_64 (fun H locs hP hD hS => ?_)
      have hP : va_P D vwCl [(pa, .inr (1, [.int pk, .int ((10 * pf) + dx), .int ps, .int (pn + 1), .int pp, .int pm]))] H := hP
      have hD : va_D A [(pa, .inr (1, [.int pk, .int ((10 * pf) + dx), .int ps, .int (pn + 1), .int pp, .int pm]))] := hD
      refine lv_iconst (v := 1) hx hb dX1_acceptDigit_67 (by decide) ?_
      have hP9 : va_P D vwCl [(pa, .inr (1, [.int pk, .int ((10 * pf) + dx), .int ps, .int (pn + 1), .int pp, .int pm]))] H := hP.sub [0] rfl
      have hD9 : va_D A [(pa, .inr (1, [.int pk, .int ((10 * pf) + dx), .int ps, .int (pn + 1), .int pp, .int pm]))] := hD.sub [0] (by decide) rfl
      have hK9 : va_K D vwCl [] s := hK.sub [] rfl
      exact W.zret (v := 1) hx hb hr (rfl) (fun t ht9 hW9 => ⟨⟨1, (pk, ((10 * pf) + dx), ps, (pn + 1), pp, pm), rfl, by (exact Or.inl ⟨rfl, (by unfold acDig; rw [if_pos c_9, if_neg c_8])⟩), ⟨by rw [ht9]; exact hP9, va_K.moved hW9.alike hK9, hD9⟩⟩, hS.F ht9⟩) hS.2.2 dX1_acceptDigit_68
    · have hc9 := c_8
      refine lv_iconst (v := 0) hx hb dX1_acceptDigit_34 (by decide) ?_
      have hP9 : va_P D vwCl [(pa, .inr (1, [.int pk, .int pf, .int ps, .int pn, .int pp, .int pm]))] H := hP.sub [0] rfl
      have hD9 : va_D A [(pa, .inr (1, [.int pk, .int pf, .int ps, .int pn, .int pp, .int pm]))] := hD.sub [0] (by decide) rfl
      have hK9 : va_K D vwCl [] s := hK.sub [] rfl
      exact W.zret (v := 0) hx hb hr (rfl) (fun t ht9 hW9 => ⟨⟨0, (pk, pf, ps, pn, pp, pm), rfl, by (exact Or.inr ⟨rfl, (by unfold acDig; rw [if_pos c_1, if_pos c_8]), rfl⟩), ⟨by rw [ht9]; exact hP9, va_K.moved hW9.alike hK9, hD9⟩⟩, hS.F ht9⟩) hS.2.2 dX1_acceptDigit_35
set_option maxHeartbeats 4000000 in
set_option maxRecDepth 100000 in
theorem c_P_acMinus (l : Launch) (D : va_G) (pa : Nat) (pk : Int32) (pf : Int32) (ps : Int32) (pn : Int32) (pp : Int32) (pm : Int32) (hm : pm = 0 ∨ pm = 1) (sz : Nat) : k_Mi (S := Int32 × Int32 × Int32 × Int32 × Int32 × Int32) l D yX1_acceptMinus cX1_acceptMinus 2 (some .boolean) 0 0 0 0 [.ref pa] [(pa, .inr (1, [.int pk, .int pf, .int ps, .int pn, .int pp, .int pm]))] [] (fun (r : Int32) (u : Int32 × Int32 × Int32 × Int32 × Int32 × Int32) => match u with | (k1, f1, s1, n1, p1, m1) => orR (acMin pk pf ps pn pp pm) (pk, pf, ps, pn, pp, pm) r (k1, f1, s1, n1, p1, m1)) (fun u => match u with | (k1, f1, s1, n1, p1, m1) => [(pa, .inr (1, [.int k1, .int f1, .int s1, .int n1, .int p1, .int m1]))]) (fun u => match u with | (k1, f1, s1, n1, p1, m1) => []) sz := by
  refine Met.ofW (cc := cX1_acceptMinus) (maxL := 2) (ret := (some .boolean)) (by decide) rfl ?_
  intro p e s m args below meth c s₁ B hml hv
  obtain ⟨rfl, hsz, hP, hK, hD0, hG⟩ := hv
  have hx := B.exec
  have hb := B.bytes
  have hr := B.returns
  have ht : ∀ v9 ∈ wsA, v9.before ([.ref pa] : List Value).toArray s = true := fun v9 h9 => atoms_spec (ws := k_ws yX1_acceptMinus cX1_acceptMinus 2 (some .boolean)) B.pre v9 (List.mem_cons_of_mem _ h9)
  have hown : s.vm.findClass RX1 = some m.cls := findClass_of_methodNamed B.named
  have S0 : k_C p s m ([.ref pa] : List Value).toArray c cX1_acceptMinus 2 RX1 := ⟨hx, hb, hml, hown, ht⟩
  have hlocks := B.notSynchronized
  subst hsz
  have hD := hD0.self (sz := s.heap.size)
  generalize hAe : va_A [(pa, .inr (1, [.int pk, .int pf, .int ps, .int pn, .int pp, .int pm]))] s.heap.size = A at hD hG ⊢
  have hA : ∀ q : Nat, s.heap.size ≤ q → A q := fun q h => by rw [← hAe]; exact Or.inr h
  have hS : va_S A s.heap s.heap [] := va_S.rf
  have hl := lv_entry ([.ref pa]) (n := 2) (Nat.le_of_ble_eq_true rfl)
  rw [lg_entry_eq]
  generalize (lg_sl ([.ref pa]) ++ List.replicate (2 - (lg_sl ([.ref pa])).length) Slot.unset).toArray = ls at hl ⊢
  have hl : lv_has ls 2 [(0, .ref pa)] := hl
  have hP : va_P D vwCl [(pa, .inr (1, [.int pk, .int pf, .int ps, .int pn, .int pp, .int pm]))] s.heap := hP
  refine lv_aload_n hx hb dX1_acceptMinus_0 rfl (lv_at hl 0 rfl) ?_
  refine va_get (D := D) (ci := 1) (v := .int pk) (C := RX1) (T := TX1) (N := 6) hx hb ht inA_X1 hown hK hP 0 rfl rfl 0 (by decide) (ht _ lf_X1_29) (fun _ h9 => h9) rfl dX1_acceptMinus_1 ?_
  refine lv_bipush (v := 115) hx hb dX1_acceptMinus_4 (by decide) ?_
  refine lv_icmp_ne (tgt := 35) hx hb dX1_acceptMinus_6 (by decide) (fun c_1 => ?_) (fun c_1 => ?_)
  · have hc9 := c_1
    refine lv_iconst (v := 0) hx hb dX1_acceptMinus_35 (by decide) ?_
    refine lv_istore_n (lv' := [(1, .int 0), (0, .ref pa)]) hx hb dX1_acceptMinus_36 rfl hl (by decide) rfl (fun ls hl => ?_)
    refine lv_aload_n hx hb dX1_acceptMinus_37 rfl (lv_at hl 1 rfl) ?_
    refine lv_aload_n hx hb dX1_acceptMinus_38 rfl (lv_at hl 1 rfl) ?_
    refine va_get (D := D) (ci := 1) (v := .int pm) (C := RX1) (T := TX1) (N := 6) hx hb ht inA_X1 hown hK hP 0 rfl rfl 5 (by decide) (ht _ lf_X1_35) (fun _ h9 => h9) rfl dX1_acceptMinus_39 ?_
    refine lv_if_ne (tgt := 49) hx hb dX1_acceptMinus_42 (by decide) (fun c_2 => ?_) (fun c_2 => ?_)
    · have hc9 := c_2
      refine lv_iconst (v := 1) hx hb dX1_acceptMinus_49 (by decide) ?_
      refine lv_goto (tgt := 54) hx hb dX1_acceptMinus_50 (by decide) ?_
      refine va_put (D := D) (ci := 1) (v := .int 1) (ty := .boolean) (C := RX1) (T := TX1) (N := 6) hx hb ht inA_X1 tyX1 tyX1_ok nmX1 hown hK hP hD hS 0 rfl rfl 5 (by decide) (ht _ lf_X1_35) (fun _ h9 => h9) rfl (tyX1_ok 5 (by decide)) rfl rfl (Nat.le_of_ble_eq_true rfl) dX1_acceptMinus_54 (fun H locs hP hD hS => ?_)
      have hP : va_P D vwCl [(pa, .inr (1, [.int pk, .int pf, .int ps, .int pn, .int pp, .int 1]))] H := hP
      have hD : va_D A [(pa, .inr (1, [.int pk, .int pf, .int ps, .int pn, .int pp, .int 1]))] := hD
      refine lv_iload_n hx hb dX1_acceptMinus_57 rfl (lv_at hl 0 rfl) ?_
      have hP9 : va_P D vwCl [(pa, .inr (1, [.int pk, .int pf, .int ps, .int pn, .int pp, .int 1]))] H := hP.sub [0] rfl
      have hD9 : va_D A [(pa, .inr (1, [.int pk, .int pf, .int ps, .int pn, .int pp, .int 1]))] := hD.sub [0] (by decide) rfl
      have hK9 : va_K D vwCl [] s := hK.sub [] rfl
      exact W.zret (v := 0) hx hb hr (rfl) (fun t ht9 hW9 => ⟨⟨0, (pk, pf, ps, pn, pp, 1), rfl, by (exact Or.inr ⟨rfl, (by unfold acMin; rw [if_neg c_1]), (show (pk, pf, ps, pn, pp, 1) = (pk, pf, ps, pn, pp, pm) by rw [(hm.resolve_left c_2)])⟩), ⟨by rw [ht9]; exact hP9, va_K.moved hW9.alike hK9, hD9⟩⟩, hS.F ht9⟩) hS.2.2 dX1_acceptMinus_58
    · have hc9 := c_2
      refine lv_iload_n hx hb dX1_acceptMinus_45 rfl (lv_at hl 0 rfl) ?_
      refine lv_if_eq (tgt := 53) hx hb dX1_acceptMinus_46 (by decide) (fun _ => ?_) (fun c9 => absurd (by decide) c9)
      refine lv_iconst (v := 0) hx hb dX1_acceptMinus_53 (by decide) ?_
      refine va_put (D := D) (ci := 1) (v := .int 0) (ty := .boolean) (C := RX1) (T := TX1) (N := 6) hx hb ht inA_X1 tyX1 tyX1_ok nmX1 hown hK hP hD hS 0 rfl rfl 5 (by decide) (ht _ lf_X1_35) (fun _ h9 => h9) rfl (tyX1_ok 5 (by decide)) rfl rfl (Nat.le_of_ble_eq_true rfl) dX1_acceptMinus_54 (fun H locs hP hD hS => ?_)
      have hP : va_P D vwCl [(pa, .inr (1, [.int pk, .int pf, .int ps, .int pn, .int pp, .int 0]))] H := hP
      have hD : va_D A [(pa, .inr (1, [.int pk, .int pf, .int ps, .int pn, .int pp, .int 0]))] := hD
      refine lv_iload_n hx hb dX1_acceptMinus_57 rfl (lv_at hl 0 rfl) ?_
      have hP9 : va_P D vwCl [(pa, .inr (1, [.int pk, .int pf, .int ps, .int pn, .int pp, .int 0]))] H := hP.sub [0] rfl
      have hD9 : va_D A [(pa, .inr (1, [.int pk, .int pf, .int ps, .int pn, .int pp, .int 0]))] := hD.sub [0] (by decide) rfl
      have hK9 : va_K D vwCl [] s := hK.sub [] rfl
      exact W.zret (v := 0) hx hb hr (rfl) (fun t ht9 hW9 => ⟨⟨0, (pk, pf, ps, pn, pp, 0), rfl, by (exact Or.inr ⟨rfl, (by unfold acMin; rw [if_neg c_1]), (show (pk, pf, ps, pn, pp, 0) = (pk, pf, ps, pn, pp, pm) by rw [c_2])⟩), ⟨by rw [ht9]; exact hP9, va_K.moved hW9.alike hK9, hD9⟩⟩, hS.F ht9⟩) hS.2.2 dX1_acceptMinus_58
  · have hc9 := c_1
    refine lv_aload_n hx hb dX1_acceptMinus_9 rfl (lv_at hl 0 rfl) ?_
    refine va_get (D := D) (ci := 1) (v := .int pp) (C := RX1) (T := TX1) (N := 6) hx hb ht inA_X1 hown hK hP 0 rfl rfl 4 (by decide) (ht _ lf_X1_11) (fun _ h9 => h9) rfl dX1_acceptMinus_10 ?_
    refine lv_iconst (v := 2) hx hb dX1_acceptMinus_13 (by decide) ?_
    refine lv_icmp_ne (tgt := 35) hx hb dX1_acceptMinus_14 (by decide) (fun c_3 => ?_) (fun c_3 => ?_)
    · have hc9 := c_3
      refine lv_iconst (v := 0) hx hb dX1_acceptMinus_35 (by decide) ?_
      refine lv_istore_n (lv' := [(1, .int 0), (0, .ref pa)]) hx hb dX1_acceptMinus_36 rfl hl (by decide) rfl (fun ls hl => ?_)
      refine lv_aload_n hx hb dX1_acceptMinus_37 rfl (lv_at hl 1 rfl) ?_
      refine lv_aload_n hx hb dX1_acceptMinus_38 rfl (lv_at hl 1 rfl) ?_
      refine va_get (D := D) (ci := 1) (v := .int pm) (C := RX1) (T := TX1) (N := 6) hx hb ht inA_X1 hown hK hP 0 rfl rfl 5 (by decide) (ht _ lf_X1_35) (fun _ h9 => h9) rfl dX1_acceptMinus_39 ?_
      refine lv_if_ne (tgt := 49) hx hb dX1_acceptMinus_42 (by decide) (fun c_4 => ?_) (fun c_4 => ?_)
      · have hc9 := c_4
        refine lv_iconst (v := 1) hx hb dX1_acceptMinus_49 (by decide) ?_
        refine lv_goto (tgt := 54) hx hb dX1_acceptMinus_50 (by decide) ?_
        refine va_put (D := D) (ci := 1) (v := .int 1) (ty := .boolean) (C := RX1) (T := TX1) (N := 6) hx hb ht inA_X1 tyX1 tyX1_ok nmX1 hown hK hP hD hS 0 rfl rfl 5 (by decide) (ht _ lf_X1_35) (fun _ h9 => h9) rfl (tyX1_ok 5 (by decide)) rfl rfl (Nat.le_of_ble_eq_true rfl) dX1_acceptMinus_54 (fun H locs hP hD hS => ?_)
        have hP : va_P D vwCl [(pa, .inr (1, [.int pk, .int pf, .int ps, .int pn, .int pp, .int 1]))] H := hP
        have hD : va_D A [(pa, .inr (1, [.int pk, .int pf, .int ps, .int pn, .int pp, .int 1]))] := hD
        refine lv_iload_n hx hb dX1_acceptMinus_57 rfl (lv_at hl 0 rfl) ?_
        have hP9 : va_P D vwCl [(pa, .inr (1, [.int pk, .int pf, .int ps, .int pn, .int pp, .int 1]))] H := hP.sub [0] rfl
        have hD9 : va_D A [(pa, .inr (1, [.int pk, .int pf, .int ps, .int pn, .int pp, .int 1]))] := hD.sub [0] (by decide) rfl
        have hK9 : va_K D vwCl [] s := hK.sub [] rfl
        exact W.zret (v := 0) hx hb hr (rfl) (fun t ht9 hW9 => ⟨⟨0, (pk, pf, ps, pn, pp, 1), rfl, by (exact Or.inr ⟨rfl, (by unfold acMin; rw [if_pos c_1, if_neg c_3]), (show (pk, pf, ps, pn, pp, 1) = (pk, pf, ps, pn, pp, pm) by rw [(hm.resolve_left c_4)])⟩), ⟨by rw [ht9]; exact hP9, va_K.moved hW9.alike hK9, hD9⟩⟩, hS.F ht9⟩) hS.2.2 dX1_acceptMinus_58
      · have hc9 := c_4
        refine lv_iload_n hx hb dX1_acceptMinus_45 rfl (lv_at hl 0 rfl) ?_
        refine lv_if_eq (tgt := 53) hx hb dX1_acceptMinus_46 (by decide) (fun _ => ?_) (fun c9 => absurd (by decide) c9)
        refine lv_iconst (v := 0) hx hb dX1_acceptMinus_53 (by decide) ?_
        refine va_put (D := D) (ci := 1) (v := .int 0) (ty := .boolean) (C := RX1) (T := TX1) (N := 6) hx hb ht inA_X1 tyX1 tyX1_ok nmX1 hown hK hP hD hS 0 rfl rfl 5 (by decide) (ht _ lf_X1_35) (fun _ h9 => h9) rfl (tyX1_ok 5 (by decide)) rfl rfl (Nat.le_of_ble_eq_true rfl) dX1_acceptMinus_54 (fun H locs hP hD hS => ?_)
        have hP : va_P D vwCl [(pa, .inr (1, [.int pk, .int pf, .int ps, .int pn, .int pp, .int 0]))] H := hP
        have hD : va_D A [(pa, .inr (1, [.int pk, .int pf, .int ps, .int pn, .int pp, .int 0]))] := hD
        refine lv_iload_n hx hb dX1_acceptMinus_57 rfl (lv_at hl 0 rfl) ?_
        have hP9 : va_P D vwCl [(pa, .inr (1, [.int pk, .int pf, .int ps, .int pn, .int pp, .int 0]))] H := hP.sub [0] rfl
        have hD9 : va_D A [(pa, .inr (1, [.int pk, .int pf, .int ps, .int pn, .int pp, .int 0]))] := hD.sub [0] (by decide) rfl
        have hK9 : va_K D vwCl [] s := hK.sub [] rfl
        exact W.zret (v := 0) hx hb hr (rfl) (fun t ht9 hW9 => ⟨⟨0, (pk, pf, ps, pn, pp, 0), rfl, by (exact Or.inr ⟨rfl, (by unfold acMin; rw [if_pos c_1, if_neg c_3]), (show (pk, pf, ps, pn, pp, 0) = (pk, pf, ps, pn, pp, pm) by rw [c_4])⟩), ⟨by rw [ht9]; exact hP9, va_K.moved hW9.alike hK9, hD9⟩⟩, hS.F ht9⟩) hS.2.2 dX1_acceptMinus_58
    · have hc9 := c_3
      refine lv_aload_n hx hb dX1_acceptMinus_17 rfl (lv_at hl 0 rfl) ?_
      refine va_get (D := D) (ci := 1) (v := .int pn) (C := RX1) (T := TX1) (N := 6) hx hb ht inA_X1 hown hK hP 0 rfl rfl 3 (by decide) (ht _ lf_X1_32) (fun _ h9 => h9) rfl dX1_acceptMinus_18 ?_
      refine lv_if_ne (tgt := 35) hx hb dX1_acceptMinus_21 (by decide) (fun c_5 => ?_) (fun c_5 => ?_)
      · have hc9 := c_5
        refine lv_iconst (v := 0) hx hb dX1_acceptMinus_35 (by decide) ?_
        refine lv_istore_n (lv' := [(1, .int 0), (0, .ref pa)]) hx hb dX1_acceptMinus_36 rfl hl (by decide) rfl (fun ls hl => ?_)
        refine lv_aload_n hx hb dX1_acceptMinus_37 rfl (lv_at hl 1 rfl) ?_
        refine lv_aload_n hx hb dX1_acceptMinus_38 rfl (lv_at hl 1 rfl) ?_
        refine va_get (D := D) (ci := 1) (v := .int pm) (C := RX1) (T := TX1) (N := 6) hx hb ht inA_X1 hown hK hP 0 rfl rfl 5 (by decide) (ht _ lf_X1_35) (fun _ h9 => h9) rfl dX1_acceptMinus_39 ?_
        refine lv_if_ne (tgt := 49) hx hb dX1_acceptMinus_42 (by decide) (fun c_6 => ?_) (fun c_6 => ?_)
        · have hc9 := c_6
          refine lv_iconst (v := 1) hx hb dX1_acceptMinus_49 (by decide) ?_
          refine lv_goto (tgt := 54) hx hb dX1_acceptMinus_50 (by decide) ?_
          refine va_put (D := D) (ci := 1) (v := .int 1) (ty := .boolean) (C := RX1) (T := TX1) (N := 6) hx hb ht inA_X1 tyX1 tyX1_ok nmX1 hown hK hP hD hS 0 rfl rfl 5 (by decide) (ht _ lf_X1_35) (fun _ h9 => h9) rfl (tyX1_ok 5 (by decide)) rfl rfl (Nat.le_of_ble_eq_true rfl) dX1_acceptMinus_54 (fun H locs hP hD hS => ?_)
          have hP : va_P D vwCl [(pa, .inr (1, [.int pk, .int pf, .int ps, .int pn, .int pp, .int 1]))] H := hP
          have hD : va_D A [(pa, .inr (1, [.int pk, .int pf, .int ps, .int pn, .int pp, .int 1]))] := hD
          refine lv_iload_n hx hb dX1_acceptMinus_57 rfl (lv_at hl 0 rfl) ?_
          have hP9 : va_P D vwCl [(pa, .inr (1, [.int pk, .int pf, .int ps, .int pn, .int pp, .int 1]))] H := hP.sub [0] rfl
          have hD9 : va_D A [(pa, .inr (1, [.int pk, .int pf, .int ps, .int pn, .int pp, .int 1]))] := hD.sub [0] (by decide) rfl
          have hK9 : va_K D vwCl [] s := hK.sub [] rfl
          exact W.zret (v := 0) hx hb hr (rfl) (fun t ht9 hW9 => ⟨⟨0, (pk, pf, ps, pn, pp, 1), rfl, by (exact Or.inr ⟨rfl, (by unfold acMin; rw [if_pos c_1, if_pos c_3, if_neg c_5]), (show (pk, pf, ps, pn, pp, 1) = (pk, pf, ps, pn, pp, pm) by rw [(hm.resolve_left c_6)])⟩), ⟨by rw [ht9]; exact hP9, va_K.moved hW9.alike hK9, hD9⟩⟩, hS.F ht9⟩) hS.2.2 dX1_acceptMinus_58
        · have hc9 := c_6
          refine lv_iload_n hx hb dX1_acceptMinus_45 rfl (lv_at hl 0 rfl) ?_
          refine lv_if_eq (tgt := 53) hx hb dX1_acceptMinus_46 (by decide) (fun _ => ?_) (fun c9 => absurd (by decide) c9)
          refine lv_iconst (v := 0) hx hb dX1_acceptMinus_53 (by decide) ?_
          refine va_put (D := D) (ci := 1) (v := .int 0) (ty := .boolean) (C := RX1) (T := TX1) (N := 6) hx hb ht inA_X1 tyX1 tyX1_ok nmX1 hown hK hP hD hS 0 rfl rfl 5 (by decide) (ht _ lf_X1_35) (fun _ h9 => h9) rfl (tyX1_ok 5 (by decide)) rfl rfl (Nat.le_of_ble_eq_true rfl) dX1_acceptMinus_54 (fun H locs hP hD hS => ?_)
          have hP : va_P D vwCl [(pa, .inr (1, [.int pk, .int pf, .int ps, .int pn, .int pp, .int 0]))] H := hP
          have hD : va_D A [(pa, .inr (1, [.int pk, .int pf, .int ps, .int pn, .int pp, .int 0]))] := hD
          refine lv_iload_n hx hb dX1_acceptMinus_57 rfl (lv_at hl 0 rfl) ?_
          have hP9 : va_P D vwCl [(pa, .inr (1, [.int pk, .int pf, .int ps, .int pn, .int pp, .int 0]))] H := hP.sub [0] rfl
          have hD9 : va_D A [(pa, .inr (1, [.int pk, .int pf, .int ps, .int pn, .int pp, .int 0]))] := hD.sub [0] (by decide) rfl
          have hK9 : va_K D vwCl [] s := hK.sub [] rfl
          exact W.zret (v := 0) hx hb hr (rfl) (fun t ht9 hW9 => ⟨⟨0, (pk, pf, ps, pn, pp, 0), rfl, by (exact Or.inr ⟨rfl, (by unfold acMin; rw [if_pos c_1, if_pos c_3, if_neg c_5]), (show (pk, pf, ps, pn, pp, 0) = (pk, pf, ps, pn, pp, pm) by rw [c_6])⟩), ⟨by rw [ht9]; exact hP9, va_K.moved hW9.alike hK9, hD9⟩⟩, hS.F ht9⟩) hS.2.2 dX1_acceptMinus_58
      · have hc9 := c_5
        refine lv_aload_n hx hb dX1_acceptMinus_24 rfl (lv_at hl 0 rfl) ?_
        refine va_get (D := D) (ci := 1) (v := .int pm) (C := RX1) (T := TX1) (N := 6) hx hb ht inA_X1 hown hK hP 0 rfl rfl 5 (by decide) (ht _ lf_X1_35) (fun _ h9 => h9) rfl dX1_acceptMinus_25 ?_
        refine lv_if_ne (tgt := 35) hx hb dX1_acceptMinus_28 (by decide) (fun c_7 => ?_) (fun c_7 => ?_)
        · have hc9 := c_7
          refine lv_iconst (v := 0) hx hb dX1_acceptMinus_35 (by decide) ?_
          refine lv_istore_n (lv' := [(1, .int 0), (0, .ref pa)]) hx hb dX1_acceptMinus_36 rfl hl (by decide) rfl (fun ls hl => ?_)
          refine lv_aload_n hx hb dX1_acceptMinus_37 rfl (lv_at hl 1 rfl) ?_
          refine lv_aload_n hx hb dX1_acceptMinus_38 rfl (lv_at hl 1 rfl) ?_
          refine va_get (D := D) (ci := 1) (v := .int pm) (C := RX1) (T := TX1) (N := 6) hx hb ht inA_X1 hown hK hP 0 rfl rfl 5 (by decide) (ht _ lf_X1_35) (fun _ h9 => h9) rfl dX1_acceptMinus_39 ?_
          refine lv_if_ne (tgt := 49) hx hb dX1_acceptMinus_42 (by decide) (fun c_8 => ?_) (fun c9 => absurd c9 c_7)
          refine lv_iconst (v := 1) hx hb dX1_acceptMinus_49 (by decide) ?_
          refine lv_goto (tgt := 54) hx hb dX1_acceptMinus_50 (by decide) ?_
          refine va_put (D := D) (ci := 1) (v := .int 1) (ty := .boolean) (C := RX1) (T := TX1) (N := 6) hx hb ht inA_X1 tyX1 tyX1_ok nmX1 hown hK hP hD hS 0 rfl rfl 5 (by decide) (ht _ lf_X1_35) (fun _ h9 => h9) rfl (tyX1_ok 5 (by decide)) rfl rfl (Nat.le_of_ble_eq_true rfl) dX1_acceptMinus_54 (fun H locs hP hD hS => ?_)
          have hP : va_P D vwCl [(pa, .inr (1, [.int pk, .int pf, .int ps, .int pn, .int pp, .int 1]))] H := hP
          have hD : va_D A [(pa, .inr (1, [.int pk, .int pf, .int ps, .int pn, .int pp, .int 1]))] := hD
          refine lv_iload_n hx hb dX1_acceptMinus_57 rfl (lv_at hl 0 rfl) ?_
          have hP9 : va_P D vwCl [(pa, .inr (1, [.int pk, .int pf, .int ps, .int pn, .int pp, .int 1]))] H := hP.sub [0] rfl
          have hD9 : va_D A [(pa, .inr (1, [.int pk, .int pf, .int ps, .int pn, .int pp, .int 1]))] := hD.sub [0] (by decide) rfl
          have hK9 : va_K D vwCl [] s := hK.sub [] rfl
          exact W.zret (v := 0) hx hb hr (rfl) (fun t ht9 hW9 => ⟨⟨0, (pk, pf, ps, pn, pp, 1), rfl, by (exact Or.inr ⟨rfl, (by unfold acMin; rw [if_pos c_1, if_pos c_3, if_pos c_5, if_neg c_8]), (show (pk, pf, ps, pn, pp, 1) = (pk, pf, ps, pn, pp, pm) by rw [(hm.resolve_left c_8)])⟩), ⟨by rw [ht9]; exact hP9, va_K.moved hW9.alike hK9, hD9⟩⟩, hS.F ht9⟩) hS.2.2 dX1_acceptMinus_58
        · have hc9 := c_7
          refine lv_iconst (v := 1) hx hb dX1_acceptMinus_31 (by decide) ?_
          refine lv_goto (tgt := 36) hx hb dX1_acceptMinus_32 (by decide) ?_
          refine lv_istore_n (lv' := [(1, .int 1), (0, .ref pa)]) hx hb dX1_acceptMinus_36 rfl hl (by decide) rfl (fun ls hl => ?_)
          refine lv_aload_n hx hb dX1_acceptMinus_37 rfl (lv_at hl 1 rfl) ?_
          refine lv_aload_n hx hb dX1_acceptMinus_38 rfl (lv_at hl 1 rfl) ?_
          refine va_get (D := D) (ci := 1) (v := .int pm) (C := RX1) (T := TX1) (N := 6) hx hb ht inA_X1 hown hK hP 0 rfl rfl 5 (by decide) (ht _ lf_X1_35) (fun _ h9 => h9) rfl dX1_acceptMinus_39 ?_
          refine lv_if_ne (tgt := 49) hx hb dX1_acceptMinus_42 (by decide) (fun c9 => absurd c_7 c9) (fun c_9 => ?_)
          refine lv_iload_n hx hb dX1_acceptMinus_45 rfl (lv_at hl 0 rfl) ?_
          refine lv_if_eq (tgt := 53) hx hb dX1_acceptMinus_46 (by decide) (fun c9 => absurd c9 (by decide)) (fun _ => ?_)
          refine lv_iconst (v := 1) hx hb dX1_acceptMinus_49 (by decide) ?_
          refine lv_goto (tgt := 54) hx hb dX1_acceptMinus_50 (by decide) ?_
          refine va_put (D := D) (ci := 1) (v := .int 1) (ty := .boolean) (C := RX1) (T := TX1) (N := 6) hx hb ht inA_X1 tyX1 tyX1_ok nmX1 hown hK hP hD hS 0 rfl rfl 5 (by decide) (ht _ lf_X1_35) (fun _ h9 => h9) rfl (tyX1_ok 5 (by decide)) rfl rfl (Nat.le_of_ble_eq_true rfl) dX1_acceptMinus_54 (fun H locs hP hD hS => ?_)
          have hP : va_P D vwCl [(pa, .inr (1, [.int pk, .int pf, .int ps, .int pn, .int pp, .int 1]))] H := hP
          have hD : va_D A [(pa, .inr (1, [.int pk, .int pf, .int ps, .int pn, .int pp, .int 1]))] := hD
          refine lv_iload_n hx hb dX1_acceptMinus_57 rfl (lv_at hl 0 rfl) ?_
          have hP9 : va_P D vwCl [(pa, .inr (1, [.int pk, .int pf, .int ps, .int pn, .int pp, .int 1]))] H := hP.sub [0] rfl
          have hD9 : va_D A [(pa, .inr (1, [.int pk, .int pf, .int ps, .int pn, .int pp, .int 1]))] := hD.sub [0] (by decide) rfl
          have hK9 : va_K D vwCl [] s := hK.sub [] rfl
          exact W.zret (v := 1) hx hb hr (rfl) (fun t ht9 hW9 => ⟨⟨1, (pk, pf, ps, pn, pp, 1), rfl, by (exact Or.inl ⟨rfl, (by unfold acMin; rw [if_pos c_1, if_pos c_3, if_pos c_5, if_pos c_9])⟩), ⟨by rw [ht9]; exact hP9, va_K.moved hW9.alike hK9, hD9⟩⟩, hS.F ht9⟩) hS.2.2 dX1_acceptMinus_58
set_option maxHeartbeats 4000000 in
set_option maxRecDepth 100000 in
theorem c_P_acSep (l : Launch) (D : va_G) (pa : Nat) (pk : Int32) (pf : Int32) (ps : Int32) (pn : Int32) (pp : Int32) (pm : Int32) (cx : Int32) (sz : Nat) : k_Mi (S := Int32 × Int32 × Int32 × Int32 × Int32 × Int32) l D yX1_acceptSeparator cX1_acceptSeparator 2 (some .boolean) 1 0 0 21 [.ref pa, .int cx] [(pa, .inr (1, [.int pk, .int pf, .int ps, .int pn, .int pp, .int pm]))] [] (fun (r : Int32) (u : Int32 × Int32 × Int32 × Int32 × Int32 × Int32) => match u with | (k1, f1, s1, n1, p1, m1) => orR (acSep pk pf ps pn pp pm cx) (pk, pf, ps, pn, pp, pm) r (k1, f1, s1, n1, p1, m1)) (fun u => match u with | (k1, f1, s1, n1, p1, m1) => [(pa, .inr (1, [.int k1, .int f1, .int s1, .int n1, .int p1, .int m1]))]) (fun u => match u with | (k1, f1, s1, n1, p1, m1) => []) sz := by
  refine Met.ofW (cc := cX1_acceptSeparator) (maxL := 2) (ret := (some .boolean)) (by decide) rfl ?_
  intro p e s m args below meth c s₁ B hml hv
  obtain ⟨rfl, hsz, hP, hK, hD0, hG⟩ := hv
  have hx := B.exec
  have hb := B.bytes
  have hr := B.returns
  have ht : ∀ v9 ∈ wsA, v9.before ([.ref pa, .int cx] : List Value).toArray s = true := fun v9 h9 => atoms_spec (ws := k_ws yX1_acceptSeparator cX1_acceptSeparator 2 (some .boolean)) B.pre v9 (List.mem_cons_of_mem _ h9)
  have hown : s.vm.findClass RX1 = some m.cls := findClass_of_methodNamed B.named
  have S0 : k_C p s m ([.ref pa, .int cx] : List Value).toArray c cX1_acceptSeparator 2 RX1 := ⟨hx, hb, hml, hown, ht⟩
  have hlocks := B.notSynchronized
  subst hsz
  have hD := hD0.self (sz := s.heap.size)
  generalize hAe : va_A [(pa, .inr (1, [.int pk, .int pf, .int ps, .int pn, .int pp, .int pm]))] s.heap.size = A at hD hG ⊢
  have hA : ∀ q : Nat, s.heap.size ≤ q → A q := fun q h => by rw [← hAe]; exact Or.inr h
  have hS : va_S A s.heap s.heap [] := va_S.rf
  have hl := lv_entry ([.ref pa, .int cx]) (n := 2) (Nat.le_of_ble_eq_true rfl)
  rw [lg_entry_eq]
  generalize (lg_sl ([.ref pa, .int cx]) ++ List.replicate (2 - (lg_sl ([.ref pa, .int cx])).length) Slot.unset).toArray = ls at hl ⊢
  have hl : lv_has ls 2 [(0, .ref pa), (1, .int cx)] := hl
  have hP : va_P D vwCl [(pa, .inr (1, [.int pk, .int pf, .int ps, .int pn, .int pp, .int pm]))] s.heap := hP
  refine lv_aload_n hx hb dX1_acceptSeparator_0 rfl (lv_at hl 0 rfl) ?_
  refine va_get (D := D) (ci := 1) (v := .int pn) (C := RX1) (T := TX1) (N := 6) hx hb ht inA_X1 hown hK hP 0 rfl rfl 3 (by decide) (ht _ lf_X1_32) (fun _ h9 => h9) rfl dX1_acceptSeparator_1 ?_
  refine lv_if_ne (tgt := 9) hx hb dX1_acceptSeparator_4 (by decide) (fun c_1 => ?_) (fun c_1 => ?_)
  · have hc9 := c_1
    refine lv_aload_n hx hb dX1_acceptSeparator_9 rfl (lv_at hl 0 rfl) ?_
    have ct := k_cut_of (wc := [(pa, .inr (1, [.int pk, .int pf, .int ps, .int pn, .int pp, .int pm]))]) (wr := []) (tc := []) hG hS hA hK hP hD [0] [] [] rfl rfl (by decide) (by decide) (by decide) rfl
    refine k_endi (As := [.ref pa]) ct (k_runV (As := []) (rest := []) S0 Lv_X1_60 rfl (ci := 1) (q0 := 0) rfl rfl ct (c_P_isEnd l D pa pk pf ps pn pp pm s.heap.size) hl.1 rfl (Nat.le_of_ble_eq_true rfl) rfl dX1_acceptSeparator_10 ⟨⟨Nat.le_of_ble_eq_true rfl, Nat.le_of_ble_eq_true rfl⟩, Nat.le_of_ble_eq_true rfl, Nat.le_of_ble_eq_true rfl⟩) rfl rfl (fun r_2 _ H locs hw_3 hP hD hK hS => ?_)
    have hK : va_K D vwCl [] s := hK
    have hP : va_P D vwCl [(pa, .inr (1, [.int pk, .int pf, .int ps, .int pn, .int pp, .int pm]))] H := hP
    have hD : va_D A [(pa, .inr (1, [.int pk, .int pf, .int ps, .int pn, .int pp, .int pm]))] := hD
    have hw_3 : r_2 = (endF pk pn pp) := hw_3
    have hw_3 := hw_3.symm
    subst hw_3
    refine k_nrm (y := (endF pk pn pp)) rfl ?_
    refine lv_if_eq (tgt := 46) hx hb dX1_acceptSeparator_13 (by decide) (fun c_4 => ?_) (fun c_4 => ?_)
    · have hc9 := c_4
      refine lv_iload_n hx hb dX1_acceptSeparator_46 rfl (lv_at hl 1 rfl) ?_
      refine lv_aload_n hx hb dX1_acceptSeparator_47 rfl (lv_at hl 0 rfl) ?_
      refine va_get (D := D) (ci := 1) (v := .int pk) (C := RX1) (T := TX1) (N := 6) hx hb ht inA_X1 hown hK hP 0 rfl rfl 0 (by decide) (ht _ lf_X1_29) (fun _ h9 => h9) rfl dX1_acceptSeparator_48 ?_
      refine lv_bipush (v := 115) hx hb dX1_acceptSeparator_51 (by decide) ?_
      refine lv_icmp_ne (tgt := 61) hx hb dX1_acceptSeparator_53 (by decide) (fun c_5 => ?_) (fun c_5 => ?_)
      · have hc9 := c_5
        refine lv_bipush (v := 44) hx hb dX1_acceptSeparator_61 (by decide) ?_
        refine lv_icmp_eq (tgt := 68) hx hb dX1_acceptSeparator_63 (by decide) (fun c_6 => ?_) (fun c_6 => ?_)
        · have hc9 := c_6
          refine lv_aload_n hx hb dX1_acceptSeparator_68 rfl (lv_at hl 0 rfl) ?_
          refine lv_iconst (v := 2) hx hb dX1_acceptSeparator_69 (by decide) ?_
          have ct := k_cut_of (wc := [(pa, .inr (1, [.int pk, .int pf, .int ps, .int pn, .int pp, .int pm]))]) (wr := []) (tc := []) hG hS hA hK hP hD [0] [] [] rfl rfl (by decide) (by decide) (by decide) rfl
          refine k_endv (As := [.ref pa, .int 2]) ct (k_runV (As := [.int 2]) (rest := []) S0 Lv_X1_45 rfl (ci := 1) (q0 := 0) rfl rfl ct (c_P_startNumber l D pa pk pf ps pn pp pm 2 H.size) hl.1 rfl (Nat.le_of_ble_eq_true rfl) rfl dX1_acceptSeparator_70 ⟨⟨Nat.le_of_ble_eq_true rfl, Nat.le_of_ble_eq_true rfl⟩, Nat.le_of_ble_eq_true rfl, Nat.le_of_ble_eq_true rfl⟩) rfl rfl (fun _ _ H locs hw_8 hP hD hK hS => ?_)
          have hK : va_K D vwCl [] s := hK
          have hP : va_P D vwCl [(pa, .inr (1, [.int pk, .int pf, .int 0, .int 0, .int 2, .int 0]))] H := hP
          have hD : va_D A [(pa, .inr (1, [.int pk, .int pf, .int 0, .int 0, .int 2, .int 0]))] := hD
          refine lv_iconst (v := 1) hx hb dX1_acceptSeparator_73 (by decide) ?_
          have hP9 : va_P D vwCl [(pa, .inr (1, [.int pk, .int pf, .int 0, .int 0, .int 2, .int 0]))] H := hP.sub [0] rfl
          have hD9 : va_D A [(pa, .inr (1, [.int pk, .int pf, .int 0, .int 0, .int 2, .int 0]))] := hD.sub [0] (by decide) rfl
          have hK9 : va_K D vwCl [] s := hK.sub [] rfl
          exact W.zret (v := 1) hx hb hr (rfl) (fun t ht9 hW9 => ⟨⟨1, (pk, pf, 0, 0, 2, 0), rfl, by (exact Or.inl ⟨rfl, (by unfold acSep; rw [if_neg c_1, if_pos c_4, (show sepP pk = 44 from if_neg c_5), if_pos c_6])⟩), ⟨by rw [ht9]; exact hP9, va_K.moved hW9.alike hK9, hD9⟩⟩, hS.F ht9⟩) hS.2.2 dX1_acceptSeparator_74
        · have hc9 := c_6
          refine lv_iconst (v := 0) hx hb dX1_acceptSeparator_66 (by decide) ?_
          have hP9 : va_P D vwCl [(pa, .inr (1, [.int pk, .int pf, .int ps, .int pn, .int pp, .int pm]))] H := hP.sub [0] rfl
          have hD9 : va_D A [(pa, .inr (1, [.int pk, .int pf, .int ps, .int pn, .int pp, .int pm]))] := hD.sub [0] (by decide) rfl
          have hK9 : va_K D vwCl [] s := hK.sub [] rfl
          exact W.zret (v := 0) hx hb hr (rfl) (fun t ht9 hW9 => ⟨⟨0, (pk, pf, ps, pn, pp, pm), rfl, by (exact Or.inr ⟨rfl, (by unfold acSep; rw [if_neg c_1, if_pos c_4, (show sepP pk = 44 from if_neg c_5), if_neg c_6]), rfl⟩), ⟨by rw [ht9]; exact hP9, va_K.moved hW9.alike hK9, hD9⟩⟩, hS.F ht9⟩) hS.2.2 dX1_acceptSeparator_67
      · have hc9 := c_5
        refine lv_bipush (v := 61) hx hb dX1_acceptSeparator_56 (by decide) ?_
        refine lv_goto (tgt := 63) hx hb dX1_acceptSeparator_58 (by decide) ?_
        refine lv_icmp_eq (tgt := 68) hx hb dX1_acceptSeparator_63 (by decide) (fun c_9 => ?_) (fun c_9 => ?_)
        · have hc9 := c_9
          refine lv_aload_n hx hb dX1_acceptSeparator_68 rfl (lv_at hl 0 rfl) ?_
          refine lv_iconst (v := 2) hx hb dX1_acceptSeparator_69 (by decide) ?_
          have ct := k_cut_of (wc := [(pa, .inr (1, [.int pk, .int pf, .int ps, .int pn, .int pp, .int pm]))]) (wr := []) (tc := []) hG hS hA hK hP hD [0] [] [] rfl rfl (by decide) (by decide) (by decide) rfl
          refine k_endv (As := [.ref pa, .int 2]) ct (k_runV (As := [.int 2]) (rest := []) S0 Lv_X1_45 rfl (ci := 1) (q0 := 0) rfl rfl ct (c_P_startNumber l D pa pk pf ps pn pp pm 2 H.size) hl.1 rfl (Nat.le_of_ble_eq_true rfl) rfl dX1_acceptSeparator_70 ⟨⟨Nat.le_of_ble_eq_true rfl, Nat.le_of_ble_eq_true rfl⟩, Nat.le_of_ble_eq_true rfl, Nat.le_of_ble_eq_true rfl⟩) rfl rfl (fun _ _ H locs hw_11 hP hD hK hS => ?_)
          have hK : va_K D vwCl [] s := hK
          have hP : va_P D vwCl [(pa, .inr (1, [.int pk, .int pf, .int 0, .int 0, .int 2, .int 0]))] H := hP
          have hD : va_D A [(pa, .inr (1, [.int pk, .int pf, .int 0, .int 0, .int 2, .int 0]))] := hD
          refine lv_iconst (v := 1) hx hb dX1_acceptSeparator_73 (by decide) ?_
          have hP9 : va_P D vwCl [(pa, .inr (1, [.int pk, .int pf, .int 0, .int 0, .int 2, .int 0]))] H := hP.sub [0] rfl
          have hD9 : va_D A [(pa, .inr (1, [.int pk, .int pf, .int 0, .int 0, .int 2, .int 0]))] := hD.sub [0] (by decide) rfl
          have hK9 : va_K D vwCl [] s := hK.sub [] rfl
          exact W.zret (v := 1) hx hb hr (rfl) (fun t ht9 hW9 => ⟨⟨1, (pk, pf, 0, 0, 2, 0), rfl, by (exact Or.inl ⟨rfl, (by unfold acSep; rw [if_neg c_1, if_pos c_4, (show sepP pk = 61 from if_pos c_5), if_pos c_9])⟩), ⟨by rw [ht9]; exact hP9, va_K.moved hW9.alike hK9, hD9⟩⟩, hS.F ht9⟩) hS.2.2 dX1_acceptSeparator_74
        · have hc9 := c_9
          refine lv_iconst (v := 0) hx hb dX1_acceptSeparator_66 (by decide) ?_
          have hP9 : va_P D vwCl [(pa, .inr (1, [.int pk, .int pf, .int ps, .int pn, .int pp, .int pm]))] H := hP.sub [0] rfl
          have hD9 : va_D A [(pa, .inr (1, [.int pk, .int pf, .int ps, .int pn, .int pp, .int pm]))] := hD.sub [0] (by decide) rfl
          have hK9 : va_K D vwCl [] s := hK.sub [] rfl
          exact W.zret (v := 0) hx hb hr (rfl) (fun t ht9 hW9 => ⟨⟨0, (pk, pf, ps, pn, pp, pm), rfl, by (exact Or.inr ⟨rfl, (by unfold acSep; rw [if_neg c_1, if_pos c_4, (show sepP pk = 61 from if_pos c_5), if_neg c_9]), rfl⟩), ⟨by rw [ht9]; exact hP9, va_K.moved hW9.alike hK9, hD9⟩⟩, hS.F ht9⟩) hS.2.2 dX1_acceptSeparator_67
    · have hc9 := c_4
      refine lv_aload_n hx hb dX1_acceptSeparator_16 rfl (lv_at hl 0 rfl) ?_
      refine lv_iload_n hx hb dX1_acceptSeparator_17 rfl (lv_at hl 1 rfl) ?_
      refine lv_bipush (v := 59) hx hb dX1_acceptSeparator_18 (by decide) ?_
      refine lv_icmp_ne (tgt := 27) hx hb dX1_acceptSeparator_20 (by decide) (fun c_12 => ?_) (fun c_12 => ?_)
      · have hc9 := c_12
        refine lv_aload_n hx hb dX1_acceptSeparator_27 rfl (lv_at hl 0 rfl) ?_
        refine va_get (D := D) (ci := 1) (v := .int pp) (C := RX1) (T := TX1) (N := 6) hx hb ht inA_X1 hown hK hP 0 rfl rfl 4 (by decide) (ht _ lf_X1_11) (fun _ h9 => h9) rfl dX1_acceptSeparator_28 ?_
        refine va_put (D := D) (ci := 1) (v := .int pp) (ty := .int) (C := RX1) (T := TX1) (N := 6) hx hb ht inA_X1 tyX1 tyX1_ok nmX1 hown hK hP hD hS 0 rfl rfl 4 (by decide) (ht _ lf_X1_11) (fun _ h9 => h9) rfl (tyX1_ok 4 (by decide)) rfl rfl (Nat.le_of_ble_eq_true rfl) dX1_acceptSeparator_31 (fun H locs hP hD hS => ?_)
        have hP : va_P D vwCl [(pa, .inr (1, [.int pk, .int pf, .int ps, .int pn, .int pp, .int pm]))] H := hP
        have hD : va_D A [(pa, .inr (1, [.int pk, .int pf, .int ps, .int pn, .int pp, .int pm]))] := hD
        refine lv_iload_n hx hb dX1_acceptSeparator_34 rfl (lv_at hl 1 rfl) ?_
        refine lv_bipush (v := 59) hx hb dX1_acceptSeparator_35 (by decide) ?_
        refine lv_icmp_ne (tgt := 44) hx hb dX1_acceptSeparator_37 (by decide) (fun c_13 => ?_) (fun c9 => absurd c9 c_12)
        refine lv_iconst (v := 0) hx hb dX1_acceptSeparator_44 (by decide) ?_
        have hP9 : va_P D vwCl [(pa, .inr (1, [.int pk, .int pf, .int ps, .int pn, .int pp, .int pm]))] H := hP.sub [0] rfl
        have hD9 : va_D A [(pa, .inr (1, [.int pk, .int pf, .int ps, .int pn, .int pp, .int pm]))] := hD.sub [0] (by decide) rfl
        have hK9 : va_K D vwCl [] s := hK.sub [] rfl
        exact W.zret (v := 0) hx hb hr (rfl) (fun t ht9 hW9 => ⟨⟨0, (pk, pf, ps, pn, pp, pm), rfl, by (exact Or.inr ⟨rfl, (by unfold acSep; rw [if_neg c_1, if_neg c_4, if_neg c_13]), rfl⟩), ⟨by rw [ht9]; exact hP9, va_K.moved hW9.alike hK9, hD9⟩⟩, hS.F ht9⟩) hS.2.2 dX1_acceptSeparator_45
      · have hc9 := c_12
        refine lv_iconst (v := 0) hx hb dX1_acceptSeparator_23 (by decide) ?_
        refine lv_goto (tgt := 31) hx hb dX1_acceptSeparator_24 (by decide) ?_
        refine va_put (D := D) (ci := 1) (v := .int 0) (ty := .int) (C := RX1) (T := TX1) (N := 6) hx hb ht inA_X1 tyX1 tyX1_ok nmX1 hown hK hP hD hS 0 rfl rfl 4 (by decide) (ht _ lf_X1_11) (fun _ h9 => h9) rfl (tyX1_ok 4 (by decide)) rfl rfl (Nat.le_of_ble_eq_true rfl) dX1_acceptSeparator_31 (fun H locs hP hD hS => ?_)
        have hP : va_P D vwCl [(pa, .inr (1, [.int pk, .int pf, .int ps, .int pn, .int 0, .int pm]))] H := hP
        have hD : va_D A [(pa, .inr (1, [.int pk, .int pf, .int ps, .int pn, .int 0, .int pm]))] := hD
        refine lv_iload_n hx hb dX1_acceptSeparator_34 rfl (lv_at hl 1 rfl) ?_
        refine lv_bipush (v := 59) hx hb dX1_acceptSeparator_35 (by decide) ?_
        refine lv_icmp_ne (tgt := 44) hx hb dX1_acceptSeparator_37 (by decide) (fun c9 => absurd c_12 c9) (fun c_14 => ?_)
        refine lv_iconst (v := 1) hx hb dX1_acceptSeparator_40 (by decide) ?_
        refine lv_goto (tgt := 45) hx hb dX1_acceptSeparator_41 (by decide) ?_
        have hP9 : va_P D vwCl [(pa, .inr (1, [.int pk, .int pf, .int ps, .int pn, .int 0, .int pm]))] H := hP.sub [0] rfl
        have hD9 : va_D A [(pa, .inr (1, [.int pk, .int pf, .int ps, .int pn, .int 0, .int pm]))] := hD.sub [0] (by decide) rfl
        have hK9 : va_K D vwCl [] s := hK.sub [] rfl
        exact W.zret (v := 1) hx hb hr (rfl) (fun t ht9 hW9 => ⟨⟨1, (pk, pf, ps, pn, 0, pm), rfl, by (exact Or.inl ⟨rfl, (by unfold acSep; rw [if_neg c_1, if_neg c_4, if_pos c_14])⟩), ⟨by rw [ht9]; exact hP9, va_K.moved hW9.alike hK9, hD9⟩⟩, hS.F ht9⟩) hS.2.2 dX1_acceptSeparator_45
  · have hc9 := c_1
    refine lv_iconst (v := 0) hx hb dX1_acceptSeparator_7 (by decide) ?_
    have hP9 : va_P D vwCl [(pa, .inr (1, [.int pk, .int pf, .int ps, .int pn, .int pp, .int pm]))] s.heap := hP.sub [0] rfl
    have hD9 : va_D A [(pa, .inr (1, [.int pk, .int pf, .int ps, .int pn, .int pp, .int pm]))] := hD.sub [0] (by decide) rfl
    have hK9 : va_K D vwCl [] s := hK.sub [] rfl
    exact W.zret (v := 0) hx hb hr (rfl) (fun t ht9 hW9 => ⟨⟨0, (pk, pf, ps, pn, pp, pm), rfl, by (exact Or.inr ⟨rfl, if_pos c_1, rfl⟩), ⟨by rw [ht9]; exact hP9, va_K.moved hW9.alike hK9, hD9⟩⟩, hS.F ht9⟩) hS.2.2 dX1_acceptSeparator_8
set_option maxHeartbeats 4000000 in
set_option maxRecDepth 100000 in
theorem c_P_accept (l : Launch) (D : va_G) (pa : Nat) (pk : Int32) (pf : Int32) (ps : Int32) (pn : Int32) (pp : Int32) (pm : Int32) (cx : Int32) (hm : pm = 0 ∨ pm = 1) (sz : Nat) : k_Mi (S := Int32 × Int32 × Int32 × Int32 × Int32 × Int32) l D yX1_accept cX1_accept 2 (some .boolean) 3 0 0 65 [.ref pa, .int cx] [(pa, .inr (1, [.int pk, .int pf, .int ps, .int pn, .int pp, .int pm]))] [] (fun (r : Int32) (u : Int32 × Int32 × Int32 × Int32 × Int32 × Int32) => match u with | (k1, f1, s1, n1, p1, m1) => orR (acc (pk, pf, ps, pn, pp, pm) cx) (pk, pf, ps, pn, pp, pm) r (k1, f1, s1, n1, p1, m1)) (fun u => match u with | (k1, f1, s1, n1, p1, m1) => [(pa, .inr (1, [.int k1, .int f1, .int s1, .int n1, .int p1, .int m1]))]) (fun u => match u with | (k1, f1, s1, n1, p1, m1) => []) sz := by
  refine Met.ofW (cc := cX1_accept) (maxL := 2) (ret := (some .boolean)) (by decide) rfl ?_
  intro p e s m args below meth c s₁ B hml hv
  obtain ⟨rfl, hsz, hP, hK, hD0, hG⟩ := hv
  have hx := B.exec
  have hb := B.bytes
  have hr := B.returns
  have ht : ∀ v9 ∈ wsA, v9.before ([.ref pa, .int cx] : List Value).toArray s = true := fun v9 h9 => atoms_spec (ws := k_ws yX1_accept cX1_accept 2 (some .boolean)) B.pre v9 (List.mem_cons_of_mem _ h9)
  have hown : s.vm.findClass RX1 = some m.cls := findClass_of_methodNamed B.named
  have S0 : k_C p s m ([.ref pa, .int cx] : List Value).toArray c cX1_accept 2 RX1 := ⟨hx, hb, hml, hown, ht⟩
  have hlocks := B.notSynchronized
  subst hsz
  have hD := hD0.self (sz := s.heap.size)
  generalize hAe : va_A [(pa, .inr (1, [.int pk, .int pf, .int ps, .int pn, .int pp, .int pm]))] s.heap.size = A at hD hG ⊢
  have hA : ∀ q : Nat, s.heap.size ≤ q → A q := fun q h => by rw [← hAe]; exact Or.inr h
  have hS : va_S A s.heap s.heap [] := va_S.rf
  have hl := lv_entry ([.ref pa, .int cx]) (n := 2) (Nat.le_of_ble_eq_true rfl)
  rw [lg_entry_eq]
  generalize (lg_sl ([.ref pa, .int cx]) ++ List.replicate (2 - (lg_sl ([.ref pa, .int cx])).length) Slot.unset).toArray = ls at hl ⊢
  have hl : lv_has ls 2 [(0, .ref pa), (1, .int cx)] := hl
  have hP : va_P D vwCl [(pa, .inr (1, [.int pk, .int pf, .int ps, .int pn, .int pp, .int pm]))] s.heap := hP
  refine lv_aload_n hx hb dX1_accept_0 rfl (lv_at hl 0 rfl) ?_
  refine va_get (D := D) (ci := 1) (v := .int pp) (C := RX1) (T := TX1) (N := 6) hx hb ht inA_X1 hown hK hP 0 rfl rfl 4 (by decide) (ht _ lf_X1_11) (fun _ h9 => h9) rfl dX1_accept_1 ?_
  refine lv_if_ne (tgt := 13) hx hb dX1_accept_4 (by decide) (fun c_1 => ?_) (fun c_1 => ?_)
  · have hc9 := c_1
    refine lv_iload_n hx hb dX1_accept_13 rfl (lv_at hl 1 rfl) ?_
    refine lv_bipush (v := 48) hx hb dX1_accept_14 (by decide) ?_
    refine lv_icmp_lt (tgt := 34) hx hb dX1_accept_16 (by decide) (fun c_2 => ?_) (fun c_2 => ?_)
    · have hc9 := c_2
      refine lv_iload_n hx hb dX1_accept_34 rfl (lv_at hl 1 rfl) ?_
      refine lv_bipush (v := 45) hx hb dX1_accept_35 (by decide) ?_
      refine lv_icmp_ne (tgt := 45) hx hb dX1_accept_37 (by decide) (fun c_3 => ?_) (fun c_3 => ?_)
      · have hc9 := c_3
        refine lv_aload_n hx hb dX1_accept_45 rfl (lv_at hl 0 rfl) ?_
        refine lv_iload_n hx hb dX1_accept_46 rfl (lv_at hl 1 rfl) ?_
        have ct := k_cut_of (wc := [(pa, .inr (1, [.int pk, .int pf, .int ps, .int pn, .int pp, .int pm]))]) (wr := []) (tc := []) hG hS hA hK hP hD [0] [] [] rfl rfl (by decide) (by decide) (by decide) rfl
        refine k_endi (As := [.ref pa, .int cx]) ct (k_runV (As := [.int cx]) (rest := []) S0 Lv_X1_26 rfl (ci := 1) (q0 := 0) rfl rfl ct (c_P_acSep l D pa pk pf ps pn pp pm cx s.heap.size) hl.1 rfl (Nat.le_of_ble_eq_true rfl) rfl dX1_accept_47 ⟨⟨Nat.le_of_ble_eq_true rfl, Nat.le_of_ble_eq_true rfl⟩, Nat.le_of_ble_eq_true rfl, Nat.le_of_ble_eq_true rfl⟩) rfl rfl (fun r_4 u H locs hw_11 hP hD hK hS => ?_)
        obtain ⟨k1v_5, f1v_6, s1v_7, n1v_8, p1v_9, m1v_10⟩ := u
        have hK : va_K D vwCl [] s := hK
        have hP : va_P D vwCl [(pa, .inr (1, [.int k1v_5, .int f1v_6, .int s1v_7, .int n1v_8, .int p1v_9, .int m1v_10]))] H := hP
        have hD : va_D A [(pa, .inr (1, [.int k1v_5, .int f1v_6, .int s1v_7, .int n1v_8, .int p1v_9, .int m1v_10]))] := hD
        have hw_11 : orR (acSep pk pf ps pn pp pm cx) (pk, pf, ps, pn, pp, pm) r_4 (k1v_5, f1v_6, s1v_7, n1v_8, p1v_9, m1v_10) := hw_11
        have hP9 : va_P D vwCl [(pa, .inr (1, [.int k1v_5, .int f1v_6, .int s1v_7, .int n1v_8, .int p1v_9, .int m1v_10]))] H := hP.sub [0] rfl
        have hD9 : va_D A [(pa, .inr (1, [.int k1v_5, .int f1v_6, .int s1v_7, .int n1v_8, .int p1v_9, .int m1v_10]))] := hD.sub [0] (by decide) rfl
        have hK9 : va_K D vwCl [] s := hK.sub [] rfl
        exact W.zret (v := r_4) hx hb hr ((or_nar hw_11)) (fun t ht9 hW9 => ⟨⟨r_4, (k1v_5, f1v_6, s1v_7, n1v_8, p1v_9, m1v_10), rfl, by (rw [acc_s c_1 (Or.inl c_2) c_3]; exact hw_11), ⟨by rw [ht9]; exact hP9, va_K.moved hW9.alike hK9, hD9⟩⟩, hS.F ht9⟩) hS.2.2 dX1_accept_50
      · have hc9 := c_3
        refine lv_aload_n hx hb dX1_accept_40 rfl (lv_at hl 0 rfl) ?_
        have ct := k_cut_of (wc := [(pa, .inr (1, [.int pk, .int pf, .int ps, .int pn, .int pp, .int pm]))]) (wr := []) (tc := []) hG hS hA hK hP hD [0] [] [] rfl rfl (by decide) (by decide) (by decide) rfl
        refine k_endi (As := [.ref pa]) ct (k_runV (As := []) (rest := []) S0 Lv_X1_22 rfl (ci := 1) (q0 := 0) rfl rfl ct (c_P_acMinus l D pa pk pf ps pn pp pm (by assumption) s.heap.size) hl.1 rfl (Nat.le_of_ble_eq_true rfl) rfl dX1_accept_41 ⟨⟨Nat.le_of_ble_eq_true rfl, Nat.le_of_ble_eq_true rfl⟩, Nat.le_of_ble_eq_true rfl, Nat.le_of_ble_eq_true rfl⟩) rfl rfl (fun r_12 u H locs hw_19 hP hD hK hS => ?_)
        obtain ⟨k1v_13, f1v_14, s1v_15, n1v_16, p1v_17, m1v_18⟩ := u
        have hK : va_K D vwCl [] s := hK
        have hP : va_P D vwCl [(pa, .inr (1, [.int k1v_13, .int f1v_14, .int s1v_15, .int n1v_16, .int p1v_17, .int m1v_18]))] H := hP
        have hD : va_D A [(pa, .inr (1, [.int k1v_13, .int f1v_14, .int s1v_15, .int n1v_16, .int p1v_17, .int m1v_18]))] := hD
        have hw_19 : orR (acMin pk pf ps pn pp pm) (pk, pf, ps, pn, pp, pm) r_12 (k1v_13, f1v_14, s1v_15, n1v_16, p1v_17, m1v_18) := hw_19
        have hP9 : va_P D vwCl [(pa, .inr (1, [.int k1v_13, .int f1v_14, .int s1v_15, .int n1v_16, .int p1v_17, .int m1v_18]))] H := hP.sub [0] rfl
        have hD9 : va_D A [(pa, .inr (1, [.int k1v_13, .int f1v_14, .int s1v_15, .int n1v_16, .int p1v_17, .int m1v_18]))] := hD.sub [0] (by decide) rfl
        have hK9 : va_K D vwCl [] s := hK.sub [] rfl
        exact W.zret (v := r_12) hx hb hr ((or_nar hw_19)) (fun t ht9 hW9 => ⟨⟨r_12, (k1v_13, f1v_14, s1v_15, n1v_16, p1v_17, m1v_18), rfl, by (rw [acc_m c_1 (Or.inl c_2) c_3]; exact hw_19), ⟨by rw [ht9]; exact hP9, va_K.moved hW9.alike hK9, hD9⟩⟩, hS.F ht9⟩) hS.2.2 dX1_accept_44
    · have hc9 := c_2
      refine lv_iload_n hx hb dX1_accept_19 rfl (lv_at hl 1 rfl) ?_
      refine lv_bipush (v := 57) hx hb dX1_accept_20 (by decide) ?_
      refine lv_icmp_gt (tgt := 34) hx hb dX1_accept_22 (by decide) (fun c_20 => ?_) (fun c_20 => ?_)
      · have hc9 := c_20
        refine lv_iload_n hx hb dX1_accept_34 rfl (lv_at hl 1 rfl) ?_
        refine lv_bipush (v := 45) hx hb dX1_accept_35 (by decide) ?_
        refine lv_icmp_ne (tgt := 45) hx hb dX1_accept_37 (by decide) (fun c_21 => ?_) (fun c_21 => ?_)
        · have hc9 := c_21
          refine lv_aload_n hx hb dX1_accept_45 rfl (lv_at hl 0 rfl) ?_
          refine lv_iload_n hx hb dX1_accept_46 rfl (lv_at hl 1 rfl) ?_
          have ct := k_cut_of (wc := [(pa, .inr (1, [.int pk, .int pf, .int ps, .int pn, .int pp, .int pm]))]) (wr := []) (tc := []) hG hS hA hK hP hD [0] [] [] rfl rfl (by decide) (by decide) (by decide) rfl
          refine k_endi (As := [.ref pa, .int cx]) ct (k_runV (As := [.int cx]) (rest := []) S0 Lv_X1_26 rfl (ci := 1) (q0 := 0) rfl rfl ct (c_P_acSep l D pa pk pf ps pn pp pm cx s.heap.size) hl.1 rfl (Nat.le_of_ble_eq_true rfl) rfl dX1_accept_47 ⟨⟨Nat.le_of_ble_eq_true rfl, Nat.le_of_ble_eq_true rfl⟩, Nat.le_of_ble_eq_true rfl, Nat.le_of_ble_eq_true rfl⟩) rfl rfl (fun r_22 u H locs hw_29 hP hD hK hS => ?_)
          obtain ⟨k1v_23, f1v_24, s1v_25, n1v_26, p1v_27, m1v_28⟩ := u
          have hK : va_K D vwCl [] s := hK
          have hP : va_P D vwCl [(pa, .inr (1, [.int k1v_23, .int f1v_24, .int s1v_25, .int n1v_26, .int p1v_27, .int m1v_28]))] H := hP
          have hD : va_D A [(pa, .inr (1, [.int k1v_23, .int f1v_24, .int s1v_25, .int n1v_26, .int p1v_27, .int m1v_28]))] := hD
          have hw_29 : orR (acSep pk pf ps pn pp pm cx) (pk, pf, ps, pn, pp, pm) r_22 (k1v_23, f1v_24, s1v_25, n1v_26, p1v_27, m1v_28) := hw_29
          have hP9 : va_P D vwCl [(pa, .inr (1, [.int k1v_23, .int f1v_24, .int s1v_25, .int n1v_26, .int p1v_27, .int m1v_28]))] H := hP.sub [0] rfl
          have hD9 : va_D A [(pa, .inr (1, [.int k1v_23, .int f1v_24, .int s1v_25, .int n1v_26, .int p1v_27, .int m1v_28]))] := hD.sub [0] (by decide) rfl
          have hK9 : va_K D vwCl [] s := hK.sub [] rfl
          exact W.zret (v := r_22) hx hb hr ((or_nar hw_29)) (fun t ht9 hW9 => ⟨⟨r_22, (k1v_23, f1v_24, s1v_25, n1v_26, p1v_27, m1v_28), rfl, by (rw [acc_s c_1 (Or.inr c_20) c_21]; exact hw_29), ⟨by rw [ht9]; exact hP9, va_K.moved hW9.alike hK9, hD9⟩⟩, hS.F ht9⟩) hS.2.2 dX1_accept_50
        · have hc9 := c_21
          refine lv_aload_n hx hb dX1_accept_40 rfl (lv_at hl 0 rfl) ?_
          have ct := k_cut_of (wc := [(pa, .inr (1, [.int pk, .int pf, .int ps, .int pn, .int pp, .int pm]))]) (wr := []) (tc := []) hG hS hA hK hP hD [0] [] [] rfl rfl (by decide) (by decide) (by decide) rfl
          refine k_endi (As := [.ref pa]) ct (k_runV (As := []) (rest := []) S0 Lv_X1_22 rfl (ci := 1) (q0 := 0) rfl rfl ct (c_P_acMinus l D pa pk pf ps pn pp pm (by assumption) s.heap.size) hl.1 rfl (Nat.le_of_ble_eq_true rfl) rfl dX1_accept_41 ⟨⟨Nat.le_of_ble_eq_true rfl, Nat.le_of_ble_eq_true rfl⟩, Nat.le_of_ble_eq_true rfl, Nat.le_of_ble_eq_true rfl⟩) rfl rfl (fun r_30 u H locs hw_37 hP hD hK hS => ?_)
          obtain ⟨k1v_31, f1v_32, s1v_33, n1v_34, p1v_35, m1v_36⟩ := u
          have hK : va_K D vwCl [] s := hK
          have hP : va_P D vwCl [(pa, .inr (1, [.int k1v_31, .int f1v_32, .int s1v_33, .int n1v_34, .int p1v_35, .int m1v_36]))] H := hP
          have hD : va_D A [(pa, .inr (1, [.int k1v_31, .int f1v_32, .int s1v_33, .int n1v_34, .int p1v_35, .int m1v_36]))] := hD
          have hw_37 : orR (acMin pk pf ps pn pp pm) (pk, pf, ps, pn, pp, pm) r_30 (k1v_31, f1v_32, s1v_33, n1v_34, p1v_35, m1v_36) := hw_37
          have hP9 : va_P D vwCl [(pa, .inr (1, [.int k1v_31, .int f1v_32, .int s1v_33, .int n1v_34, .int p1v_35, .int m1v_36]))] H := hP.sub [0] rfl
          have hD9 : va_D A [(pa, .inr (1, [.int k1v_31, .int f1v_32, .int s1v_33, .int n1v_34, .int p1v_35, .int m1v_36]))] := hD.sub [0] (by decide) rfl
          have hK9 : va_K D vwCl [] s := hK.sub [] rfl
          exact W.zret (v := r_30) hx hb hr ((or_nar hw_37)) (fun t ht9 hW9 => ⟨⟨r_30, (k1v_31, f1v_32, s1v_33, n1v_34, p1v_35, m1v_36), rfl, by (rw [acc_m c_1 (Or.inr c_20) c_21]; exact hw_37), ⟨by rw [ht9]; exact hP9, va_K.moved hW9.alike hK9, hD9⟩⟩, hS.F ht9⟩) hS.2.2 dX1_accept_44
      · have hc9 := c_20
        refine lv_aload_n hx hb dX1_accept_25 rfl (lv_at hl 0 rfl) ?_
        refine lv_iload_n hx hb dX1_accept_26 rfl (lv_at hl 1 rfl) ?_
        refine lv_bipush (v := 48) hx hb dX1_accept_27 (by decide) ?_
        refine lv_isub hx hb dX1_accept_29 ?_
        refine k_nrm (y := (cx - 48)) (rfl) ?_
        have ct := k_cut_of (wc := [(pa, .inr (1, [.int pk, .int pf, .int ps, .int pn, .int pp, .int pm]))]) (wr := []) (tc := []) hG hS hA hK hP hD [0] [] [] rfl rfl (by decide) (by decide) (by decide) rfl
        refine k_endi (As := [.ref pa, .int (cx - 48)]) ct (k_runV (As := [.int (cx - 48)]) (rest := []) S0 Lv_X1_19 rfl (ci := 1) (q0 := 0) rfl rfl ct (c_P_acDigit l D pa pk pf ps pn pp pm (cx - 48) s.heap.size) hl.1 rfl (Nat.le_of_ble_eq_true rfl) rfl dX1_accept_30 ⟨⟨Nat.le_of_ble_eq_true rfl, Nat.le_of_ble_eq_true rfl⟩, Nat.le_of_ble_eq_true rfl, Nat.le_of_ble_eq_true rfl⟩) rfl rfl (fun r_38 u H locs hw_45 hP hD hK hS => ?_)
        obtain ⟨k1v_39, f1v_40, s1v_41, n1v_42, p1v_43, m1v_44⟩ := u
        have hK : va_K D vwCl [] s := hK
        have hP : va_P D vwCl [(pa, .inr (1, [.int k1v_39, .int f1v_40, .int s1v_41, .int n1v_42, .int p1v_43, .int m1v_44]))] H := hP
        have hD : va_D A [(pa, .inr (1, [.int k1v_39, .int f1v_40, .int s1v_41, .int n1v_42, .int p1v_43, .int m1v_44]))] := hD
        have hw_45 : orR (acDig pk pf ps pn pp pm (cx - 48)) (pk, pf, ps, pn, pp, pm) r_38 (k1v_39, f1v_40, s1v_41, n1v_42, p1v_43, m1v_44) := hw_45
        have hP9 : va_P D vwCl [(pa, .inr (1, [.int k1v_39, .int f1v_40, .int s1v_41, .int n1v_42, .int p1v_43, .int m1v_44]))] H := hP.sub [0] rfl
        have hD9 : va_D A [(pa, .inr (1, [.int k1v_39, .int f1v_40, .int s1v_41, .int n1v_42, .int p1v_43, .int m1v_44]))] := hD.sub [0] (by decide) rfl
        have hK9 : va_K D vwCl [] s := hK.sub [] rfl
        exact W.zret (v := r_38) hx hb hr ((or_nar hw_45)) (fun t ht9 hW9 => ⟨⟨r_38, (k1v_39, f1v_40, s1v_41, n1v_42, p1v_43, m1v_44), rfl, by (rw [acc_d c_1 c_2 (Int32.not_lt.mp c_20)]; exact hw_45), ⟨by rw [ht9]; exact hP9, va_K.moved hW9.alike hK9, hD9⟩⟩, hS.F ht9⟩) hS.2.2 dX1_accept_33
  · have hc9 := c_1
    refine lv_aload_n hx hb dX1_accept_7 rfl (lv_at hl 0 rfl) ?_
    refine lv_iload_n hx hb dX1_accept_8 rfl (lv_at hl 1 rfl) ?_
    have ct := k_cut_of (wc := [(pa, .inr (1, [.int pk, .int pf, .int ps, .int pn, .int pp, .int pm]))]) (wr := []) (tc := []) hG hS hA hK hP hD [0] [] [] rfl rfl (by decide) (by decide) (by decide) rfl
    refine k_endi (As := [.ref pa, .int cx]) ct (k_runV (As := [.int cx]) (rest := []) S0 Lv_X1_15 rfl (ci := 1) (q0 := 0) rfl rfl ct (c_P_acKind l D pa pk pf ps pn pp pm cx s.heap.size) hl.1 rfl (Nat.le_of_ble_eq_true rfl) rfl dX1_accept_9 ⟨⟨Nat.le_of_ble_eq_true rfl, Nat.le_of_ble_eq_true rfl⟩, Nat.le_of_ble_eq_true rfl, Nat.le_of_ble_eq_true rfl⟩) rfl rfl (fun r_46 u H locs hw_53 hP hD hK hS => ?_)
    obtain ⟨k1v_47, f1v_48, s1v_49, n1v_50, p1v_51, m1v_52⟩ := u
    have hK : va_K D vwCl [] s := hK
    have hP : va_P D vwCl [(pa, .inr (1, [.int k1v_47, .int f1v_48, .int s1v_49, .int n1v_50, .int p1v_51, .int m1v_52]))] H := hP
    have hD : va_D A [(pa, .inr (1, [.int k1v_47, .int f1v_48, .int s1v_49, .int n1v_50, .int p1v_51, .int m1v_52]))] := hD
    have hw_53 : orR (acKind cx) (pk, pf, ps, pn, pp, pm) r_46 (k1v_47, f1v_48, s1v_49, n1v_50, p1v_51, m1v_52) := hw_53
    have hP9 : va_P D vwCl [(pa, .inr (1, [.int k1v_47, .int f1v_48, .int s1v_49, .int n1v_50, .int p1v_51, .int m1v_52]))] H := hP.sub [0] rfl
    have hD9 : va_D A [(pa, .inr (1, [.int k1v_47, .int f1v_48, .int s1v_49, .int n1v_50, .int p1v_51, .int m1v_52]))] := hD.sub [0] (by decide) rfl
    have hK9 : va_K D vwCl [] s := hK.sub [] rfl
    exact W.zret (v := r_46) hx hb hr ((or_nar hw_53)) (fun t ht9 hW9 => ⟨⟨r_46, (k1v_47, f1v_48, s1v_49, n1v_50, p1v_51, m1v_52), rfl, by (rw [acc_k c_1]; exact hw_53), ⟨by rw [ht9]; exact hP9, va_K.moved hW9.alike hK9, hD9⟩⟩, hS.F ht9⟩) hS.2.2 dX1_accept_12
