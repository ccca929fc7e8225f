set_option maxRecDepth 20000 in
theorem lf_X8_157 : Cond.fieldLink RX8 157 "BarcodeWandModel" "one" "I" ∈ wsA := mA 797 rfl rfl
set_option maxRecDepth 20000 in
theorem lf_X8_160 : Cond.fieldLink RX8 160 "BarcodeWandModel" "two" "I" ∈ wsA := mA 798 rfl rfl
set_option maxRecDepth 20000 in
theorem lk_X8_reads_ : Cond.code yX8_reads_ cX8_reads_ 5 (some .int) ∈ wsA := mA 1085 rfl rfl
theorem ly_X8_reads_ : k_y yX8_reads_ 2 := ⟨by decide +kernel, by decide +kernel, by decide +kernel⟩
set_option maxRecDepth 20000 in
theorem lm_X8_reads_ : Cond.instanceMethod yX8_reads_ ∈ wsA := mA 1084 rfl rfl
theorem le_X8_reads_ : Cond.selects (yX8_reads_).cls yX8_reads_ yX8_reads_ ∈ wsA := mS 51 rfl rfl
set_option maxRecDepth 20000 in
theorem Lv_X8_163 : k_LV RX8 163 yX8_reads_ cX8_reads_ 5 (some .int) 2 := ⟨mA 1082 rfl rfl, lm_X8_reads_, le_X8_reads_, li_BarcodeWandModel, lk_X8_reads_, ly_X8_reads_⟩
set_option maxRecDepth 20000 in
theorem lk_X8_takes : Cond.code yX8_takes cX8_takes 3 (some .boolean) ∈ wsA := mA 1089 rfl rfl
theorem ly_X8_takes : k_y yX8_takes 1 := ⟨by decide +kernel, by decide +kernel, by decide +kernel⟩
set_option maxRecDepth 20000 in
theorem lm_X8_takes : Cond.instanceMethod yX8_takes ∈ wsA := mA 1088 rfl rfl
theorem le_X8_takes : Cond.selects (yX8_takes).cls yX8_takes yX8_takes ∈ wsA := mS 52 rfl rfl
set_option maxRecDepth 20000 in
theorem Lv_X8_165 : k_LV RX8 165 yX8_takes cX8_takes 3 (some .boolean) 1 := ⟨mA 1086 rfl rfl, lm_X8_takes, le_X8_takes, li_BarcodeWandModel, lk_X8_takes, ly_X8_takes⟩
set_option maxRecDepth 20000 in
theorem lk_X8_readsLabel : Cond.code yX8_readsLabel cX8_readsLabel 1 (some .boolean) ∈ wsA := mA 1073 rfl rfl
theorem ly_X8_readsLabel : k_y yX8_readsLabel 0 := ⟨by decide +kernel, by decide +kernel, by decide +kernel⟩
set_option maxRecDepth 20000 in
theorem lm_X8_readsLabel : Cond.instanceMethod yX8_readsLabel ∈ wsA := mA 1072 rfl rfl
theorem le_X8_readsLabel : Cond.selects (yX8_readsLabel).cls yX8_readsLabel yX8_readsLabel ∈ wsA := mS 48 rfl rfl
set_option maxRecDepth 20000 in
theorem Lv_X8_169 : k_LV RX8 169 yX8_readsLabel cX8_readsLabel 1 (some .boolean) 0 := ⟨mA 1070 rfl rfl, lm_X8_readsLabel, le_X8_readsLabel, li_BarcodeWandModel, lk_X8_readsLabel, ly_X8_readsLabel⟩
set_option maxRecDepth 20000 in
theorem lk_X8_readsSmudge : Cond.code yX8_readsSmudge cX8_readsSmudge 2 (some .boolean) ∈ wsA := mA 1081 rfl rfl
theorem ly_X8_readsSmudge : k_y yX8_readsSmudge 0 := ⟨by decide +kernel, by decide +kernel, by decide +kernel⟩
set_option maxRecDepth 20000 in
theorem lm_X8_readsSmudge : Cond.instanceMethod yX8_readsSmudge ∈ wsA := mA 1080 rfl rfl
theorem le_X8_readsSmudge : Cond.selects (yX8_readsSmudge).cls yX8_readsSmudge yX8_readsSmudge ∈ wsA := mS 50 rfl rfl
set_option maxRecDepth 20000 in
theorem Lv_X8_173 : k_LV RX8 173 yX8_readsSmudge cX8_readsSmudge 2 (some .boolean) 0 := ⟨mA 1078 rfl rfl, lm_X8_readsSmudge, le_X8_readsSmudge, li_BarcodeWandModel, lk_X8_readsSmudge, ly_X8_readsSmudge⟩
set_option maxRecDepth 20000 in
theorem lk_X8_readsPeriods : Cond.code yX8_readsPeriods cX8_readsPeriods 1 (some .boolean) ∈ wsA := mA 1093 rfl rfl
theorem ly_X8_readsPeriods : k_y yX8_readsPeriods 0 := ⟨by decide +kernel, by decide +kernel, by decide +kernel⟩
set_option maxRecDepth 20000 in
theorem lm_X8_readsPeriods : Cond.instanceMethod yX8_readsPeriods ∈ wsA := mA 1092 rfl rfl
theorem le_X8_readsPeriods : Cond.selects (yX8_readsPeriods).cls yX8_readsPeriods yX8_readsPeriods ∈ wsA := mS 53 rfl rfl
set_option maxRecDepth 20000 in
theorem Lv_X8_176 : k_LV RX8 176 yX8_readsPeriods cX8_readsPeriods 1 (some .boolean) 0 := ⟨mA 1090 rfl rfl, lm_X8_readsPeriods, le_X8_readsPeriods, li_BarcodeWandModel, lk_X8_readsPeriods, ly_X8_readsPeriods⟩
theorem dX8_readsLabel_0 : decode cX8_readsLabel 0 = .ok (.aload_n 0, 1) := by decide +kernel
theorem dX8_readsLabel_1 : decode cX8_readsLabel 1 = .ok (.iconst 0, 1) := by decide +kernel
theorem dX8_readsLabel_2 : decode cX8_readsLabel 2 = .ok (.putfield 157, 3) := by decide +kernel
theorem dX8_readsLabel_5 : decode cX8_readsLabel 5 = .ok (.aload_n 0, 1) := by decide +kernel
theorem dX8_readsLabel_6 : decode cX8_readsLabel 6 = .ok (.iconst 0, 1) := by decide +kernel
theorem dX8_readsLabel_7 : decode cX8_readsLabel 7 = .ok (.putfield 160, 3) := by decide +kernel
theorem dX8_readsLabel_10 : decode cX8_readsLabel 10 = .ok (.aload_n 0, 1) := by decide +kernel
theorem dX8_readsLabel_11 : decode cX8_readsLabel 11 = .ok (.getfield 160, 3) := by decide +kernel
theorem dX8_readsLabel_14 : decode cX8_readsLabel 14 = .ok (.bipush 8, 2) := by decide +kernel
theorem dX8_readsLabel_16 : decode cX8_readsLabel 16 = .ok (.if_icmp .ge 61, 3) := by decide +kernel
theorem dX8_readsLabel_19 : decode cX8_readsLabel 19 = .ok (.aload_n 0, 1) := by decide +kernel
theorem dX8_readsLabel_20 : decode cX8_readsLabel 20 = .ok (.bipush 48, 2) := by decide +kernel
theorem dX8_readsLabel_22 : decode cX8_readsLabel 22 = .ok (.bipush 57, 2) := by decide +kernel
theorem dX8_readsLabel_24 : decode cX8_readsLabel 24 = .ok (.invokevirtual 153, 3) := by decide +kernel
theorem dX8_readsLabel_27 : decode cX8_readsLabel 27 = .ok (.ifCond .eq 50, 3) := by decide +kernel
theorem dX8_readsLabel_30 : decode cX8_readsLabel 30 = .ok (.aload_n 0, 1) := by decide +kernel
theorem dX8_readsLabel_31 : decode cX8_readsLabel 31 = .ok (.bipush 10, 2) := by decide +kernel
theorem dX8_readsLabel_33 : decode cX8_readsLabel 33 = .ok (.aload_n 0, 1) := by decide +kernel
theorem dX8_readsLabel_34 : decode cX8_readsLabel 34 = .ok (.getfield 157, 3) := by decide +kernel
theorem dX8_readsLabel_37 : decode cX8_readsLabel 37 = .ok (.imul, 1) := by decide +kernel
theorem dX8_readsLabel_38 : decode cX8_readsLabel 38 = .ok (.aload_n 0, 1) := by decide +kernel
theorem dX8_readsLabel_39 : decode cX8_readsLabel 39 = .ok (.getfield 13, 3) := by decide +kernel
theorem dX8_readsLabel_42 : decode cX8_readsLabel 42 = .ok (.aload_n 0, 1) := by decide +kernel
theorem dX8_readsLabel_43 : decode cX8_readsLabel 43 = .ok (.getfield 150, 3) := by decide +kernel
theorem dX8_readsLabel_46 : decode cX8_readsLabel 46 = .ok (.caload, 1) := by decide +kernel
theorem dX8_readsLabel_47 : decode cX8_readsLabel 47 = .ok (.iadd, 1) := by decide +kernel
theorem dX8_readsLabel_48 : decode cX8_readsLabel 48 = .ok (.bipush 48, 2) := by decide +kernel
theorem dX8_readsLabel_50 : decode cX8_readsLabel 50 = .ok (.isub, 1) := by decide +kernel
theorem dX8_readsLabel_51 : decode cX8_readsLabel 51 = .ok (.putfield 157, 3) := by decide +kernel
theorem dX8_readsLabel_54 : decode cX8_readsLabel 54 = .ok (.aload_n 0, 1) := by decide +kernel
theorem dX8_readsLabel_55 : decode cX8_readsLabel 55 = .ok (.dup, 1) := by decide +kernel
theorem dX8_readsLabel_56 : decode cX8_readsLabel 56 = .ok (.getfield 160, 3) := by decide +kernel
theorem dX8_readsLabel_59 : decode cX8_readsLabel 59 = .ok (.iconst 1, 1) := by decide +kernel
theorem dX8_readsLabel_60 : decode cX8_readsLabel 60 = .ok (.iadd, 1) := by decide +kernel
theorem dX8_readsLabel_61 : decode cX8_readsLabel 61 = .ok (.putfield 160, 3) := by decide +kernel
theorem dX8_readsLabel_64 : decode cX8_readsLabel 64 = .ok (.aload_n 0, 1) := by decide +kernel
theorem dX8_readsLabel_65 : decode cX8_readsLabel 65 = .ok (.dup, 1) := by decide +kernel
theorem dX8_readsLabel_66 : decode cX8_readsLabel 66 = .ok (.getfield 150, 3) := by decide +kernel
theorem dX8_readsLabel_69 : decode cX8_readsLabel 69 = .ok (.iconst 1, 1) := by decide +kernel
theorem dX8_readsLabel_70 : decode cX8_readsLabel 70 = .ok (.iadd, 1) := by decide +kernel
theorem dX8_readsLabel_71 : decode cX8_readsLabel 71 = .ok (.putfield 150, 3) := by decide +kernel
theorem dX8_readsLabel_74 : decode cX8_readsLabel 74 = .ok (.goto (-64), 3) := by decide +kernel
theorem dX8_readsLabel_77 : decode cX8_readsLabel 77 = .ok (.aload_n 0, 1) := by decide +kernel
theorem dX8_readsLabel_78 : decode cX8_readsLabel 78 = .ok (.getfield 160, 3) := by decide +kernel
theorem dX8_readsLabel_81 : decode cX8_readsLabel 81 = .ok (.ifCond .le 7, 3) := by decide +kernel
theorem dX8_readsLabel_84 : decode cX8_readsLabel 84 = .ok (.iconst 1, 1) := by decide +kernel
theorem dX8_readsLabel_85 : decode cX8_readsLabel 85 = .ok (.goto 4, 3) := by decide +kernel
theorem dX8_readsLabel_88 : decode cX8_readsLabel 88 = .ok (.iconst 0, 1) := by decide +kernel
theorem dX8_readsLabel_89 : decode cX8_readsLabel 89 = .ok (.ireturn, 1) := by decide +kernel
theorem dX8_readsSmudge_0 : decode cX8_readsSmudge 0 = .ok (.aload_n 0, 1) := by decide +kernel
theorem dX8_readsSmudge_1 : decode cX8_readsSmudge 1 = .ok (.aload_n 0, 1) := by decide +kernel
theorem dX8_readsSmudge_2 : decode cX8_readsSmudge 2 = .ok (.iconst 0, 1) := by decide +kernel
theorem dX8_readsSmudge_3 : decode cX8_readsSmudge 3 = .ok (.bipush 40, 2) := by decide +kernel
theorem dX8_readsSmudge_5 : decode cX8_readsSmudge 5 = .ok (.invokevirtual 163, 3) := by decide +kernel
theorem dX8_readsSmudge_8 : decode cX8_readsSmudge 8 = .ok (.putfield 157, 3) := by decide +kernel
theorem dX8_readsSmudge_11 : decode cX8_readsSmudge 11 = .ok (.aload_n 0, 1) := by decide +kernel
theorem dX8_readsSmudge_12 : decode cX8_readsSmudge 12 = .ok (.getfield 157, 3) := by decide +kernel
theorem dX8_readsSmudge_15 : decode cX8_readsSmudge 15 = .ok (.iconst (-1), 1) := by decide +kernel
theorem dX8_readsSmudge_16 : decode cX8_readsSmudge 16 = .ok (.if_icmp .eq 12, 3) := by decide +kernel
theorem dX8_readsSmudge_19 : decode cX8_readsSmudge 19 = .ok (.aload_n 0, 1) := by decide +kernel
theorem dX8_readsSmudge_20 : decode cX8_readsSmudge 20 = .ok (.bipush 61, 2) := by decide +kernel
theorem dX8_readsSmudge_22 : decode cX8_readsSmudge 22 = .ok (.invokevirtual 165, 3) := by decide +kernel
theorem dX8_readsSmudge_25 : decode cX8_readsSmudge 25 = .ok (.ifCond .ne 5, 3) := by decide +kernel
theorem dX8_readsSmudge_28 : decode cX8_readsSmudge 28 = .ok (.iconst 0, 1) := by decide +kernel
theorem dX8_readsSmudge_29 : decode cX8_readsSmudge 29 = .ok (.ireturn, 1) := by decide +kernel
theorem dX8_readsSmudge_30 : decode cX8_readsSmudge 30 = .ok (.aload_n 0, 1) := by decide +kernel
theorem dX8_readsSmudge_31 : decode cX8_readsSmudge 31 = .ok (.bipush 45, 2) := by decide +kernel
theorem dX8_readsSmudge_33 : decode cX8_readsSmudge 33 = .ok (.invokevirtual 165, 3) := by decide +kernel
theorem dX8_readsSmudge_36 : decode cX8_readsSmudge 36 = .ok (.istore_n 1, 1) := by decide +kernel
theorem dX8_readsSmudge_37 : decode cX8_readsSmudge 37 = .ok (.aload_n 0, 1) := by decide +kernel
theorem dX8_readsSmudge_38 : decode cX8_readsSmudge 38 = .ok (.iload_n 1, 1) := by decide +kernel
theorem dX8_readsSmudge_39 : decode cX8_readsSmudge 39 = .ok (.ifCond .eq 8, 3) := by decide +kernel
theorem dX8_readsSmudge_42 : decode cX8_readsSmudge 42 = .ok (.bipush 49, 2) := by decide +kernel
theorem dX8_readsSmudge_44 : decode cX8_readsSmudge 44 = .ok (.goto 5, 3) := by decide +kernel
theorem dX8_readsSmudge_47 : decode cX8_readsSmudge 47 = .ok (.bipush 48, 2) := by decide +kernel
theorem dX8_readsSmudge_49 : decode cX8_readsSmudge 49 = .ok (.bipush 57, 2) := by decide +kernel
theorem dX8_readsSmudge_51 : decode cX8_readsSmudge 51 = .ok (.invokevirtual 153, 3) := by decide +kernel
theorem dX8_readsSmudge_54 : decode cX8_readsSmudge 54 = .ok (.ifCond .ne 5, 3) := by decide +kernel
theorem dX8_readsSmudge_57 : decode cX8_readsSmudge 57 = .ok (.iconst 0, 1) := by decide +kernel
theorem dX8_readsSmudge_58 : decode cX8_readsSmudge 58 = .ok (.ireturn, 1) := by decide +kernel
theorem dX8_readsSmudge_59 : decode cX8_readsSmudge 59 = .ok (.aload_n 0, 1) := by decide +kernel
theorem dX8_readsSmudge_60 : decode cX8_readsSmudge 60 = .ok (.aload_n 0, 1) := by decide +kernel
theorem dX8_readsSmudge_61 : decode cX8_readsSmudge 61 = .ok (.getfield 13, 3) := by decide +kernel
theorem dX8_readsSmudge_64 : decode cX8_readsSmudge 64 = .ok (.aload_n 0, 1) := by decide +kernel
theorem dX8_readsSmudge_65 : decode cX8_readsSmudge 65 = .ok (.getfield 150, 3) := by decide +kernel
theorem dX8_readsSmudge_68 : decode cX8_readsSmudge 68 = .ok (.caload, 1) := by decide +kernel
theorem dX8_readsSmudge_69 : decode cX8_readsSmudge 69 = .ok (.bipush 48, 2) := by decide +kernel
theorem dX8_readsSmudge_71 : decode cX8_readsSmudge 71 = .ok (.isub, 1) := by decide +kernel
theorem dX8_readsSmudge_72 : decode cX8_readsSmudge 72 = .ok (.putfield 160, 3) := by decide +kernel
theorem dX8_readsSmudge_75 : decode cX8_readsSmudge 75 = .ok (.aload_n 0, 1) := by decide +kernel
theorem dX8_readsSmudge_76 : decode cX8_readsSmudge 76 = .ok (.iload_n 1, 1) := by decide +kernel
theorem dX8_readsSmudge_77 : decode cX8_readsSmudge 77 = .ok (.ifCond .eq 11, 3) := by decide +kernel
theorem dX8_readsSmudge_80 : decode cX8_readsSmudge 80 = .ok (.aload_n 0, 1) := by decide +kernel
theorem dX8_readsSmudge_81 : decode cX8_readsSmudge 81 = .ok (.getfield 160, 3) := by decide +kernel
theorem dX8_readsSmudge_84 : decode cX8_readsSmudge 84 = .ok (.ineg, 1) := by decide +kernel
theorem dX8_readsSmudge_85 : decode cX8_readsSmudge 85 = .ok (.goto 7, 3) := by decide +kernel
theorem dX8_readsSmudge_88 : decode cX8_readsSmudge 88 = .ok (.aload_n 0, 1) := by decide +kernel
theorem dX8_readsSmudge_89 : decode cX8_readsSmudge 89 = .ok (.getfield 160, 3) := by decide +kernel
theorem dX8_readsSmudge_92 : decode cX8_readsSmudge 92 = .ok (.putfield 160, 3) := by decide +kernel
theorem dX8_readsSmudge_95 : decode cX8_readsSmudge 95 = .ok (.aload_n 0, 1) := by decide +kernel
theorem dX8_readsSmudge_96 : decode cX8_readsSmudge 96 = .ok (.dup, 1) := by decide +kernel
theorem dX8_readsSmudge_97 : decode cX8_readsSmudge 97 = .ok (.getfield 150, 3) := by decide +kernel
theorem dX8_readsSmudge_100 : decode cX8_readsSmudge 100 = .ok (.iconst 1, 1) := by decide +kernel
theorem dX8_readsSmudge_101 : decode cX8_readsSmudge 101 = .ok (.iadd, 1) := by decide +kernel
theorem dX8_readsSmudge_102 : decode cX8_readsSmudge 102 = .ok (.putfield 150, 3) := by decide +kernel
theorem dX8_readsSmudge_105 : decode cX8_readsSmudge 105 = .ok (.iconst 1, 1) := by decide +kernel
theorem dX8_readsSmudge_106 : decode cX8_readsSmudge 106 = .ok (.ireturn, 1) := by decide +kernel
theorem dX8_readsPeriods_0 : decode cX8_readsPeriods 0 = .ok (.aload_n 0, 1) := by decide +kernel
theorem dX8_readsPeriods_1 : decode cX8_readsPeriods 1 = .ok (.aload_n 0, 1) := by decide +kernel
theorem dX8_readsPeriods_2 : decode cX8_readsPeriods 2 = .ok (.iconst 1, 1) := by decide +kernel
theorem dX8_readsPeriods_3 : decode cX8_readsPeriods 3 = .ok (.bipush 50, 2) := by decide +kernel
theorem dX8_readsPeriods_5 : decode cX8_readsPeriods 5 = .ok (.invokevirtual 163, 3) := by decide +kernel
theorem dX8_readsPeriods_8 : decode cX8_readsPeriods 8 = .ok (.putfield 157, 3) := by decide +kernel
theorem dX8_readsPeriods_11 : decode cX8_readsPeriods 11 = .ok (.aload_n 0, 1) := by decide +kernel
theorem dX8_readsPeriods_12 : decode cX8_readsPeriods 12 = .ok (.aload_n 0, 1) := by decide +kernel
theorem dX8_readsPeriods_13 : decode cX8_readsPeriods 13 = .ok (.getfield 157, 3) := by decide +kernel
theorem dX8_readsPeriods_16 : decode cX8_readsPeriods 16 = .ok (.iconst (-1), 1) := by decide +kernel
theorem dX8_readsPeriods_17 : decode cX8_readsPeriods 17 = .ok (.if_icmp .eq 22, 3) := by decide +kernel
theorem dX8_readsPeriods_20 : decode cX8_readsPeriods 20 = .ok (.aload_n 0, 1) := by decide +kernel
theorem dX8_readsPeriods_21 : decode cX8_readsPeriods 21 = .ok (.bipush 44, 2) := by decide +kernel
theorem dX8_readsPeriods_23 : decode cX8_readsPeriods 23 = .ok (.invokevirtual 165, 3) := by decide +kernel
theorem dX8_readsPeriods_26 : decode cX8_readsPeriods 26 = .ok (.ifCond .eq 13, 3) := by decide +kernel
theorem dX8_readsPeriods_29 : decode cX8_readsPeriods 29 = .ok (.aload_n 0, 1) := by decide +kernel
theorem dX8_readsPeriods_30 : decode cX8_readsPeriods 30 = .ok (.iconst 1, 1) := by decide +kernel
theorem dX8_readsPeriods_31 : decode cX8_readsPeriods 31 = .ok (.bipush 50, 2) := by decide +kernel
theorem dX8_readsPeriods_33 : decode cX8_readsPeriods 33 = .ok (.invokevirtual 163, 3) := by decide +kernel
theorem dX8_readsPeriods_36 : decode cX8_readsPeriods 36 = .ok (.goto 4, 3) := by decide +kernel
theorem dX8_readsPeriods_39 : decode cX8_readsPeriods 39 = .ok (.iconst (-1), 1) := by decide +kernel
theorem dX8_readsPeriods_40 : decode cX8_readsPeriods 40 = .ok (.putfield 160, 3) := by decide +kernel
theorem dX8_readsPeriods_43 : decode cX8_readsPeriods 43 = .ok (.aload_n 0, 1) := by decide +kernel
theorem dX8_readsPeriods_44 : decode cX8_readsPeriods 44 = .ok (.getfield 160, 3) := by decide +kernel
theorem dX8_readsPeriods_47 : decode cX8_readsPeriods 47 = .ok (.iconst (-1), 1) := by decide +kernel
theorem dX8_readsPeriods_48 : decode cX8_readsPeriods 48 = .ok (.if_icmp .eq 7, 3) := by decide +kernel
theorem dX8_readsPeriods_51 : decode cX8_readsPeriods 51 = .ok (.iconst 1, 1) := by decide +kernel
theorem dX8_readsPeriods_52 : decode cX8_readsPeriods 52 = .ok (.goto 4, 3) := by decide +kernel
theorem dX8_readsPeriods_55 : decode cX8_readsPeriods 55 = .ok (.iconst 0, 1) := by decide +kernel
theorem dX8_readsPeriods_56 : decode cX8_readsPeriods 56 = .ok (.ireturn, 1) := by decide +kernel
theorem dX8_command_0 : decode cX8_command 0 = .ok (.aload_n 0, 1) := by decide +kernel
theorem dX8_command_1 : decode cX8_command 1 = .ok (.getfield 150, 3) := by decide +kernel
theorem dX8_command_4 : decode cX8_command 4 = .ok (.aload_n 0, 1) := by decide +kernel
theorem dX8_command_5 : decode cX8_command 5 = .ok (.getfield 147, 3) := by decide +kernel
theorem dX8_command_8 : decode cX8_command 8 = .ok (.if_icmp .ge 15, 3) := by decide +kernel
theorem dX8_command_11 : decode cX8_command 11 = .ok (.aload_n 0, 1) := by decide +kernel
theorem dX8_command_12 : decode cX8_command 12 = .ok (.getfield 13, 3) := by decide +kernel
theorem dX8_command_15 : decode cX8_command 15 = .ok (.aload_n 0, 1) := by decide +kernel
theorem dX8_command_16 : decode cX8_command 16 = .ok (.getfield 150, 3) := by decide +kernel
theorem dX8_command_19 : decode cX8_command 19 = .ok (.caload, 1) := by decide +kernel
theorem dX8_command_20 : decode cX8_command 20 = .ok (.goto 5, 3) := by decide +kernel
theorem dX8_command_23 : decode cX8_command 23 = .ok (.bipush 32, 2) := by decide +kernel
theorem dX8_command_25 : decode cX8_command 25 = .ok (.istore_n 1, 1) := by decide +kernel
theorem dX8_command_26 : decode cX8_command 26 = .ok (.aload_n 0, 1) := by decide +kernel
theorem dX8_command_27 : decode cX8_command 27 = .ok (.dup, 1) := by decide +kernel
theorem dX8_command_28 : decode cX8_command 28 = .ok (.getfield 150, 3) := by decide +kernel
theorem dX8_command_31 : decode cX8_command 31 = .ok (.iconst 1, 1) := by decide +kernel
theorem dX8_command_32 : decode cX8_command 32 = .ok (.iadd, 1) := by decide +kernel
theorem dX8_command_33 : decode cX8_command 33 = .ok (.putfield 150, 3) := by decide +kernel
theorem dX8_command_36 : decode cX8_command 36 = .ok (.iload_n 1, 1) := by decide +kernel
theorem dX8_command_37 : decode cX8_command 37 = .ok (.lookupswitch 85 #[(98, 71), (100, 71), (112, 43), (115, 57)], 43) := by decide +kernel
theorem dX8_command_80 : decode cX8_command 80 = .ok (.aload_n 0, 1) := by decide +kernel
theorem dX8_command_81 : decode cX8_command 81 = .ok (.invokevirtual 169, 3) := by decide +kernel
theorem dX8_command_84 : decode cX8_command 84 = .ok (.ifCond .eq 7, 3) := by decide +kernel
theorem dX8_command_87 : decode cX8_command 87 = .ok (.iload_n 1, 1) := by decide +kernel
theorem dX8_command_88 : decode cX8_command 88 = .ok (.goto 5, 3) := by decide +kernel
theorem dX8_command_91 : decode cX8_command 91 = .ok (.bipush 32, 2) := by decide +kernel
theorem dX8_command_93 : decode cX8_command 93 = .ok (.ireturn, 1) := by decide +kernel
theorem dX8_command_94 : decode cX8_command 94 = .ok (.aload_n 0, 1) := by decide +kernel
theorem dX8_command_95 : decode cX8_command 95 = .ok (.invokevirtual 173, 3) := by decide +kernel
theorem dX8_command_98 : decode cX8_command 98 = .ok (.ifCond .eq 7, 3) := by decide +kernel
theorem dX8_command_101 : decode cX8_command 101 = .ok (.iload_n 1, 1) := by decide +kernel
theorem dX8_command_102 : decode cX8_command 102 = .ok (.goto 5, 3) := by decide +kernel
theorem dX8_command_105 : decode cX8_command 105 = .ok (.bipush 32, 2) := by decide +kernel
theorem dX8_command_107 : decode cX8_command 107 = .ok (.ireturn, 1) := by decide +kernel
theorem dX8_command_108 : decode cX8_command 108 = .ok (.aload_n 0, 1) := by decide +kernel
theorem dX8_command_109 : decode cX8_command 109 = .ok (.invokevirtual 176, 3) := by decide +kernel
theorem dX8_command_112 : decode cX8_command 112 = .ok (.ifCond .eq 7, 3) := by decide +kernel
theorem dX8_command_115 : decode cX8_command 115 = .ok (.iload_n 1, 1) := by decide +kernel
theorem dX8_command_116 : decode cX8_command 116 = .ok (.goto 5, 3) := by decide +kernel
theorem dX8_command_119 : decode cX8_command 119 = .ok (.bipush 32, 2) := by decide +kernel
theorem dX8_command_121 : decode cX8_command 121 = .ok (.ireturn, 1) := by decide +kernel
theorem dX8_command_122 : decode cX8_command 122 = .ok (.aload_n 0, 1) := by decide +kernel
theorem dX8_command_123 : decode cX8_command 123 = .ok (.dup, 1) := by decide +kernel
theorem dX8_command_124 : decode cX8_command 124 = .ok (.getfield 150, 3) := by decide +kernel
theorem dX8_command_127 : decode cX8_command 127 = .ok (.iconst 1, 1) := by decide +kernel
theorem dX8_command_128 : decode cX8_command 128 = .ok (.isub, 1) := by decide +kernel
theorem dX8_command_129 : decode cX8_command 129 = .ok (.putfield 150, 3) := by decide +kernel
theorem dX8_command_132 : decode cX8_command 132 = .ok (.bipush 32, 2) := by decide +kernel
theorem dX8_command_134 : decode cX8_command 134 = .ok (.ireturn, 1) := by decide +kernel
set_option maxHeartbeats 4000000 in
set_option maxRecDepth 100000 in
theorem c_M_readsLabel (l : Launch) (D : va_G) (mo : Nat) (ms : Nat) (sv : Int32) (mb : Nat) (ty : Nat) (th : Int32) (mk : Nat) (ml : Int32) (mfd : Nat) (mf : Int32) (i : Nat) (on : Int32) (tw : Int32) (KC : ClassId) (bf : Nat → Int32) (tx : Nat → Int32) (hcf : ∀ j9, j9 < ty → bf j9 = tx j9) (hty : ty ≤ 60) (hit : i ≤ ty) (sz : Nat) : k_Mi (S := Nat × Int32 × Int32) l D yX8_readsLabel cX8_readsLabel 1 (some .boolean) 2 0 0 44 [.ref mo] [(mo, .inr (8, [.ref ms, .int sv, .ref mb, .int (nI ty), .int th, .ref mk, .int ml, .ref mfd, .int mf, .int (nI i), .int on, .int tw])), (mb, .inl (KC, 60, .inl bf))] [(KC, .char)] (fun (r : Int32) (u : Nat × Int32 × Int32) => match u with | (sp1, on1, tw1) => PSR tx ty 112 i r sp1 on1 tw1) (fun u => match u with | (sp1, on1, tw1) => [(mo, .inr (8, [.ref ms, .int sv, .ref mb, .int (nI ty), .int th, .ref mk, .int ml, .ref mfd, .int mf, .int (nI sp1), .int on1, .int tw1])), (mb, .inl (KC, 60, .inl bf))]) (fun u => match u with | (sp1, on1, tw1) => []) sz := by
  refine Met.ofW (cc := cX8_readsLabel) (maxL := 1) (ret := (some .boolean)) (by decide) rfl ?_
  intro p e s m args below meth c s₁ B hml hv
  obtain ⟨rfl, hsz, hP, hK, hD0, hG⟩ := hv
  have hx := B.exec
  have hb := B.bytes
  have hr := B.returns
  have ht : ∀ v9 ∈ wsA, v9.before ([.ref mo] : List Value).toArray s = true := fun v9 h9 => atoms_spec (ws := k_ws yX8_readsLabel cX8_readsLabel 1 (some .boolean)) B.pre v9 (List.mem_cons_of_mem _ h9)
  have hown : s.vm.findClass RX8 = some m.cls := findClass_of_methodNamed B.named
  have S0 : k_C p s m ([.ref mo] : List Value).toArray c cX8_readsLabel 1 RX8 := ⟨hx, hb, hml, hown, ht⟩
  have hlocks := B.notSynchronized
  subst hsz
  have hD := hD0.self (sz := s.heap.size)
  generalize hAe : va_A [(mo, .inr (8, [.ref ms, .int sv, .ref mb, .int (nI ty), .int th, .ref mk, .int ml, .ref mfd, .int mf, .int (nI i), .int on, .int tw])), (mb, .inl (KC, 60, .inl bf))] s.heap.size = A at hD hG ⊢
  have hA : ∀ q : Nat, s.heap.size ≤ q → A q := fun q h => by rw [← hAe]; exact Or.inr h
  have hS : va_S A s.heap s.heap [] := va_S.rf
  have hl := lv_entry ([.ref mo]) (n := 1) (Nat.le_of_ble_eq_true rfl)
  rw [lg_entry_eq]
  generalize (lg_sl ([.ref mo]) ++ List.replicate (1 - (lg_sl ([.ref mo])).length) Slot.unset).toArray = ls at hl ⊢
  have hl : lv_has ls 1 [(0, .ref mo)] := hl
  have hP : va_P D vwCl [(mo, .inr (8, [.ref ms, .int sv, .ref mb, .int (nI ty), .int th, .ref mk, .int ml, .ref mfd, .int mf, .int (nI i), .int on, .int tw])), (mb, .inl (KC, 60, .inl bf))] s.heap := hP
  refine lv_aload_n hx hb dX8_readsLabel_0 rfl (lv_at hl 0 rfl) ?_
  refine lv_iconst (v := 0) hx hb dX8_readsLabel_1 (by decide) ?_
  refine va_put (D := D) (ci := 8) (v := .int 0) (ty := .int) (C := RX8) (T := TX8) (N := 12) hx hb ht inA_X8 tyX8 tyX8_ok nmX8 hown hK hP hD hS 0 rfl rfl 10 (by decide) (ht _ lf_X8_157) (fun _ h9 => h9) rfl (tyX8_ok 10 (by decide)) rfl rfl (Nat.le_of_ble_eq_true rfl) dX8_readsLabel_2 (fun H locs hP hD hS => ?_)
  have hP : va_P D vwCl [(mo, .inr (8, [.ref ms, .int sv, .ref mb, .int (nI ty), .int th, .ref mk, .int ml, .ref mfd, .int mf, .int (nI i), .int 0, .int tw])), (mb, .inl (KC, 60, .inl bf))] H := hP
  have hD : va_D A [(mo, .inr (8, [.ref ms, .int sv, .ref mb, .int (nI ty), .int th, .ref mk, .int ml, .ref mfd, .int mf, .int (nI i), .int 0, .int tw])), (mb, .inl (KC, 60, .inl bf))] := hD
  refine lv_aload_n hx hb dX8_readsLabel_5 rfl (lv_at hl 0 rfl) ?_
  refine lv_iconst (v := 0) hx hb dX8_readsLabel_6 (by decide) ?_
  refine va_put (D := D) (ci := 8) (v := .int 0) (ty := .int) (C := RX8) (T := TX8) (N := 12) hx hb ht inA_X8 tyX8 tyX8_ok nmX8 hown hK hP hD hS 0 rfl rfl 11 (by decide) (ht _ lf_X8_160) (fun _ h9 => h9) rfl (tyX8_ok 11 (by decide)) rfl rfl (Nat.le_of_ble_eq_true rfl) dX8_readsLabel_7 (fun H locs hP hD hS => ?_)
  have hP : va_P D vwCl [(mo, .inr (8, [.ref ms, .int sv, .ref mb, .int (nI ty), .int th, .ref mk, .int ml, .ref mfd, .int mf, .int (nI i), .int 0, .int 0])), (mb, .inl (KC, 60, .inl bf))] H := hP
  have hD : va_D A [(mo, .inr (8, [.ref ms, .int sv, .ref mb, .int (nI ty), .int th, .ref mk, .int ml, .ref mfd, .int mf, .int (nI i), .int 0, .int 0])), (mb, .inl (KC, 60, .inl bf))] := hD
  have hf_1 : (0 : Int32) = (numT tx i 0) := rfl
  have hP : va_P D vwCl [(mo, .inr (8, [.ref ms, .int sv, .ref mb, .int (nI ty), .int th, .ref mk, .int ml, .ref mfd, .int mf, .int (nI i), .int (numT tx i 0), .int 0])), (mb, .inl (KC, 60, .inl bf))] H := (congrArg (fun z9 : Int32 => va_P D vwCl [(mo, .inr (8, [.ref ms, .int sv, .ref mb, .int (nI ty), .int th, .ref mk, .int ml, .ref mfd, .int mf, .int (nI i), .int z9, .int 0])), (mb, .inl (KC, 60, .inl bf))] H) hf_1).mp hP
  have hD : va_D A [(mo, .inr (8, [.ref ms, .int sv, .ref mb, .int (nI ty), .int th, .ref mk, .int ml, .ref mfd, .int mf, .int (nI i), .int (numT tx i 0), .int 0])), (mb, .inl (KC, 60, .inl bf))] := (congrArg (fun z9 : Int32 => va_D A [(mo, .inr (8, [.ref ms, .int sv, .ref mb, .int (nI ty), .int th, .ref mk, .int ml, .ref mfd, .int mf, .int (nI i), .int z9, .int 0])), (mb, .inl (KC, 60, .inl bf))]) hf_1).mp hD
  have hf_2 : (0 : Int32) = (nI 0) := rfl
  have hP : va_P D vwCl [(mo, .inr (8, [.ref ms, .int sv, .ref mb, .int (nI ty), .int th, .ref mk, .int ml, .ref mfd, .int mf, .int (nI i), .int (numT tx i 0), .int (nI 0)])), (mb, .inl (KC, 60, .inl bf))] H := (congrArg (fun z9 : Int32 => va_P D vwCl [(mo, .inr (8, [.ref ms, .int sv, .ref mb, .int (nI ty), .int th, .ref mk, .int ml, .ref mfd, .int mf, .int (nI i), .int (numT tx i 0), .int z9])), (mb, .inl (KC, 60, .inl bf))] H) hf_2).mp hP
  have hD : va_D A [(mo, .inr (8, [.ref ms, .int sv, .ref mb, .int (nI ty), .int th, .ref mk, .int ml, .ref mfd, .int mf, .int (nI i), .int (numT tx i 0), .int (nI 0)])), (mb, .inl (KC, 60, .inl bf))] := (congrArg (fun z9 : Int32 => va_D A [(mo, .inr (8, [.ref ms, .int sv, .ref mb, .int (nI ty), .int th, .ref mk, .int ml, .ref mfd, .int mf, .int (nI i), .int (numT tx i 0), .int z9])), (mb, .inl (KC, 60, .inl bf))]) hf_2).mp hD
  have hf_3 : ((nI i) : Int32) = (nI (i + 0)) := rfl
  have hP : va_P D vwCl [(mo, .inr (8, [.ref ms, .int sv, .ref mb, .int (nI ty), .int th, .ref mk, .int ml, .ref mfd, .int mf, .int (nI (i + 0)), .int (numT tx i 0), .int (nI 0)])), (mb, .inl (KC, 60, .inl bf))] H := (congrArg (fun z9 : Int32 => va_P D vwCl [(mo, .inr (8, [.ref ms, .int sv, .ref mb, .int (nI ty), .int th, .ref mk, .int ml, .ref mfd, .int mf, .int z9, .int (numT tx i 0), .int (nI 0)])), (mb, .inl (KC, 60, .inl bf))] H) hf_3).mp hP
  have hD : va_D A [(mo, .inr (8, [.ref ms, .int sv, .ref mb, .int (nI ty), .int th, .ref mk, .int ml, .ref mfd, .int mf, .int (nI (i + 0)), .int (numT tx i 0), .int (nI 0)])), (mb, .inl (KC, 60, .inl bf))] := (congrArg (fun z9 : Int32 => va_D A [(mo, .inr (8, [.ref ms, .int sv, .ref mb, .int (nI ty), .int th, .ref mk, .int ml, .ref mfd, .int mf, .int z9, .int (numT tx i 0), .int (nI 0)])), (mb, .inl (KC, 60, .inl bf))]) hf_3).mp hD
  refine k_loop (ι := Nat) (fun (aa : Nat) H9 locs9 ls9 => (aa ≤ 8) ∧ (i + aa ≤ ty) ∧ (∀ m9, m9 < aa → ¬ tx (i + m9) < 48 ∧ ¬ 57 < tx (i + m9)) ∧ va_P D vwCl [(mo, .inr (8, [.ref ms, .int sv, .ref mb, .int (nI ty), .int th, .ref mk, .int ml, .ref mfd, .int mf, .int (nI (i + aa)), .int (numT tx i aa), .int (nI aa)])), (mb, .inl (KC, 60, .inl bf))] H9 ∧ va_D A [(mo, .inr (8, [.ref ms, .int sv, .ref mb, .int (nI ty), .int th, .ref mk, .int ml, .ref mfd, .int mf, .int (nI (i + aa)), .int (numT tx i aa), .int (nI aa)])), (mb, .inl (KC, 60, .inl bf))] ∧ va_S A s.heap H9 locs9 ∧ lv_has ls9 1 [(0, .ref mo)]) (fun (aa : Nat) => 8 - aa) ?_ (0) ⟨(Nat.zero_le _), hit, (fun m9 h9 => absurd h9 (Nat.not_lt_zero m9)), hP.sub [0, 1] rfl, hD.sub [0, 1] (by decide) rfl, hS, lv_sub hl [0] rfl⟩
  intro x9 H locs ls hF9 ih9
  obtain ⟨aa, hv9⟩ : ∃ z, z = x9 := ⟨_, rfl⟩
  subst hv9
  obtain ⟨ha, hia, hdd, hP, hD, hS, hl⟩ := hF9
  try dsimp only at ih9
  have hP : va_P D vwCl [(mo, .inr (8, [.ref ms, .int sv, .ref mb, .int (nI ty), .int th, .ref mk, .int ml, .ref mfd, .int mf, .int (nI (i + aa)), .int (numT tx i aa), .int (nI aa)])), (mb, .inl (KC, 60, .inl bf))] H := hP
  have hD : va_D A [(mo, .inr (8, [.ref ms, .int sv, .ref mb, .int (nI ty), .int th, .ref mk, .int ml, .ref mfd, .int mf, .int (nI (i + aa)), .int (numT tx i aa), .int (nI aa)])), (mb, .inl (KC, 60, .inl bf))] := hD
  have hl : lv_has ls 1 [(0, .ref mo)] := hl
  refine lv_aload_n hx hb dX8_readsLabel_10 rfl (lv_at hl 0 rfl) ?_
  refine va_get (D := D) (ci := 8) (v := .int (nI aa)) (C := RX8) (T := TX8) (N := 12) hx hb ht inA_X8 hown hK hP 0 rfl rfl 11 (by decide) (ht _ lf_X8_160) (fun _ h9 => h9) rfl dX8_readsLabel_11 ?_
  refine lv_bipush (v := 8) hx hb dX8_readsLabel_14 (by decide) ?_
  refine lv_icmp_ge (tgt := 77) hx hb dX8_readsLabel_16 (by decide) (fun c_4 => ?_) (fun c_4 => ?_)
  · have hc9 := c_4
    refine lv_aload_n hx hb dX8_readsLabel_77 rfl (lv_at hl 0 rfl) ?_
    refine va_get (D := D) (ci := 8) (v := .int (nI aa)) (C := RX8) (T := TX8) (N := 12) hx hb ht inA_X8 hown hK hP 0 rfl rfl 11 (by decide) (ht _ lf_X8_160) (fun _ h9 => h9) rfl dX8_readsLabel_78 ?_
    refine lv_if_le (tgt := 88) hx hb dX8_readsLabel_81 (by decide) (fun c_5 => ?_) (fun c_5 => ?_)
    · have hc9 := c_5
      refine lv_iconst (v := 0) hx hb dX8_readsLabel_88 (by decide) ?_
      have hP9 : va_P D vwCl [(mo, .inr (8, [.ref ms, .int sv, .ref mb, .int (nI ty), .int th, .ref mk, .int ml, .ref mfd, .int mf, .int (nI (i + aa)), .int (numT tx i aa), .int (nI aa)])), (mb, .inl (KC, 60, .inl bf))] H := hP.sub [0, 1] rfl
      have hD9 : va_D A [(mo, .inr (8, [.ref ms, .int sv, .ref mb, .int (nI ty), .int th, .ref mk, .int ml, .ref mfd, .int mf, .int (nI (i + aa)), .int (numT tx i aa), .int (nI aa)])), (mb, .inl (KC, 60, .inl bf))] := hD.sub [0, 1] (by decide) rfl
      have hK9 : va_K D vwCl [] s := hK.sub [] rfl
      exact W.zret (v := 0) hx hb hr (rfl) (fun t ht9 hW9 => ⟨⟨0, (i + aa, (numT tx i aa), (nI aa)), rfl, by (exact absurd (show (8 : Int32) ≤ 0 from Int32.le_trans c_4 c_5) (by decide)), ⟨by rw [ht9]; exact hP9, va_K.moved hW9.alike hK9, hD9⟩⟩, hS.F ht9⟩) hS.2.2 dX8_readsLabel_89
    · have hc9 := c_5
      refine lv_iconst (v := 1) hx hb dX8_readsLabel_84 (by decide) ?_
      refine lv_goto (tgt := 89) hx hb dX8_readsLabel_85 (by decide) ?_
      have hP9 : va_P D vwCl [(mo, .inr (8, [.ref ms, .int sv, .ref mb, .int (nI ty), .int th, .ref mk, .int ml, .ref mfd, .int mf, .int (nI (i + aa)), .int (numT tx i aa), .int (nI aa)])), (mb, .inl (KC, 60, .inl bf))] H := hP.sub [0, 1] rfl
      have hD9 : va_D A [(mo, .inr (8, [.ref ms, .int sv, .ref mb, .int (nI ty), .int th, .ref mk, .int ml, .ref mfd, .int mf, .int (nI (i + aa)), .int (numT tx i aa), .int (nI aa)])), (mb, .inl (KC, 60, .inl bf))] := hD.sub [0, 1] (by decide) rfl
      have hK9 : va_K D vwCl [] s := hK.sub [] rfl
      exact W.zret (v := 1) hx hb hr (rfl) (fun t ht9 hW9 => ⟨⟨1, (i + aa, (numT tx i aa), (nI aa)), rfl, by (exact lab_y ha hia hdd (Or.inl (by rcases Nat.lt_or_ge aa 8 with q9 | q9; exact absurd c_4 (nI_ge (b := 8) q9 (by decide)); omega)) (by rcases Nat.lt_or_ge 0 aa with q9 | q9; exact q9; exact absurd (show nI aa ≤ 0 by rw [Nat.le_zero.mp q9]; decide) c_5)), ⟨by rw [ht9]; exact hP9, va_K.moved hW9.alike hK9, hD9⟩⟩, hS.F ht9⟩) hS.2.2 dX8_readsLabel_89
  · have hc9 := c_4
    have h8a : aa + 1 ≤ 8 := by rcases Nat.lt_or_ge aa 8 with q9 | q9; exact q9; exact absurd (nI_le (a := 8) q9 (by omega)) c_4
    refine lv_aload_n hx hb dX8_readsLabel_19 rfl (lv_at hl 0 rfl) ?_
    refine lv_bipush (v := 48) hx hb dX8_readsLabel_20 (by decide) ?_
    refine lv_bipush (v := 57) hx hb dX8_readsLabel_22 (by decide) ?_
    have ct := k_cut_of (wc := [(mo, .inr (8, [.ref ms, .int sv, .ref mb, .int (nI ty), .int th, .ref mk, .int ml, .ref mfd, .int mf, .int (nI (i + aa)), .int (numT tx i aa), .int (nI aa)])), (mb, .inl (KC, 60, .inl bf))]) (wr := []) (tc := [(KC, .char)]) hG hS hA hK hP hD [0, 1] [] [0] rfl rfl (by decide) (by decide) (by decide) rfl
    refine k_endi (As := [.ref mo, .int 48, .int 57]) ct (k_runV (As := [.int 48, .int 57]) (rest := []) S0 Lv_X8_153 rfl (ci := 8) (q0 := 0) rfl rfl ct (c_M_isHere l D mo ms sv mb ty th mk ml mfd mf (i + aa) (numT tx i aa) (nI aa) KC bf tx 48 57 (by assumption) (by first | assumption | omega) (by first | assumption | omega) H.size) hl.1 rfl (Nat.le_of_ble_eq_true rfl) rfl dX8_readsLabel_24 ⟨⟨Nat.le_of_ble_eq_true rfl, Nat.le_of_ble_eq_true rfl⟩, Nat.le_of_ble_eq_true rfl, Nat.le_of_ble_eq_true rfl⟩) rfl rfl (fun r_6 _ H locs hw_7 hP hD hK hS => ?_)
    have hK : va_K D vwCl [(KC, .char)] s := hK
    have hP : va_P D vwCl [(mo, .inr (8, [.ref ms, .int sv, .ref mb, .int (nI ty), .int th, .ref mk, .int ml, .ref mfd, .int mf, .int (nI (i + aa)), .int (numT tx i aa), .int (nI aa)])), (mb, .inl (KC, 60, .inl bf))] H := hP
    have hD : va_D A [(mo, .inr (8, [.ref ms, .int sv, .ref mb, .int (nI ty), .int th, .ref mk, .int ml, .ref mfd, .int mf, .int (nI (i + aa)), .int (numT tx i aa), .int (nI aa)])), (mb, .inl (KC, 60, .inl bf))] := hD
    rcases hw_7 with ⟨hr9, c_8, c_9, c_10⟩ | ⟨hr9, c_11⟩
    · subst hr9
      refine lv_if_eq (tgt := 77) hx hb dX8_readsLabel_27 (by decide) (fun c9 => absurd c9 (by decide)) (fun _ => ?_)
      refine lv_aload_n hx hb dX8_readsLabel_30 rfl (lv_at hl 0 rfl) ?_
      refine lv_bipush (v := 10) hx hb dX8_readsLabel_31 (by decide) ?_
      refine lv_aload_n hx hb dX8_readsLabel_33 rfl (lv_at hl 0 rfl) ?_
      refine va_get (D := D) (ci := 8) (v := .int (numT tx i aa)) (C := RX8) (T := TX8) (N := 12) hx hb ht inA_X8 hown hK hP 0 rfl rfl 10 (by decide) (ht _ lf_X8_157) (fun _ h9 => h9) rfl dX8_readsLabel_34 ?_
      refine lv_imul hx hb dX8_readsLabel_37 ?_
      refine k_nrm (y := (10 * numT tx i aa)) (rfl) ?_
      refine lv_aload_n hx hb dX8_readsLabel_38 rfl (lv_at hl 0 rfl) ?_
      refine va_get (D := D) (ci := 8) (v := .ref mb) (C := RX8) (T := TX8) (N := 12) hx hb ht inA_X8 hown hK hP 0 rfl rfl 2 (by decide) (ht _ lf_X8_13) (fun _ h9 => h9) rfl dX8_readsLabel_39 ?_
      refine lv_aload_n hx hb dX8_readsLabel_42 rfl (lv_at hl 0 rfl) ?_
      refine va_get (D := D) (ci := 8) (v := .int (nI (i + aa))) (C := RX8) (T := TX8) (N := 12) hx hb ht inA_X8 hown hK hP 0 rfl rfl 9 (by decide) (ht _ lf_X8_150) (fun _ h9 => h9) rfl dX8_readsLabel_43 ?_
      refine va_cald hx hb hK hP 1 0 rfl rfl (vp_in_nI (by omega) (by decide)) dX8_readsLabel_46 ?_
      refine k_nrm (y := (tx (i + aa))) (by rw [nI_clamp (by omega)]; exact hcf _ (by omega)) ?_
      refine lv_iadd hx hb dX8_readsLabel_47 ?_
      refine k_nrm (y := (10 * numT tx i aa + tx (i + aa))) (rfl) ?_
      refine lv_bipush (v := 48) hx hb dX8_readsLabel_48 (by decide) ?_
      refine lv_isub hx hb dX8_readsLabel_50 ?_
      refine k_nrm (y := (numT tx i (aa + 1))) (rfl) ?_
      refine va_put (D := D) (ci := 8) (v := .int (numT tx i (aa + 1))) (ty := .int) (C := RX8) (T := TX8) (N := 12) hx hb ht inA_X8 tyX8 tyX8_ok nmX8 hown hK hP hD hS 0 rfl rfl 10 (by decide) (ht _ lf_X8_157) (fun _ h9 => h9) rfl (tyX8_ok 10 (by decide)) rfl rfl (Nat.le_of_ble_eq_true rfl) dX8_readsLabel_51 (fun H locs hP hD hS => ?_)
      have hP : va_P D vwCl [(mo, .inr (8, [.ref ms, .int sv, .ref mb, .int (nI ty), .int th, .ref mk, .int ml, .ref mfd, .int mf, .int (nI (i + aa)), .int (numT tx i (aa + 1)), .int (nI aa)])), (mb, .inl (KC, 60, .inl bf))] H := hP
      have hD : va_D A [(mo, .inr (8, [.ref ms, .int sv, .ref mb, .int (nI ty), .int th, .ref mk, .int ml, .ref mfd, .int mf, .int (nI (i + aa)), .int (numT tx i (aa + 1)), .int (nI aa)])), (mb, .inl (KC, 60, .inl bf))] := hD
      refine lv_aload_n hx hb dX8_readsLabel_54 rfl (lv_at hl 0 rfl) ?_
      refine lv_dup hx hb dX8_readsLabel_55 rfl ?_
      refine va_get (D := D) (ci := 8) (v := .int (nI aa)) (C := RX8) (T := TX8) (N := 12) hx hb ht inA_X8 hown hK hP 0 rfl rfl 11 (by decide) (ht _ lf_X8_160) (fun _ h9 => h9) rfl dX8_readsLabel_56 ?_
      refine lv_iconst (v := 1) hx hb dX8_readsLabel_59 (by decide) ?_
      refine lv_iadd hx hb dX8_readsLabel_60 ?_
      refine k_nrm (y := (nI (aa + 1))) (nI_1 aa) ?_
      refine va_put (D := D) (ci := 8) (v := .int (nI (aa + 1))) (ty := .int) (C := RX8) (T := TX8) (N := 12) hx hb ht inA_X8 tyX8 tyX8_ok nmX8 hown hK hP hD hS 0 rfl rfl 11 (by decide) (ht _ lf_X8_160) (fun _ h9 => h9) rfl (tyX8_ok 11 (by decide)) rfl rfl (Nat.le_of_ble_eq_true rfl) dX8_readsLabel_61 (fun H locs hP hD hS => ?_)
      have hP : va_P D vwCl [(mo, .inr (8, [.ref ms, .int sv, .ref mb, .int (nI ty), .int th, .ref mk, .int ml, .ref mfd, .int mf, .int (nI (i + aa)), .int (numT tx i (aa + 1)), .int (nI (aa + 1))])), (mb, .inl (KC, 60, .inl bf))] H := hP
      have hD : va_D A [(mo, .inr (8, [.ref ms, .int sv, .ref mb, .int (nI ty), .int th, .ref mk, .int ml, .ref mfd, .int mf, .int (nI (i + aa)), .int (numT tx i (aa + 1)), .int (nI (aa + 1))])), (mb, .inl (KC, 60, .inl bf))] := hD
      refine lv_aload_n hx hb dX8_readsLabel_64 rfl (lv_at hl 0 rfl) ?_
      refine lv_dup hx hb dX8_readsLabel_65 rfl ?_
      refine va_get (D := D) (ci := 8) (v := .int (nI (i + aa))) (C := RX8) (T := TX8) (N := 12) hx hb ht inA_X8 hown hK hP 0 rfl rfl 9 (by decide) (ht _ lf_X8_150) (fun _ h9 => h9) rfl dX8_readsLabel_66 ?_
      refine lv_iconst (v := 1) hx hb dX8_readsLabel_69 (by decide) ?_
      refine lv_iadd hx hb dX8_readsLabel_70 ?_
      refine k_nrm (y := (nI (i + (aa + 1)))) (nI_1 (i + aa)) ?_
      refine va_put (D := D) (ci := 8) (v := .int (nI (i + (aa + 1)))) (ty := .int) (C := RX8) (T := TX8) (N := 12) hx hb ht inA_X8 tyX8 tyX8_ok nmX8 hown hK hP hD hS 0 rfl rfl 9 (by decide) (ht _ lf_X8_150) (fun _ h9 => h9) rfl (tyX8_ok 9 (by decide)) rfl rfl (Nat.le_of_ble_eq_true rfl) dX8_readsLabel_71 (fun H locs hP hD hS => ?_)
      have hP : va_P D vwCl [(mo, .inr (8, [.ref ms, .int sv, .ref mb, .int (nI ty), .int th, .ref mk, .int ml, .ref mfd, .int mf, .int (nI (i + (aa + 1))), .int (numT tx i (aa + 1)), .int (nI (aa + 1))])), (mb, .inl (KC, 60, .inl bf))] H := hP
      have hD : va_D A [(mo, .inr (8, [.ref ms, .int sv, .ref mb, .int (nI ty), .int th, .ref mk, .int ml, .ref mfd, .int mf, .int (nI (i + (aa + 1))), .int (numT tx i (aa + 1)), .int (nI (aa + 1))])), (mb, .inl (KC, 60, .inl bf))] := hD
      refine lv_goto (tgt := 10) hx hb dX8_readsLabel_74 (by decide) ?_
      exact ih9 (aa + 1) H locs ls (by omega) ⟨h8a, (by omega), (lt_s hdd ⟨c_9, c_10⟩), hP.sub [0, 1] rfl, hD.sub [0, 1] (by decide) rfl, hS, lv_sub hl [0] rfl⟩
    · subst hr9
      refine lv_if_eq (tgt := 77) hx hb dX8_readsLabel_27 (by decide) (fun _ => ?_) (fun c9 => absurd (by decide) c9)
      refine lv_aload_n hx hb dX8_readsLabel_77 rfl (lv_at hl 0 rfl) ?_
      refine va_get (D := D) (ci := 8) (v := .int (nI aa)) (C := RX8) (T := TX8) (N := 12) hx hb ht inA_X8 hown hK hP 0 rfl rfl 11 (by decide) (ht _ lf_X8_160) (fun _ h9 => h9) rfl dX8_readsLabel_78 ?_
      refine lv_if_le (tgt := 88) hx hb dX8_readsLabel_81 (by decide) (fun c_12 => ?_) (fun c_12 => ?_)
      · have hc9 := c_12
        refine lv_iconst (v := 0) hx hb dX8_readsLabel_88 (by decide) ?_
        have hP9 : va_P D vwCl [(mo, .inr (8, [.ref ms, .int sv, .ref mb, .int (nI ty), .int th, .ref mk, .int ml, .ref mfd, .int mf, .int (nI (i + aa)), .int (numT tx i aa), .int (nI aa)])), (mb, .inl (KC, 60, .inl bf))] H := hP.sub [0, 1] rfl
        have hD9 : va_D A [(mo, .inr (8, [.ref ms, .int sv, .ref mb, .int (nI ty), .int th, .ref mk, .int ml, .ref mfd, .int mf, .int (nI (i + aa)), .int (numT tx i aa), .int (nI aa)])), (mb, .inl (KC, 60, .inl bf))] := hD.sub [0, 1] (by decide) rfl
        have hK9 : va_K D vwCl [] s := hK.sub [] rfl
        exact W.zret (v := 0) hx hb hr (rfl) (fun t ht9 hW9 => ⟨⟨0, (i + aa, (numT tx i aa), (nI aa)), rfl, by (have h09 : aa = 0 := (by rcases Nat.lt_or_ge 0 aa with q9 | q9; exact absurd c_12 (nI_nle q9 (by omega)); omega); subst h09; exact lab_n hit c_11), ⟨by rw [ht9]; exact hP9, va_K.moved hW9.alike hK9, hD9⟩⟩, hS.F ht9⟩) hS.2.2 dX8_readsLabel_89
      · have hc9 := c_12
        refine lv_iconst (v := 1) hx hb dX8_readsLabel_84 (by decide) ?_
        refine lv_goto (tgt := 89) hx hb dX8_readsLabel_85 (by decide) ?_
        have hP9 : va_P D vwCl [(mo, .inr (8, [.ref ms, .int sv, .ref mb, .int (nI ty), .int th, .ref mk, .int ml, .ref mfd, .int mf, .int (nI (i + aa)), .int (numT tx i aa), .int (nI aa)])), (mb, .inl (KC, 60, .inl bf))] H := hP.sub [0, 1] rfl
        have hD9 : va_D A [(mo, .inr (8, [.ref ms, .int sv, .ref mb, .int (nI ty), .int th, .ref mk, .int ml, .ref mfd, .int mf, .int (nI (i + aa)), .int (numT tx i aa), .int (nI aa)])), (mb, .inl (KC, 60, .inl bf))] := hD.sub [0, 1] (by decide) rfl
        have hK9 : va_K D vwCl [] s := hK.sub [] rfl
        exact W.zret (v := 1) hx hb hr (rfl) (fun t ht9 hW9 => ⟨⟨1, (i + aa, (numT tx i aa), (nI aa)), rfl, by (exact lab_y ha hia hdd (Or.inr c_11) (by rcases Nat.lt_or_ge 0 aa with q9 | q9; exact q9; exact absurd (show nI aa ≤ 0 by rw [Nat.le_zero.mp q9]; decide) c_12)), ⟨by rw [ht9]; exact hP9, va_K.moved hW9.alike hK9, hD9⟩⟩, hS.F ht9⟩) hS.2.2 dX8_readsLabel_89
set_option maxHeartbeats 4000000 in
set_option maxRecDepth 100000 in
theorem c_M_readsSmudge (l : Launch) (D : va_G) (mo : Nat) (ms : Nat) (sv : Int32) (mb : Nat) (ty : Nat) (th : Int32) (mk : Nat) (ml : Int32) (mfd : Nat) (mf : Int32) (i : Nat) (on : Int32) (tw : Int32) (KC : ClassId) (bf : Nat → Int32) (tx : Nat → Int32) (hcf : ∀ j9, j9 < ty → bf j9 = tx j9) (hty : ty ≤ 60) (hit : i ≤ ty) (sz : Nat) : k_Mi (S := Nat × Int32 × Int32) l D yX8_readsSmudge cX8_readsSmudge 2 (some .boolean) 3 0 0 68 [.ref mo] [(mo, .inr (8, [.ref ms, .int sv, .ref mb, .int (nI ty), .int th, .ref mk, .int ml, .ref mfd, .int mf, .int (nI i), .int on, .int tw])), (mb, .inl (KC, 60, .inl bf))] [(KC, .char)] (fun (r : Int32) (u : Nat × Int32 × Int32) => match u with | (sp1, on1, tw1) => PSR tx ty 115 i r sp1 on1 tw1) (fun u => match u with | (sp1, on1, tw1) => [(mo, .inr (8, [.ref ms, .int sv, .ref mb, .int (nI ty), .int th, .ref mk, .int ml, .ref mfd, .int mf, .int (nI sp1), .int on1, .int tw1])), (mb, .inl (KC, 60, .inl bf))]) (fun u => match u with | (sp1, on1, tw1) => []) sz := by
  refine Met.ofW (cc := cX8_readsSmudge) (maxL := 2) (ret := (some .boolean)) (by decide) rfl ?_
  intro p e s m args below meth c s₁ B hml hv
  obtain ⟨rfl, hsz, hP, hK, hD0, hG⟩ := hv
  have hx := B.exec
  have hb := B.bytes
  have hr := B.returns
  have ht : ∀ v9 ∈ wsA, v9.before ([.ref mo] : List Value).toArray s = true := fun v9 h9 => atoms_spec (ws := k_ws yX8_readsSmudge cX8_readsSmudge 2 (some .boolean)) B.pre v9 (List.mem_cons_of_mem _ h9)
  have hown : s.vm.findClass RX8 = some m.cls := findClass_of_methodNamed B.named
  have S0 : k_C p s m ([.ref mo] : List Value).toArray c cX8_readsSmudge 2 RX8 := ⟨hx, hb, hml, hown, ht⟩
  have hlocks := B.notSynchronized
  subst hsz
  have hD := hD0.self (sz := s.heap.size)
  generalize hAe : va_A [(mo, .inr (8, [.ref ms, .int sv, .ref mb, .int (nI ty), .int th, .ref mk, .int ml, .ref mfd, .int mf, .int (nI i), .int on, .int tw])), (mb, .inl (KC, 60, .inl bf))] s.heap.size = A at hD hG ⊢
  have hA : ∀ q : Nat, s.heap.size ≤ q → A q := fun q h => by rw [← hAe]; exact Or.inr h
  have hS : va_S A s.heap s.heap [] := va_S.rf
  have hl := lv_entry ([.ref mo]) (n := 2) (Nat.le_of_ble_eq_true rfl)
  rw [lg_entry_eq]
  generalize (lg_sl ([.ref mo]) ++ List.replicate (2 - (lg_sl ([.ref mo])).length) Slot.unset).toArray = ls at hl ⊢
  have hl : lv_has ls 2 [(0, .ref mo)] := hl
  have hP : va_P D vwCl [(mo, .inr (8, [.ref ms, .int sv, .ref mb, .int (nI ty), .int th, .ref mk, .int ml, .ref mfd, .int mf, .int (nI i), .int on, .int tw])), (mb, .inl (KC, 60, .inl bf))] s.heap := hP
  refine lv_aload_n hx hb dX8_readsSmudge_0 rfl (lv_at hl 0 rfl) ?_
  refine lv_aload_n hx hb dX8_readsSmudge_1 rfl (lv_at hl 0 rfl) ?_
  refine lv_iconst (v := 0) hx hb dX8_readsSmudge_2 (by decide) ?_
  refine lv_bipush (v := 40) hx hb dX8_readsSmudge_3 (by decide) ?_
  have ct := k_cut_of (wc := [(mo, .inr (8, [.ref ms, .int sv, .ref mb, .int (nI ty), .int th, .ref mk, .int ml, .ref mfd, .int mf, .int (nI i), .int on, .int tw])), (mb, .inl (KC, 60, .inl bf))]) (wr := []) (tc := [(KC, .char)]) hG hS hA hK hP hD [0, 1] [] [0] rfl rfl (by decide) (by decide) (by decide) rfl
  refine k_endi (As := [.ref mo, .int 0, .int 40]) ct (k_runV (As := [.int 0, .int 40]) (rest := [.ref mo]) S0 Lv_X8_163 rfl (ci := 8) (q0 := 0) rfl rfl ct (c_M_reads40 l D mo ms sv mb ty th mk ml mfd mf i on tw KC bf tx (by assumption) (by first | assumption | omega) (by first | assumption | omega) s.heap.size) hl.1 rfl (Nat.le_of_ble_eq_true rfl) rfl dX8_readsSmudge_5 ⟨⟨Nat.le_of_ble_eq_true rfl, Nat.le_of_ble_eq_true rfl⟩, Nat.le_of_ble_eq_true rfl, Nat.le_of_ble_eq_true rfl⟩) rfl rfl (fun vx jx H locs hw_1 hP hD hK hS => ?_)
  have hK : va_K D vwCl [(KC, .char)] s := hK
  have hP : va_P D vwCl [(mo, .inr (8, [.ref ms, .int sv, .ref mb, .int (nI ty), .int th, .ref mk, .int ml, .ref mfd, .int mf, .int (nI jx), .int on, .int tw])), (mb, .inl (KC, 60, .inl bf))] H := hP
  have hD : va_D A [(mo, .inr (8, [.ref ms, .int sv, .ref mb, .int (nI ty), .int th, .ref mk, .int ml, .ref mfd, .int mf, .int (nI jx), .int on, .int tw])), (mb, .inl (KC, 60, .inl bf))] := hD
  have hw_1 : NR tx ty 48 40 i vx jx := hw_1
  have hjx := NR_le hw_1 hit
  refine va_put (D := D) (ci := 8) (v := .int vx) (ty := .int) (C := RX8) (T := TX8) (N := 12) hx hb ht inA_X8 tyX8 tyX8_ok nmX8 hown hK hP hD hS 0 rfl rfl 10 (by decide) (ht _ lf_X8_157) (fun _ h9 => h9) rfl (tyX8_ok 10 (by decide)) rfl rfl (Nat.le_of_ble_eq_true rfl) dX8_readsSmudge_8 (fun H locs hP hD hS => ?_)
  have hP : va_P D vwCl [(mo, .inr (8, [.ref ms, .int sv, .ref mb, .int (nI ty), .int th, .ref mk, .int ml, .ref mfd, .int mf, .int (nI jx), .int vx, .int tw])), (mb, .inl (KC, 60, .inl bf))] H := hP
  have hD : va_D A [(mo, .inr (8, [.ref ms, .int sv, .ref mb, .int (nI ty), .int th, .ref mk, .int ml, .ref mfd, .int mf, .int (nI jx), .int vx, .int tw])), (mb, .inl (KC, 60, .inl bf))] := hD
  refine lv_aload_n hx hb dX8_readsSmudge_11 rfl (lv_at hl 0 rfl) ?_
  refine va_get (D := D) (ci := 8) (v := .int vx) (C := RX8) (T := TX8) (N := 12) hx hb ht inA_X8 hown hK hP 0 rfl rfl 10 (by decide) (ht _ lf_X8_157) (fun _ h9 => h9) rfl dX8_readsSmudge_12 ?_
  refine lv_iconst (v := (-1)) hx hb dX8_readsSmudge_15 (by decide) ?_
  refine lv_icmp_eq (tgt := 28) hx hb dX8_readsSmudge_16 (by decide) (fun c_2 => ?_) (fun c_2 => ?_)
  · have hc9 := c_2
    refine lv_iconst (v := 0) hx hb dX8_readsSmudge_28 (by decide) ?_
    have hP9 : va_P D vwCl [(mo, .inr (8, [.ref ms, .int sv, .ref mb, .int (nI ty), .int th, .ref mk, .int ml, .ref mfd, .int mf, .int (nI jx), .int vx, .int tw])), (mb, .inl (KC, 60, .inl bf))] H := hP.sub [0, 1] rfl
    have hD9 : va_D A [(mo, .inr (8, [.ref ms, .int sv, .ref mb, .int (nI ty), .int th, .ref mk, .int ml, .ref mfd, .int mf, .int (nI jx), .int vx, .int tw])), (mb, .inl (KC, 60, .inl bf))] := hD.sub [0, 1] (by decide) rfl
    have hK9 : va_K D vwCl [] s := hK.sub [] rfl
    exact W.zret (v := 0) hx hb hr (rfl) (fun t ht9 hW9 => ⟨⟨0, (jx, vx, tw), rfl, by (exact smu_f1 hw_1 hit c_2), ⟨by rw [ht9]; exact hP9, va_K.moved hW9.alike hK9, hD9⟩⟩, hS.F ht9⟩) hS.2.2 dX8_readsSmudge_29
  · have hc9 := c_2
    refine lv_aload_n hx hb dX8_readsSmudge_19 rfl (lv_at hl 0 rfl) ?_
    refine lv_bipush (v := 61) hx hb dX8_readsSmudge_20 (by decide) ?_
    have ct := k_cut_of (wc := [(mo, .inr (8, [.ref ms, .int sv, .ref mb, .int (nI ty), .int th, .ref mk, .int ml, .ref mfd, .int mf, .int (nI jx), .int vx, .int tw])), (mb, .inl (KC, 60, .inl bf))]) (wr := []) (tc := [(KC, .char)]) hG hS hA hK hP hD [0, 1] [] [0] rfl rfl (by decide) (by decide) (by decide) rfl
    refine k_endi (As := [.ref mo, .int 61]) ct (k_runV (As := [.int 61]) (rest := []) S0 Lv_X8_165 rfl (ci := 8) (q0 := 0) rfl rfl ct (c_M_takes l D mo ms sv mb ty th mk ml mfd mf jx vx tw KC bf tx 61 (by assumption) (by first | assumption | omega) (by first | assumption | omega) H.size) hl.1 rfl (Nat.le_of_ble_eq_true rfl) rfl dX8_readsSmudge_22 ⟨⟨Nat.le_of_ble_eq_true rfl, Nat.le_of_ble_eq_true rfl⟩, Nat.le_of_ble_eq_true rfl, Nat.le_of_ble_eq_true rfl⟩) rfl rfl (fun r_3 sp1v_4 H locs hw_5 hP hD hK hS => ?_)
    have hK : va_K D vwCl [(KC, .char)] s := hK
    have hP : va_P D vwCl [(mo, .inr (8, [.ref ms, .int sv, .ref mb, .int (nI ty), .int th, .ref mk, .int ml, .ref mfd, .int mf, .int (nI sp1v_4), .int vx, .int tw])), (mb, .inl (KC, 60, .inl bf))] H := hP
    have hD : va_D A [(mo, .inr (8, [.ref ms, .int sv, .ref mb, .int (nI ty), .int th, .ref mk, .int ml, .ref mfd, .int mf, .int (nI sp1v_4), .int vx, .int tw])), (mb, .inl (KC, 60, .inl bf))] := hD
    rcases hw_5 with ⟨rfl, rfl, c_6, c_7⟩ | ⟨rfl, he_8, c_9⟩
    · skip
      refine lv_if_ne (tgt := 30) hx hb dX8_readsSmudge_25 (by decide) (fun _ => ?_) (fun c9 => absurd c9 (by decide))
      refine lv_aload_n hx hb dX8_readsSmudge_30 rfl (lv_at hl 0 rfl) ?_
      refine lv_bipush (v := 45) hx hb dX8_readsSmudge_31 (by decide) ?_
      have ct := k_cut_of (wc := [(mo, .inr (8, [.ref ms, .int sv, .ref mb, .int (nI ty), .int th, .ref mk, .int ml, .ref mfd, .int mf, .int (nI (jx + 1)), .int vx, .int tw])), (mb, .inl (KC, 60, .inl bf))]) (wr := []) (tc := [(KC, .char)]) hG hS hA hK hP hD [0, 1] [] [0] rfl rfl (by decide) (by decide) (by decide) rfl
      refine k_endi (As := [.ref mo, .int 45]) ct (k_runV (As := [.int 45]) (rest := []) S0 Lv_X8_165 rfl (ci := 8) (q0 := 0) rfl rfl ct (c_M_takes l D mo ms sv mb ty th mk ml mfd mf (jx + 1) vx tw KC bf tx 45 (by assumption) (by first | assumption | omega) (by first | assumption | omega) H.size) hl.1 rfl (Nat.le_of_ble_eq_true rfl) rfl dX8_readsSmudge_33 ⟨⟨Nat.le_of_ble_eq_true rfl, Nat.le_of_ble_eq_true rfl⟩, Nat.le_of_ble_eq_true rfl, Nat.le_of_ble_eq_true rfl⟩) rfl rfl (fun r_10 sp1v_11 H locs hw_12 hP hD hK hS => ?_)
      have hK : va_K D vwCl [(KC, .char)] s := hK
      have hP : va_P D vwCl [(mo, .inr (8, [.ref ms, .int sv, .ref mb, .int (nI ty), .int th, .ref mk, .int ml, .ref mfd, .int mf, .int (nI sp1v_11), .int vx, .int tw])), (mb, .inl (KC, 60, .inl bf))] H := hP
      have hD : va_D A [(mo, .inr (8, [.ref ms, .int sv, .ref mb, .int (nI ty), .int th, .ref mk, .int ml, .ref mfd, .int mf, .int (nI sp1v_11), .int vx, .int tw])), (mb, .inl (KC, 60, .inl bf))] := hD
      rcases hw_12 with ⟨rfl, rfl, c_13, c_14⟩ | ⟨rfl, rfl, c_15⟩
      · skip
        refine lv_istore_n (lv' := [(1, .int 1), (0, .ref mo)]) hx hb dX8_readsSmudge_36 rfl hl (by decide) rfl (fun ls hl => ?_)
        refine lv_aload_n hx hb dX8_readsSmudge_37 rfl (lv_at hl 1 rfl) ?_
        refine lv_iload_n hx hb dX8_readsSmudge_38 rfl (lv_at hl 0 rfl) ?_
        refine lv_if_eq (tgt := 47) hx hb dX8_readsSmudge_39 (by decide) (fun c9 => absurd c9 (by decide)) (fun _ => ?_)
        refine lv_bipush (v := 49) hx hb dX8_readsSmudge_42 (by decide) ?_
        refine lv_goto (tgt := 49) hx hb dX8_readsSmudge_44 (by decide) ?_
        refine lv_bipush (v := 57) hx hb dX8_readsSmudge_49 (by decide) ?_
        have ct := k_cut_of (wc := [(mo, .inr (8, [.ref ms, .int sv, .ref mb, .int (nI ty), .int th, .ref mk, .int ml, .ref mfd, .int mf, .int (nI ((jx + 1) + 1)), .int vx, .int tw])), (mb, .inl (KC, 60, .inl bf))]) (wr := []) (tc := [(KC, .char)]) hG hS hA hK hP hD [0, 1] [] [0] rfl rfl (by decide) (by decide) (by decide) rfl
        refine k_endi (As := [.ref mo, .int 49, .int 57]) ct (k_runV (As := [.int 49, .int 57]) (rest := []) S0 Lv_X8_153 rfl (ci := 8) (q0 := 0) rfl rfl ct (c_M_isHere l D mo ms sv mb ty th mk ml mfd mf ((jx + 1) + 1) vx tw KC bf tx 49 57 (by assumption) (by first | assumption | omega) (by first | assumption | omega) H.size) hl.1 rfl (Nat.le_of_ble_eq_true rfl) rfl dX8_readsSmudge_51 ⟨⟨Nat.le_of_ble_eq_true rfl, Nat.le_of_ble_eq_true rfl⟩, Nat.le_of_ble_eq_true rfl, Nat.le_of_ble_eq_true rfl⟩) rfl rfl (fun r_16 _ H locs hw_17 hP hD hK hS => ?_)
        have hK : va_K D vwCl [(KC, .char)] s := hK
        have hP : va_P D vwCl [(mo, .inr (8, [.ref ms, .int sv, .ref mb, .int (nI ty), .int th, .ref mk, .int ml, .ref mfd, .int mf, .int (nI ((jx + 1) + 1)), .int vx, .int tw])), (mb, .inl (KC, 60, .inl bf))] H := hP
        have hD : va_D A [(mo, .inr (8, [.ref ms, .int sv, .ref mb, .int (nI ty), .int th, .ref mk, .int ml, .ref mfd, .int mf, .int (nI ((jx + 1) + 1)), .int vx, .int tw])), (mb, .inl (KC, 60, .inl bf))] := hD
        rcases hw_17 with ⟨hr9, c_18, c_19, c_20⟩ | ⟨hr9, c_21⟩
        · subst hr9
          refine lv_if_ne (tgt := 59) hx hb dX8_readsSmudge_54 (by decide) (fun _ => ?_) (fun c9 => absurd c9 (by decide))
          refine lv_aload_n hx hb dX8_readsSmudge_59 rfl (lv_at hl 1 rfl) ?_
          refine lv_aload_n hx hb dX8_readsSmudge_60 rfl (lv_at hl 1 rfl) ?_
          refine va_get (D := D) (ci := 8) (v := .ref mb) (C := RX8) (T := TX8) (N := 12) hx hb ht inA_X8 hown hK hP 0 rfl rfl 2 (by decide) (ht _ lf_X8_13) (fun _ h9 => h9) rfl dX8_readsSmudge_61 ?_
          refine lv_aload_n hx hb dX8_readsSmudge_64 rfl (lv_at hl 1 rfl) ?_
          refine va_get (D := D) (ci := 8) (v := .int (nI ((jx + 1) + 1))) (C := RX8) (T := TX8) (N := 12) hx hb ht inA_X8 hown hK hP 0 rfl rfl 9 (by decide) (ht _ lf_X8_150) (fun _ h9 => h9) rfl dX8_readsSmudge_65 ?_
          refine va_cald hx hb hK hP 1 0 rfl rfl (vp_in_nI (by omega) (by decide)) dX8_readsSmudge_68 ?_
          refine k_nrm (y := (tx ((jx + 1) + 1))) (by rw [nI_clamp (by omega)]; exact hcf _ (by omega)) ?_
          refine lv_bipush (v := 48) hx hb dX8_readsSmudge_69 (by decide) ?_
          refine lv_isub hx hb dX8_readsSmudge_71 ?_
          refine k_nrm (y := (tx ((jx + 1) + 1) - 48)) (rfl) ?_
          refine va_put (D := D) (ci := 8) (v := .int (tx ((jx + 1) + 1) - 48)) (ty := .int) (C := RX8) (T := TX8) (N := 12) hx hb ht inA_X8 tyX8 tyX8_ok nmX8 hown hK hP hD hS 0 rfl rfl 11 (by decide) (ht _ lf_X8_160) (fun _ h9 => h9) rfl (tyX8_ok 11 (by decide)) rfl rfl (Nat.le_of_ble_eq_true rfl) dX8_readsSmudge_72 (fun H locs hP hD hS => ?_)
          have hP : va_P D vwCl [(mo, .inr (8, [.ref ms, .int sv, .ref mb, .int (nI ty), .int th, .ref mk, .int ml, .ref mfd, .int mf, .int (nI ((jx + 1) + 1)), .int vx, .int (tx ((jx + 1) + 1) - 48)])), (mb, .inl (KC, 60, .inl bf))] H := hP
          have hD : va_D A [(mo, .inr (8, [.ref ms, .int sv, .ref mb, .int (nI ty), .int th, .ref mk, .int ml, .ref mfd, .int mf, .int (nI ((jx + 1) + 1)), .int vx, .int (tx ((jx + 1) + 1) - 48)])), (mb, .inl (KC, 60, .inl bf))] := hD
          refine lv_aload_n hx hb dX8_readsSmudge_75 rfl (lv_at hl 1 rfl) ?_
          refine lv_iload_n hx hb dX8_readsSmudge_76 rfl (lv_at hl 0 rfl) ?_
          refine lv_if_eq (tgt := 88) hx hb dX8_readsSmudge_77 (by decide) (fun c9 => absurd c9 (by decide)) (fun _ => ?_)
          refine lv_aload_n hx hb dX8_readsSmudge_80 rfl (lv_at hl 1 rfl) ?_
          refine va_get (D := D) (ci := 8) (v := .int (tx ((jx + 1) + 1) - 48)) (C := RX8) (T := TX8) (N := 12) hx hb ht inA_X8 hown hK hP 0 rfl rfl 11 (by decide) (ht _ lf_X8_160) (fun _ h9 => h9) rfl dX8_readsSmudge_81 ?_
          refine lv_ineg hx hb dX8_readsSmudge_84 ?_
          refine k_nrm (y := (-(tx ((jx + 1) + 1) - 48))) (rfl) ?_
          refine lv_goto (tgt := 92) hx hb dX8_readsSmudge_85 (by decide) ?_
          refine va_put (D := D) (ci := 8) (v := .int (-(tx ((jx + 1) + 1) - 48))) (ty := .int) (C := RX8) (T := TX8) (N := 12) hx hb ht inA_X8 tyX8 tyX8_ok nmX8 hown hK hP hD hS 0 rfl rfl 11 (by decide) (ht _ lf_X8_160) (fun _ h9 => h9) rfl (tyX8_ok 11 (by decide)) rfl rfl (Nat.le_of_ble_eq_true rfl) dX8_readsSmudge_92 (fun H locs hP hD hS => ?_)
          have hP : va_P D vwCl [(mo, .inr (8, [.ref ms, .int sv, .ref mb, .int (nI ty), .int th, .ref mk, .int ml, .ref mfd, .int mf, .int (nI ((jx + 1) + 1)), .int vx, .int (-(tx ((jx + 1) + 1) - 48))])), (mb, .inl (KC, 60, .inl bf))] H := hP
          have hD : va_D A [(mo, .inr (8, [.ref ms, .int sv, .ref mb, .int (nI ty), .int th, .ref mk, .int ml, .ref mfd, .int mf, .int (nI ((jx + 1) + 1)), .int vx, .int (-(tx ((jx + 1) + 1) - 48))])), (mb, .inl (KC, 60, .inl bf))] := hD
          refine lv_aload_n hx hb dX8_readsSmudge_95 rfl (lv_at hl 1 rfl) ?_
          refine lv_dup hx hb dX8_readsSmudge_96 rfl ?_
          refine va_get (D := D) (ci := 8) (v := .int (nI ((jx + 1) + 1))) (C := RX8) (T := TX8) (N := 12) hx hb ht inA_X8 hown hK hP 0 rfl rfl 9 (by decide) (ht _ lf_X8_150) (fun _ h9 => h9) rfl dX8_readsSmudge_97 ?_
          refine lv_iconst (v := 1) hx hb dX8_readsSmudge_100 (by decide) ?_
          refine lv_iadd hx hb dX8_readsSmudge_101 ?_
          refine k_nrm (y := (nI ((jx + 1) + 1 + 1))) (nI_1 _) ?_
          refine va_put (D := D) (ci := 8) (v := .int (nI ((jx + 1) + 1 + 1))) (ty := .int) (C := RX8) (T := TX8) (N := 12) hx hb ht inA_X8 tyX8 tyX8_ok nmX8 hown hK hP hD hS 0 rfl rfl 9 (by decide) (ht _ lf_X8_150) (fun _ h9 => h9) rfl (tyX8_ok 9 (by decide)) rfl rfl (Nat.le_of_ble_eq_true rfl) dX8_readsSmudge_102 (fun H locs hP hD hS => ?_)
          have hP : va_P D vwCl [(mo, .inr (8, [.ref ms, .int sv, .ref mb, .int (nI ty), .int th, .ref mk, .int ml, .ref mfd, .int mf, .int (nI ((jx + 1) + 1 + 1)), .int vx, .int (-(tx ((jx + 1) + 1) - 48))])), (mb, .inl (KC, 60, .inl bf))] H := hP
          have hD : va_D A [(mo, .inr (8, [.ref ms, .int sv, .ref mb, .int (nI ty), .int th, .ref mk, .int ml, .ref mfd, .int mf, .int (nI ((jx + 1) + 1 + 1)), .int vx, .int (-(tx ((jx + 1) + 1) - 48))])), (mb, .inl (KC, 60, .inl bf))] := hD
          refine lv_iconst (v := 1) hx hb dX8_readsSmudge_105 (by decide) ?_
          have hP9 : va_P D vwCl [(mo, .inr (8, [.ref ms, .int sv, .ref mb, .int (nI ty), .int th, .ref mk, .int ml, .ref mfd, .int mf, .int (nI ((jx + 1) + 1 + 1)), .int vx, .int (-(tx ((jx + 1) + 1) - 48))])), (mb, .inl (KC, 60, .inl bf))] H := hP.sub [0, 1] rfl
          have hD9 : va_D A [(mo, .inr (8, [.ref ms, .int sv, .ref mb, .int (nI ty), .int th, .ref mk, .int ml, .ref mfd, .int mf, .int (nI ((jx + 1) + 1 + 1)), .int vx, .int (-(tx ((jx + 1) + 1) - 48))])), (mb, .inl (KC, 60, .inl bf))] := hD.sub [0, 1] (by decide) rfl
          have hK9 : va_K D vwCl [] s := hK.sub [] rfl
          exact W.zret (v := 1) hx hb hr (rfl) (fun t ht9 hW9 => ⟨⟨1, ((jx + 1) + 1 + 1, vx, (-(tx ((jx + 1) + 1) - 48))), rfl, by (exact smu_y okL_s3 (l := 1) rfl (smu_s2 hw_1 hit c_2 c_6 c_7 c_13 c_14) c_18 c_19 c_20 (if_neg (by decide)).symm), ⟨by rw [ht9]; exact hP9, va_K.moved hW9.alike hK9, hD9⟩⟩, hS.F ht9⟩) hS.2.2 dX8_readsSmudge_106
        · subst hr9
          refine lv_if_ne (tgt := 59) hx hb dX8_readsSmudge_54 (by decide) (fun c9 => absurd (by decide) c9) (fun _ => ?_)
          refine lv_iconst (v := 0) hx hb dX8_readsSmudge_57 (by decide) ?_
          have hP9 : va_P D vwCl [(mo, .inr (8, [.ref ms, .int sv, .ref mb, .int (nI ty), .int th, .ref mk, .int ml, .ref mfd, .int mf, .int (nI ((jx + 1) + 1)), .int vx, .int tw])), (mb, .inl (KC, 60, .inl bf))] H := hP.sub [0, 1] rfl
          have hD9 : va_D A [(mo, .inr (8, [.ref ms, .int sv, .ref mb, .int (nI ty), .int th, .ref mk, .int ml, .ref mfd, .int mf, .int (nI ((jx + 1) + 1)), .int vx, .int tw])), (mb, .inl (KC, 60, .inl bf))] := hD.sub [0, 1] (by decide) rfl
          have hK9 : va_K D vwCl [] s := hK.sub [] rfl
          exact W.zret (v := 0) hx hb hr (rfl) (fun t ht9 hW9 => ⟨⟨0, ((jx + 1) + 1, vx, tw), rfl, by (exact smu_no2 okL_s3 (l := 1) rfl (smu_s2 hw_1 hit c_2 c_6 c_7 c_13 c_14) c_21 (Or.inl (by decide))), ⟨by rw [ht9]; exact hP9, va_K.moved hW9.alike hK9, hD9⟩⟩, hS.F ht9⟩) hS.2.2 dX8_readsSmudge_58
      · skip
        refine lv_istore_n (lv' := [(1, .int 0), (0, .ref mo)]) hx hb dX8_readsSmudge_36 rfl hl (by decide) rfl (fun ls hl => ?_)
        refine lv_aload_n hx hb dX8_readsSmudge_37 rfl (lv_at hl 1 rfl) ?_
        refine lv_iload_n hx hb dX8_readsSmudge_38 rfl (lv_at hl 0 rfl) ?_
        refine lv_if_eq (tgt := 47) hx hb dX8_readsSmudge_39 (by decide) (fun _ => ?_) (fun c9 => absurd (by decide) c9)
        refine lv_bipush (v := 48) hx hb dX8_readsSmudge_47 (by decide) ?_
        refine lv_bipush (v := 57) hx hb dX8_readsSmudge_49 (by decide) ?_
        have ct := k_cut_of (wc := [(mo, .inr (8, [.ref ms, .int sv, .ref mb, .int (nI ty), .int th, .ref mk, .int ml, .ref mfd, .int mf, .int (nI (jx + 1)), .int vx, .int tw])), (mb, .inl (KC, 60, .inl bf))]) (wr := []) (tc := [(KC, .char)]) hG hS hA hK hP hD [0, 1] [] [0] rfl rfl (by decide) (by decide) (by decide) rfl
        refine k_endi (As := [.ref mo, .int 48, .int 57]) ct (k_runV (As := [.int 48, .int 57]) (rest := []) S0 Lv_X8_153 rfl (ci := 8) (q0 := 0) rfl rfl ct (c_M_isHere l D mo ms sv mb ty th mk ml mfd mf (jx + 1) vx tw KC bf tx 48 57 (by assumption) (by first | assumption | omega) (by first | assumption | omega) H.size) hl.1 rfl (Nat.le_of_ble_eq_true rfl) rfl dX8_readsSmudge_51 ⟨⟨Nat.le_of_ble_eq_true rfl, Nat.le_of_ble_eq_true rfl⟩, Nat.le_of_ble_eq_true rfl, Nat.le_of_ble_eq_true rfl⟩) rfl rfl (fun r_22 _ H locs hw_23 hP hD hK hS => ?_)
        have hK : va_K D vwCl [(KC, .char)] s := hK
        have hP : va_P D vwCl [(mo, .inr (8, [.ref ms, .int sv, .ref mb, .int (nI ty), .int th, .ref mk, .int ml, .ref mfd, .int mf, .int (nI (jx + 1)), .int vx, .int tw])), (mb, .inl (KC, 60, .inl bf))] H := hP
        have hD : va_D A [(mo, .inr (8, [.ref ms, .int sv, .ref mb, .int (nI ty), .int th, .ref mk, .int ml, .ref mfd, .int mf, .int (nI (jx + 1)), .int vx, .int tw])), (mb, .inl (KC, 60, .inl bf))] := hD
        rcases hw_23 with ⟨hr9, c_24, c_25, c_26⟩ | ⟨hr9, c_27⟩
        · subst hr9
          refine lv_if_ne (tgt := 59) hx hb dX8_readsSmudge_54 (by decide) (fun _ => ?_) (fun c9 => absurd c9 (by decide))
          refine lv_aload_n hx hb dX8_readsSmudge_59 rfl (lv_at hl 1 rfl) ?_
          refine lv_aload_n hx hb dX8_readsSmudge_60 rfl (lv_at hl 1 rfl) ?_
          refine va_get (D := D) (ci := 8) (v := .ref mb) (C := RX8) (T := TX8) (N := 12) hx hb ht inA_X8 hown hK hP 0 rfl rfl 2 (by decide) (ht _ lf_X8_13) (fun _ h9 => h9) rfl dX8_readsSmudge_61 ?_
          refine lv_aload_n hx hb dX8_readsSmudge_64 rfl (lv_at hl 1 rfl) ?_
          refine va_get (D := D) (ci := 8) (v := .int (nI (jx + 1))) (C := RX8) (T := TX8) (N := 12) hx hb ht inA_X8 hown hK hP 0 rfl rfl 9 (by decide) (ht _ lf_X8_150) (fun _ h9 => h9) rfl dX8_readsSmudge_65 ?_
          refine va_cald hx hb hK hP 1 0 rfl rfl (vp_in_nI (by omega) (by decide)) dX8_readsSmudge_68 ?_
          refine k_nrm (y := (tx (jx + 1))) (by rw [nI_clamp (by omega)]; exact hcf _ (by omega)) ?_
          refine lv_bipush (v := 48) hx hb dX8_readsSmudge_69 (by decide) ?_
          refine lv_isub hx hb dX8_readsSmudge_71 ?_
          refine k_nrm (y := (tx (jx + 1) - 48)) (rfl) ?_
          refine va_put (D := D) (ci := 8) (v := .int (tx (jx + 1) - 48)) (ty := .int) (C := RX8) (T := TX8) (N := 12) hx hb ht inA_X8 tyX8 tyX8_ok nmX8 hown hK hP hD hS 0 rfl rfl 11 (by decide) (ht _ lf_X8_160) (fun _ h9 => h9) rfl (tyX8_ok 11 (by decide)) rfl rfl (Nat.le_of_ble_eq_true rfl) dX8_readsSmudge_72 (fun H locs hP hD hS => ?_)
          have hP : va_P D vwCl [(mo, .inr (8, [.ref ms, .int sv, .ref mb, .int (nI ty), .int th, .ref mk, .int ml, .ref mfd, .int mf, .int (nI (jx + 1)), .int vx, .int (tx (jx + 1) - 48)])), (mb, .inl (KC, 60, .inl bf))] H := hP
          have hD : va_D A [(mo, .inr (8, [.ref ms, .int sv, .ref mb, .int (nI ty), .int th, .ref mk, .int ml, .ref mfd, .int mf, .int (nI (jx + 1)), .int vx, .int (tx (jx + 1) - 48)])), (mb, .inl (KC, 60, .inl bf))] := hD
          refine lv_aload_n hx hb dX8_readsSmudge_75 rfl (lv_at hl 1 rfl) ?_
          refine lv_iload_n hx hb dX8_readsSmudge_76 rfl (lv_at hl 0 rfl) ?_
          refine lv_if_eq (tgt := 88) hx hb dX8_readsSmudge_77 (by decide) (fun _ => ?_) (fun c9 => absurd (by decide) c9)
          refine lv_aload_n hx hb dX8_readsSmudge_88 rfl (lv_at hl 1 rfl) ?_
          refine va_get (D := D) (ci := 8) (v := .int (tx (jx + 1) - 48)) (C := RX8) (T := TX8) (N := 12) hx hb ht inA_X8 hown hK hP 0 rfl rfl 11 (by decide) (ht _ lf_X8_160) (fun _ h9 => h9) rfl dX8_readsSmudge_89 ?_
          refine va_put (D := D) (ci := 8) (v := .int (tx (jx + 1) - 48)) (ty := .int) (C := RX8) (T := TX8) (N := 12) hx hb ht inA_X8 tyX8 tyX8_ok nmX8 hown hK hP hD hS 0 rfl rfl 11 (by decide) (ht _ lf_X8_160) (fun _ h9 => h9) rfl (tyX8_ok 11 (by decide)) rfl rfl (Nat.le_of_ble_eq_true rfl) dX8_readsSmudge_92 (fun H locs hP hD hS => ?_)
          have hP : va_P D vwCl [(mo, .inr (8, [.ref ms, .int sv, .ref mb, .int (nI ty), .int th, .ref mk, .int ml, .ref mfd, .int mf, .int (nI (jx + 1)), .int vx, .int (tx (jx + 1) - 48)])), (mb, .inl (KC, 60, .inl bf))] H := hP
          have hD : va_D A [(mo, .inr (8, [.ref ms, .int sv, .ref mb, .int (nI ty), .int th, .ref mk, .int ml, .ref mfd, .int mf, .int (nI (jx + 1)), .int vx, .int (tx (jx + 1) - 48)])), (mb, .inl (KC, 60, .inl bf))] := hD
          refine lv_aload_n hx hb dX8_readsSmudge_95 rfl (lv_at hl 1 rfl) ?_
          refine lv_dup hx hb dX8_readsSmudge_96 rfl ?_
          refine va_get (D := D) (ci := 8) (v := .int (nI (jx + 1))) (C := RX8) (T := TX8) (N := 12) hx hb ht inA_X8 hown hK hP 0 rfl rfl 9 (by decide) (ht _ lf_X8_150) (fun _ h9 => h9) rfl dX8_readsSmudge_97 ?_
          refine lv_iconst (v := 1) hx hb dX8_readsSmudge_100 (by decide) ?_
          refine lv_iadd hx hb dX8_readsSmudge_101 ?_
          refine k_nrm (y := (nI (jx + 1 + 1))) (nI_1 _) ?_
          refine va_put (D := D) (ci := 8) (v := .int (nI (jx + 1 + 1))) (ty := .int) (C := RX8) (T := TX8) (N := 12) hx hb ht inA_X8 tyX8 tyX8_ok nmX8 hown hK hP hD hS 0 rfl rfl 9 (by decide) (ht _ lf_X8_150) (fun _ h9 => h9) rfl (tyX8_ok 9 (by decide)) rfl rfl (Nat.le_of_ble_eq_true rfl) dX8_readsSmudge_102 (fun H locs hP hD hS => ?_)
          have hP : va_P D vwCl [(mo, .inr (8, [.ref ms, .int sv, .ref mb, .int (nI ty), .int th, .ref mk, .int ml, .ref mfd, .int mf, .int (nI (jx + 1 + 1)), .int vx, .int (tx (jx + 1) - 48)])), (mb, .inl (KC, 60, .inl bf))] H := hP
          have hD : va_D A [(mo, .inr (8, [.ref ms, .int sv, .ref mb, .int (nI ty), .int th, .ref mk, .int ml, .ref mfd, .int mf, .int (nI (jx + 1 + 1)), .int vx, .int (tx (jx + 1) - 48)])), (mb, .inl (KC, 60, .inl bf))] := hD
          refine lv_iconst (v := 1) hx hb dX8_readsSmudge_105 (by decide) ?_
          have hP9 : va_P D vwCl [(mo, .inr (8, [.ref ms, .int sv, .ref mb, .int (nI ty), .int th, .ref mk, .int ml, .ref mfd, .int mf, .int (nI (jx + 1 + 1)), .int vx, .int (tx (jx + 1) - 48)])), (mb, .inl (KC, 60, .inl bf))] H := hP.sub [0, 1] rfl
          have hD9 : va_D A [(mo, .inr (8, [.ref ms, .int sv, .ref mb, .int (nI ty), .int th, .ref mk, .int ml, .ref mfd, .int mf, .int (nI (jx + 1 + 1)), .int vx, .int (tx (jx + 1) - 48)])), (mb, .inl (KC, 60, .inl bf))] := hD.sub [0, 1] (by decide) rfl
          have hK9 : va_K D vwCl [] s := hK.sub [] rfl
          exact W.zret (v := 1) hx hb hr (rfl) (fun t ht9 hW9 => ⟨⟨1, (jx + 1 + 1, vx, (tx (jx + 1) - 48)), rfl, by (exact smu_y okL_s2 (l := 0) rfl (smu_s1 hw_1 hit c_2 c_6 c_7) c_24 c_25 c_26 (if_pos rfl).symm), ⟨by rw [ht9]; exact hP9, va_K.moved hW9.alike hK9, hD9⟩⟩, hS.F ht9⟩) hS.2.2 dX8_readsSmudge_106
        · subst hr9
          refine lv_if_ne (tgt := 59) hx hb dX8_readsSmudge_54 (by decide) (fun c9 => absurd (by decide) c9) (fun _ => ?_)
          refine lv_iconst (v := 0) hx hb dX8_readsSmudge_57 (by decide) ?_
          have hP9 : va_P D vwCl [(mo, .inr (8, [.ref ms, .int sv, .ref mb, .int (nI ty), .int th, .ref mk, .int ml, .ref mfd, .int mf, .int (nI (jx + 1)), .int vx, .int tw])), (mb, .inl (KC, 60, .inl bf))] H := hP.sub [0, 1] rfl
          have hD9 : va_D A [(mo, .inr (8, [.ref ms, .int sv, .ref mb, .int (nI ty), .int th, .ref mk, .int ml, .ref mfd, .int mf, .int (nI (jx + 1)), .int vx, .int tw])), (mb, .inl (KC, 60, .inl bf))] := hD.sub [0, 1] (by decide) rfl
          have hK9 : va_K D vwCl [] s := hK.sub [] rfl
          exact W.zret (v := 0) hx hb hr (rfl) (fun t ht9 hW9 => ⟨⟨0, (jx + 1, vx, tw), rfl, by (exact smu_no2 okL_s2 (l := 0) rfl (smu_s1 hw_1 hit c_2 c_6 c_7) c_27 (Or.inr c_15)), ⟨by rw [ht9]; exact hP9, va_K.moved hW9.alike hK9, hD9⟩⟩, hS.F ht9⟩) hS.2.2 dX8_readsSmudge_58
    · skip
      have he_8 := he_8.symm
      subst he_8
      refine lv_if_ne (tgt := 30) hx hb dX8_readsSmudge_25 (by decide) (fun c9 => absurd (by decide) c9) (fun _ => ?_)
      refine lv_iconst (v := 0) hx hb dX8_readsSmudge_28 (by decide) ?_
      have hP9 : va_P D vwCl [(mo, .inr (8, [.ref ms, .int sv, .ref mb, .int (nI ty), .int th, .ref mk, .int ml, .ref mfd, .int mf, .int (nI jx), .int vx, .int tw])), (mb, .inl (KC, 60, .inl bf))] H := hP.sub [0, 1] rfl
      have hD9 : va_D A [(mo, .inr (8, [.ref ms, .int sv, .ref mb, .int (nI ty), .int th, .ref mk, .int ml, .ref mfd, .int mf, .int (nI jx), .int vx, .int tw])), (mb, .inl (KC, 60, .inl bf))] := hD.sub [0, 1] (by decide) rfl
      have hK9 : va_K D vwCl [] s := hK.sub [] rfl
      exact W.zret (v := 0) hx hb hr (rfl) (fun t ht9 hW9 => ⟨⟨0, (jx, vx, tw), rfl, by (exact per_f2 okL_s1 (l := 0) (g := 40) rfl rfl (show (61 : Int32) = sepP 115 from rfl) hw_1 hit c_2 c_9), ⟨by rw [ht9]; exact hP9, va_K.moved hW9.alike hK9, hD9⟩⟩, hS.F ht9⟩) hS.2.2 dX8_readsSmudge_29
set_option maxHeartbeats 4000000 in
set_option maxRecDepth 100000 in
theorem c_M_readsPeriods (l : Launch) (D : va_G) (mo : Nat) (ms : Nat) (sv : Int32) (mb : Nat) (ty : Nat) (th : Int32) (mk : Nat) (ml : Int32) (mfd : Nat) (mf : Int32) (i : Nat) (on : Int32) (tw : Int32) (KC : ClassId) (bf : Nat → Int32) (tx : Nat → Int32) (Kc : Int32) (hcf : ∀ j9, j9 < ty → bf j9 = tx j9) (hty : ty ≤ 60) (hit : i ≤ ty) (hKc : Kc = 100 ∨ Kc = 98) (sz : Nat) : k_Mi (S := Nat × Int32 × Int32) l D yX8_readsPeriods cX8_readsPeriods 1 (some .boolean) 3 0 0 68 [.ref mo] [(mo, .inr (8, [.ref ms, .int sv, .ref mb, .int (nI ty), .int th, .ref mk, .int ml, .ref mfd, .int mf, .int (nI i), .int on, .int tw])), (mb, .inl (KC, 60, .inl bf))] [(KC, .char)] (fun (r : Int32) (u : Nat × Int32 × Int32) => match u with | (sp1, on1, tw1) => PSR tx ty Kc i r sp1 on1 tw1) (fun u => match u with | (sp1, on1, tw1) => [(mo, .inr (8, [.ref ms, .int sv, .ref mb, .int (nI ty), .int th, .ref mk, .int ml, .ref mfd, .int mf, .int (nI sp1), .int on1, .int tw1])), (mb, .inl (KC, 60, .inl bf))]) (fun u => match u with | (sp1, on1, tw1) => []) sz := by
  refine Met.ofW (cc := cX8_readsPeriods) (maxL := 1) (ret := (some .boolean)) (by decide) rfl ?_
  intro p e s m args below meth c s₁ B hml hv
  obtain ⟨rfl, hsz, hP, hK, hD0, hG⟩ := hv
  have hx := B.exec
  have hb := B.bytes
  have hr := B.returns
  have ht : ∀ v9 ∈ wsA, v9.before ([.ref mo] : List Value).toArray s = true := fun v9 h9 => atoms_spec (ws := k_ws yX8_readsPeriods cX8_readsPeriods 1 (some .boolean)) B.pre v9 (List.mem_cons_of_mem _ h9)
  have hown : s.vm.findClass RX8 = some m.cls := findClass_of_methodNamed B.named
  have S0 : k_C p s m ([.ref mo] : List Value).toArray c cX8_readsPeriods 1 RX8 := ⟨hx, hb, hml, hown, ht⟩
  have hlocks := B.notSynchronized
  subst hsz
  have hD := hD0.self (sz := s.heap.size)
  generalize hAe : va_A [(mo, .inr (8, [.ref ms, .int sv, .ref mb, .int (nI ty), .int th, .ref mk, .int ml, .ref mfd, .int mf, .int (nI i), .int on, .int tw])), (mb, .inl (KC, 60, .inl bf))] s.heap.size = A at hD hG ⊢
  have hA : ∀ q : Nat, s.heap.size ≤ q → A q := fun q h => by rw [← hAe]; exact Or.inr h
  have hS : va_S A s.heap s.heap [] := va_S.rf
  have hl := lv_entry ([.ref mo]) (n := 1) (Nat.le_of_ble_eq_true rfl)
  rw [lg_entry_eq]
  generalize (lg_sl ([.ref mo]) ++ List.replicate (1 - (lg_sl ([.ref mo])).length) Slot.unset).toArray = ls at hl ⊢
  have hl : lv_has ls 1 [(0, .ref mo)] := hl
  have hP : va_P D vwCl [(mo, .inr (8, [.ref ms, .int sv, .ref mb, .int (nI ty), .int th, .ref mk, .int ml, .ref mfd, .int mf, .int (nI i), .int on, .int tw])), (mb, .inl (KC, 60, .inl bf))] s.heap := hP
  refine lv_aload_n hx hb dX8_readsPeriods_0 rfl (lv_at hl 0 rfl) ?_
  refine lv_aload_n hx hb dX8_readsPeriods_1 rfl (lv_at hl 0 rfl) ?_
  refine lv_iconst (v := 1) hx hb dX8_readsPeriods_2 (by decide) ?_
  refine lv_bipush (v := 50) hx hb dX8_readsPeriods_3 (by decide) ?_
  have ct := k_cut_of (wc := [(mo, .inr (8, [.ref ms, .int sv, .ref mb, .int (nI ty), .int th, .ref mk, .int ml, .ref mfd, .int mf, .int (nI i), .int on, .int tw])), (mb, .inl (KC, 60, .inl bf))]) (wr := []) (tc := [(KC, .char)]) hG hS hA hK hP hD [0, 1] [] [0] rfl rfl (by decide) (by decide) (by decide) rfl
  refine k_endi (As := [.ref mo, .int 1, .int 50]) ct (k_runV (As := [.int 1, .int 50]) (rest := [.ref mo]) S0 Lv_X8_163 rfl (ci := 8) (q0 := 0) rfl rfl ct (c_M_reads50 l D mo ms sv mb ty th mk ml mfd mf i on tw KC bf tx (by assumption) (by first | assumption | omega) (by first | assumption | omega) s.heap.size) hl.1 rfl (Nat.le_of_ble_eq_true rfl) rfl dX8_readsPeriods_5 ⟨⟨Nat.le_of_ble_eq_true rfl, Nat.le_of_ble_eq_true rfl⟩, Nat.le_of_ble_eq_true rfl, Nat.le_of_ble_eq_true rfl⟩) rfl rfl (fun vx jx H locs hw_1 hP hD hK hS => ?_)
  have hK : va_K D vwCl [(KC, .char)] s := hK
  have hP : va_P D vwCl [(mo, .inr (8, [.ref ms, .int sv, .ref mb, .int (nI ty), .int th, .ref mk, .int ml, .ref mfd, .int mf, .int (nI jx), .int on, .int tw])), (mb, .inl (KC, 60, .inl bf))] H := hP
  have hD : va_D A [(mo, .inr (8, [.ref ms, .int sv, .ref mb, .int (nI ty), .int th, .ref mk, .int ml, .ref mfd, .int mf, .int (nI jx), .int on, .int tw])), (mb, .inl (KC, 60, .inl bf))] := hD
  have hw_1 : NR tx ty 49 50 i vx jx := hw_1
  have hjx := NR_le hw_1 hit
  refine va_put (D := D) (ci := 8) (v := .int vx) (ty := .int) (C := RX8) (T := TX8) (N := 12) hx hb ht inA_X8 tyX8 tyX8_ok nmX8 hown hK hP hD hS 0 rfl rfl 10 (by decide) (ht _ lf_X8_157) (fun _ h9 => h9) rfl (tyX8_ok 10 (by decide)) rfl rfl (Nat.le_of_ble_eq_true rfl) dX8_readsPeriods_8 (fun H locs hP hD hS => ?_)
  have hP : va_P D vwCl [(mo, .inr (8, [.ref ms, .int sv, .ref mb, .int (nI ty), .int th, .ref mk, .int ml, .ref mfd, .int mf, .int (nI jx), .int vx, .int tw])), (mb, .inl (KC, 60, .inl bf))] H := hP
  have hD : va_D A [(mo, .inr (8, [.ref ms, .int sv, .ref mb, .int (nI ty), .int th, .ref mk, .int ml, .ref mfd, .int mf, .int (nI jx), .int vx, .int tw])), (mb, .inl (KC, 60, .inl bf))] := hD
  refine lv_aload_n hx hb dX8_readsPeriods_11 rfl (lv_at hl 0 rfl) ?_
  refine lv_aload_n hx hb dX8_readsPeriods_12 rfl (lv_at hl 0 rfl) ?_
  refine va_get (D := D) (ci := 8) (v := .int vx) (C := RX8) (T := TX8) (N := 12) hx hb ht inA_X8 hown hK hP 0 rfl rfl 10 (by decide) (ht _ lf_X8_157) (fun _ h9 => h9) rfl dX8_readsPeriods_13 ?_
  refine lv_iconst (v := (-1)) hx hb dX8_readsPeriods_16 (by decide) ?_
  refine lv_icmp_eq (tgt := 39) hx hb dX8_readsPeriods_17 (by decide) (fun c_2 => ?_) (fun c_2 => ?_)
  · have hc9 := c_2
    refine lv_iconst (v := (-1)) hx hb dX8_readsPeriods_39 (by decide) ?_
    refine va_put (D := D) (ci := 8) (v := .int (-1)) (ty := .int) (C := RX8) (T := TX8) (N := 12) hx hb ht inA_X8 tyX8 tyX8_ok nmX8 hown hK hP hD hS 0 rfl rfl 11 (by decide) (ht _ lf_X8_160) (fun _ h9 => h9) rfl (tyX8_ok 11 (by decide)) rfl rfl (Nat.le_of_ble_eq_true rfl) dX8_readsPeriods_40 (fun H locs hP hD hS => ?_)
    have hP : va_P D vwCl [(mo, .inr (8, [.ref ms, .int sv, .ref mb, .int (nI ty), .int th, .ref mk, .int ml, .ref mfd, .int mf, .int (nI jx), .int vx, .int (-1)])), (mb, .inl (KC, 60, .inl bf))] H := hP
    have hD : va_D A [(mo, .inr (8, [.ref ms, .int sv, .ref mb, .int (nI ty), .int th, .ref mk, .int ml, .ref mfd, .int mf, .int (nI jx), .int vx, .int (-1)])), (mb, .inl (KC, 60, .inl bf))] := hD
    refine lv_aload_n hx hb dX8_readsPeriods_43 rfl (lv_at hl 0 rfl) ?_
    refine va_get (D := D) (ci := 8) (v := .int (-1)) (C := RX8) (T := TX8) (N := 12) hx hb ht inA_X8 hown hK hP 0 rfl rfl 11 (by decide) (ht _ lf_X8_160) (fun _ h9 => h9) rfl dX8_readsPeriods_44 ?_
    refine lv_iconst (v := (-1)) hx hb dX8_readsPeriods_47 (by decide) ?_
    refine lv_icmp_eq (tgt := 55) hx hb dX8_readsPeriods_48 (by decide) (fun _ => ?_) (fun c9 => absurd (by decide) c9)
    refine lv_iconst (v := 0) hx hb dX8_readsPeriods_55 (by decide) ?_
    have hP9 : va_P D vwCl [(mo, .inr (8, [.ref ms, .int sv, .ref mb, .int (nI ty), .int th, .ref mk, .int ml, .ref mfd, .int mf, .int (nI jx), .int vx, .int (-1)])), (mb, .inl (KC, 60, .inl bf))] H := hP.sub [0, 1] rfl
    have hD9 : va_D A [(mo, .inr (8, [.ref ms, .int sv, .ref mb, .int (nI ty), .int th, .ref mk, .int ml, .ref mfd, .int mf, .int (nI jx), .int vx, .int (-1)])), (mb, .inl (KC, 60, .inl bf))] := hD.sub [0, 1] (by decide) rfl
    have hK9 : va_K D vwCl [] s := hK.sub [] rfl
    exact W.zret (v := 0) hx hb hr (rfl) (fun t ht9 hW9 => ⟨⟨0, (jx, vx, (-1)), rfl, by (exact per_f1 hKc hw_1 hit c_2), ⟨by rw [ht9]; exact hP9, va_K.moved hW9.alike hK9, hD9⟩⟩, hS.F ht9⟩) hS.2.2 dX8_readsPeriods_56
  · have hc9 := c_2
    refine lv_aload_n hx hb dX8_readsPeriods_20 rfl (lv_at hl 0 rfl) ?_
    refine lv_bipush (v := 44) hx hb dX8_readsPeriods_21 (by decide) ?_
    have ct := k_cut_of (wc := [(mo, .inr (8, [.ref ms, .int sv, .ref mb, .int (nI ty), .int th, .ref mk, .int ml, .ref mfd, .int mf, .int (nI jx), .int vx, .int tw])), (mb, .inl (KC, 60, .inl bf))]) (wr := []) (tc := [(KC, .char)]) hG hS hA hK hP hD [0, 1] [] [0] rfl rfl (by decide) (by decide) (by decide) rfl
    refine k_endi (As := [.ref mo, .int 44]) ct (k_runV (As := [.int 44]) (rest := [.ref mo]) S0 Lv_X8_165 rfl (ci := 8) (q0 := 0) rfl rfl ct (c_M_takes l D mo ms sv mb ty th mk ml mfd mf jx vx tw KC bf tx 44 (by assumption) (by first | assumption | omega) (by first | assumption | omega) H.size) hl.1 rfl (Nat.le_of_ble_eq_true rfl) rfl dX8_readsPeriods_23 ⟨⟨Nat.le_of_ble_eq_true rfl, Nat.le_of_ble_eq_true rfl⟩, Nat.le_of_ble_eq_true rfl, Nat.le_of_ble_eq_true rfl⟩) rfl rfl (fun r_3 sp1v_4 H locs hw_5 hP hD hK hS => ?_)
    have hK : va_K D vwCl [(KC, .char)] s := hK
    have hP : va_P D vwCl [(mo, .inr (8, [.ref ms, .int sv, .ref mb, .int (nI ty), .int th, .ref mk, .int ml, .ref mfd, .int mf, .int (nI sp1v_4), .int vx, .int tw])), (mb, .inl (KC, 60, .inl bf))] H := hP
    have hD : va_D A [(mo, .inr (8, [.ref ms, .int sv, .ref mb, .int (nI ty), .int th, .ref mk, .int ml, .ref mfd, .int mf, .int (nI sp1v_4), .int vx, .int tw])), (mb, .inl (KC, 60, .inl bf))] := hD
    rcases hw_5 with ⟨rfl, rfl, c_6, c_7⟩ | ⟨rfl, he_8, c_9⟩
    · skip
      refine lv_if_eq (tgt := 39) hx hb dX8_readsPeriods_26 (by decide) (fun c9 => absurd c9 (by decide)) (fun _ => ?_)
      refine lv_aload_n hx hb dX8_readsPeriods_29 rfl (lv_at hl 0 rfl) ?_
      refine lv_iconst (v := 1) hx hb dX8_readsPeriods_30 (by decide) ?_
      refine lv_bipush (v := 50) hx hb dX8_readsPeriods_31 (by decide) ?_
      have ct := k_cut_of (wc := [(mo, .inr (8, [.ref ms, .int sv, .ref mb, .int (nI ty), .int th, .ref mk, .int ml, .ref mfd, .int mf, .int (nI (jx + 1)), .int vx, .int tw])), (mb, .inl (KC, 60, .inl bf))]) (wr := []) (tc := [(KC, .char)]) hG hS hA hK hP hD [0, 1] [] [0] rfl rfl (by decide) (by decide) (by decide) rfl
      refine k_endi (As := [.ref mo, .int 1, .int 50]) ct (k_runV (As := [.int 1, .int 50]) (rest := [.ref mo]) S0 Lv_X8_163 rfl (ci := 8) (q0 := 0) rfl rfl ct (c_M_reads50 l D mo ms sv mb ty th mk ml mfd mf (jx + 1) vx tw KC bf tx (by assumption) (by first | assumption | omega) (by first | assumption | omega) H.size) hl.1 rfl (Nat.le_of_ble_eq_true rfl) rfl dX8_readsPeriods_33 ⟨⟨Nat.le_of_ble_eq_true rfl, Nat.le_of_ble_eq_true rfl⟩, Nat.le_of_ble_eq_true rfl, Nat.le_of_ble_eq_true rfl⟩) rfl rfl (fun vy jy H locs hw_10 hP hD hK hS => ?_)
      have hK : va_K D vwCl [(KC, .char)] s := hK
      have hP : va_P D vwCl [(mo, .inr (8, [.ref ms, .int sv, .ref mb, .int (nI ty), .int th, .ref mk, .int ml, .ref mfd, .int mf, .int (nI jy), .int vx, .int tw])), (mb, .inl (KC, 60, .inl bf))] H := hP
      have hD : va_D A [(mo, .inr (8, [.ref ms, .int sv, .ref mb, .int (nI ty), .int th, .ref mk, .int ml, .ref mfd, .int mf, .int (nI jy), .int vx, .int tw])), (mb, .inl (KC, 60, .inl bf))] := hD
      have hw_10 : NR tx ty 49 50 (jx + 1) vy jy := hw_10
      refine lv_goto (tgt := 40) hx hb dX8_readsPeriods_36 (by decide) ?_
      refine va_put (D := D) (ci := 8) (v := .int vy) (ty := .int) (C := RX8) (T := TX8) (N := 12) hx hb ht inA_X8 tyX8 tyX8_ok nmX8 hown hK hP hD hS 0 rfl rfl 11 (by decide) (ht _ lf_X8_160) (fun _ h9 => h9) rfl (tyX8_ok 11 (by decide)) rfl rfl (Nat.le_of_ble_eq_true rfl) dX8_readsPeriods_40 (fun H locs hP hD hS => ?_)
      have hP : va_P D vwCl [(mo, .inr (8, [.ref ms, .int sv, .ref mb, .int (nI ty), .int th, .ref mk, .int ml, .ref mfd, .int mf, .int (nI jy), .int vx, .int vy])), (mb, .inl (KC, 60, .inl bf))] H := hP
      have hD : va_D A [(mo, .inr (8, [.ref ms, .int sv, .ref mb, .int (nI ty), .int th, .ref mk, .int ml, .ref mfd, .int mf, .int (nI jy), .int vx, .int vy])), (mb, .inl (KC, 60, .inl bf))] := hD
      refine lv_aload_n hx hb dX8_readsPeriods_43 rfl (lv_at hl 0 rfl) ?_
      refine va_get (D := D) (ci := 8) (v := .int vy) (C := RX8) (T := TX8) (N := 12) hx hb ht inA_X8 hown hK hP 0 rfl rfl 11 (by decide) (ht _ lf_X8_160) (fun _ h9 => h9) rfl dX8_readsPeriods_44 ?_
      refine lv_iconst (v := (-1)) hx hb dX8_readsPeriods_47 (by decide) ?_
      refine lv_icmp_eq (tgt := 55) hx hb dX8_readsPeriods_48 (by decide) (fun c_11 => ?_) (fun c_11 => ?_)
      · have hc9 := c_11
        refine lv_iconst (v := 0) hx hb dX8_readsPeriods_55 (by decide) ?_
        have hP9 : va_P D vwCl [(mo, .inr (8, [.ref ms, .int sv, .ref mb, .int (nI ty), .int th, .ref mk, .int ml, .ref mfd, .int mf, .int (nI jy), .int vx, .int vy])), (mb, .inl (KC, 60, .inl bf))] H := hP.sub [0, 1] rfl
        have hD9 : va_D A [(mo, .inr (8, [.ref ms, .int sv, .ref mb, .int (nI ty), .int th, .ref mk, .int ml, .ref mfd, .int mf, .int (nI jy), .int vx, .int vy])), (mb, .inl (KC, 60, .inl bf))] := hD.sub [0, 1] (by decide) rfl
        have hK9 : va_K D vwCl [] s := hK.sub [] rfl
        exact W.zret (v := 0) hx hb hr (rfl) (fun t ht9 hW9 => ⟨⟨0, (jy, vx, vy), rfl, by (exact per_f3 hKc hw_1 hit c_2 c_6 c_7 hw_10 c_11), ⟨by rw [ht9]; exact hP9, va_K.moved hW9.alike hK9, hD9⟩⟩, hS.F ht9⟩) hS.2.2 dX8_readsPeriods_56
      · have hc9 := c_11
        refine lv_iconst (v := 1) hx hb dX8_readsPeriods_51 (by decide) ?_
        refine lv_goto (tgt := 56) hx hb dX8_readsPeriods_52 (by decide) ?_
        have hP9 : va_P D vwCl [(mo, .inr (8, [.ref ms, .int sv, .ref mb, .int (nI ty), .int th, .ref mk, .int ml, .ref mfd, .int mf, .int (nI jy), .int vx, .int vy])), (mb, .inl (KC, 60, .inl bf))] H := hP.sub [0, 1] rfl
        have hD9 : va_D A [(mo, .inr (8, [.ref ms, .int sv, .ref mb, .int (nI ty), .int th, .ref mk, .int ml, .ref mfd, .int mf, .int (nI jy), .int vx, .int vy])), (mb, .inl (KC, 60, .inl bf))] := hD.sub [0, 1] (by decide) rfl
        have hK9 : va_K D vwCl [] s := hK.sub [] rfl
        exact W.zret (v := 1) hx hb hr (rfl) (fun t ht9 hW9 => ⟨⟨1, (jy, vx, vy), rfl, by (exact per_y hKc hw_1 hit c_2 c_6 c_7 hw_10 c_11), ⟨by rw [ht9]; exact hP9, va_K.moved hW9.alike hK9, hD9⟩⟩, hS.F ht9⟩) hS.2.2 dX8_readsPeriods_56
    · skip
      have he_8 := he_8.symm
      subst he_8
      refine lv_if_eq (tgt := 39) hx hb dX8_readsPeriods_26 (by decide) (fun _ => ?_) (fun c9 => absurd (by decide) c9)
      refine lv_iconst (v := (-1)) hx hb dX8_readsPeriods_39 (by decide) ?_
      refine va_put (D := D) (ci := 8) (v := .int (-1)) (ty := .int) (C := RX8) (T := TX8) (N := 12) hx hb ht inA_X8 tyX8 tyX8_ok nmX8 hown hK hP hD hS 0 rfl rfl 11 (by decide) (ht _ lf_X8_160) (fun _ h9 => h9) rfl (tyX8_ok 11 (by decide)) rfl rfl (Nat.le_of_ble_eq_true rfl) dX8_readsPeriods_40 (fun H locs hP hD hS => ?_)
      have hP : va_P D vwCl [(mo, .inr (8, [.ref ms, .int sv, .ref mb, .int (nI ty), .int th, .ref mk, .int ml, .ref mfd, .int mf, .int (nI jx), .int vx, .int (-1)])), (mb, .inl (KC, 60, .inl bf))] H := hP
      have hD : va_D A [(mo, .inr (8, [.ref ms, .int sv, .ref mb, .int (nI ty), .int th, .ref mk, .int ml, .ref mfd, .int mf, .int (nI jx), .int vx, .int (-1)])), (mb, .inl (KC, 60, .inl bf))] := hD
      refine lv_aload_n hx hb dX8_readsPeriods_43 rfl (lv_at hl 0 rfl) ?_
      refine va_get (D := D) (ci := 8) (v := .int (-1)) (C := RX8) (T := TX8) (N := 12) hx hb ht inA_X8 hown hK hP 0 rfl rfl 11 (by decide) (ht _ lf_X8_160) (fun _ h9 => h9) rfl dX8_readsPeriods_44 ?_
      refine lv_iconst (v := (-1)) hx hb dX8_readsPeriods_47 (by decide) ?_
      refine lv_icmp_eq (tgt := 55) hx hb dX8_readsPeriods_48 (by decide) (fun _ => ?_) (fun c9 => absurd (by decide) c9)
      refine lv_iconst (v := 0) hx hb dX8_readsPeriods_55 (by decide) ?_
      have hP9 : va_P D vwCl [(mo, .inr (8, [.ref ms, .int sv, .ref mb, .int (nI ty), .int th, .ref mk, .int ml, .ref mfd, .int mf, .int (nI jx), .int vx, .int (-1)])), (mb, .inl (KC, 60, .inl bf))] H := hP.sub [0, 1] rfl
      have hD9 : va_D A [(mo, .inr (8, [.ref ms, .int sv, .ref mb, .int (nI ty), .int th, .ref mk, .int ml, .ref mfd, .int mf, .int (nI jx), .int vx, .int (-1)])), (mb, .inl (KC, 60, .inl bf))] := hD.sub [0, 1] (by decide) rfl
      have hK9 : va_K D vwCl [] s := hK.sub [] rfl
      exact W.zret (v := 0) hx hb hr (rfl) (fun t ht9 hW9 => ⟨⟨0, (jx, vx, (-1)), rfl, by (exact per_f2 (okL_1 hKc 1) (l := 1) (g := 50) rfl rfl (by rcases hKc with rfl | rfl <;> rfl) hw_1 hit c_2 c_9), ⟨by rw [ht9]; exact hP9, va_K.moved hW9.alike hK9, hD9⟩⟩, hS.F ht9⟩) hS.2.2 dX8_readsPeriods_56
set_option maxHeartbeats 4000000 in
set_option maxRecDepth 100000 in
theorem c_M_readsPer100 (l : Launch) (D : va_G) (mo : Nat) (ms : Nat) (sv : Int32) (mb : Nat) (ty : Nat) (th : Int32) (mk : Nat) (ml : Int32) (mfd : Nat) (mf : Int32) (i : Nat) (on : Int32) (tw : Int32) (KC : ClassId) (bf : Nat → Int32) (tx : Nat → Int32) (hcf : ∀ j9, j9 < ty → bf j9 = tx j9) (hty : ty ≤ 60) (hit : i ≤ ty) (sz : Nat) : k_Mi (S := Nat × Int32 × Int32) l D yX8_readsPeriods cX8_readsPeriods 1 (some .boolean) 3 0 0 68 [.ref mo] [(mo, .inr (8, [.ref ms, .int sv, .ref mb, .int (nI ty), .int th, .ref mk, .int ml, .ref mfd, .int mf, .int (nI i), .int on, .int tw])), (mb, .inl (KC, 60, .inl bf))] [(KC, .char)] (fun (r : Int32) (u : Nat × Int32 × Int32) => match u with | (sp1, on1, tw1) => PSR tx ty 100 i r sp1 on1 tw1) (fun u => match u with | (sp1, on1, tw1) => [(mo, .inr (8, [.ref ms, .int sv, .ref mb, .int (nI ty), .int th, .ref mk, .int ml, .ref mfd, .int mf, .int (nI sp1), .int on1, .int tw1])), (mb, .inl (KC, 60, .inl bf))]) (fun u => match u with | (sp1, on1, tw1) => []) sz := by
  refine Met.ofW (cc := cX8_readsPeriods) (maxL := 1) (ret := (some .boolean)) (by decide) rfl ?_
  intro p e s m args below meth c s₁ B hml hv
  obtain ⟨rfl, hsz, hP, hK, hD0, hG⟩ := hv
  have hx := B.exec
  have hb := B.bytes
  have hr := B.returns
  have ht : ∀ v9 ∈ wsA, v9.before ([.ref mo] : List Value).toArray s = true := fun v9 h9 => atoms_spec (ws := k_ws yX8_readsPeriods cX8_readsPeriods 1 (some .boolean)) B.pre v9 (List.mem_cons_of_mem _ h9)
  have hown : s.vm.findClass RX8 = some m.cls := findClass_of_methodNamed B.named
  have S0 : k_C p s m ([.ref mo] : List Value).toArray c cX8_readsPeriods 1 RX8 := ⟨hx, hb, hml, hown, ht⟩
  have hlocks := B.notSynchronized
  subst hsz
  have hD := hD0.self (sz := s.heap.size)
  generalize hAe : va_A [(mo, .inr (8, [.ref ms, .int sv, .ref mb, .int (nI ty), .int th, .ref mk, .int ml, .ref mfd, .int mf, .int (nI i), .int on, .int tw])), (mb, .inl (KC, 60, .inl bf))] s.heap.size = A at hD hG ⊢
  have hA : ∀ q : Nat, s.heap.size ≤ q → A q := fun q h => by rw [← hAe]; exact Or.inr h
  have hS : va_S A s.heap s.heap [] := va_S.rf
  have hl := lv_entry ([.ref mo]) (n := 1) (Nat.le_of_ble_eq_true rfl)
  rw [lg_entry_eq]
  generalize (lg_sl ([.ref mo]) ++ List.replicate (1 - (lg_sl ([.ref mo])).length) Slot.unset).toArray = ls at hl ⊢
  have hl : lv_has ls 1 [(0, .ref mo)] := hl
  have hP : va_P D vwCl [(mo, .inr (8, [.ref ms, .int sv, .ref mb, .int (nI ty), .int th, .ref mk, .int ml, .ref mfd, .int mf, .int (nI i), .int on, .int tw])), (mb, .inl (KC, 60, .inl bf))] s.heap := hP
  have hKc : (100 : Int32) = 100 ∨ (100 : Int32) = 98 := by decide
  refine lv_aload_n hx hb dX8_readsPeriods_0 rfl (lv_at hl 0 rfl) ?_
  refine lv_aload_n hx hb dX8_readsPeriods_1 rfl (lv_at hl 0 rfl) ?_
  refine lv_iconst (v := 1) hx hb dX8_readsPeriods_2 (by decide) ?_
  refine lv_bipush (v := 50) hx hb dX8_readsPeriods_3 (by decide) ?_
  have ct := k_cut_of (wc := [(mo, .inr (8, [.ref ms, .int sv, .ref mb, .int (nI ty), .int th, .ref mk, .int ml, .ref mfd, .int mf, .int (nI i), .int on, .int tw])), (mb, .inl (KC, 60, .inl bf))]) (wr := []) (tc := [(KC, .char)]) hG hS hA hK hP hD [0, 1] [] [0] rfl rfl (by decide) (by decide) (by decide) rfl
  refine k_endi (As := [.ref mo, .int 1, .int 50]) ct (k_runV (As := [.int 1, .int 50]) (rest := [.ref mo]) S0 Lv_X8_163 rfl (ci := 8) (q0 := 0) rfl rfl ct (c_M_reads50 l D mo ms sv mb ty th mk ml mfd mf i on tw KC bf tx (by assumption) (by first | assumption | omega) (by first | assumption | omega) s.heap.size) hl.1 rfl (Nat.le_of_ble_eq_true rfl) rfl dX8_readsPeriods_5 ⟨⟨Nat.le_of_ble_eq_true rfl, Nat.le_of_ble_eq_true rfl⟩, Nat.le_of_ble_eq_true rfl, Nat.le_of_ble_eq_true rfl⟩) rfl rfl (fun vx jx H locs hw_1 hP hD hK hS => ?_)
  have hK : va_K D vwCl [(KC, .char)] s := hK
  have hP : va_P D vwCl [(mo, .inr (8, [.ref ms, .int sv, .ref mb, .int (nI ty), .int th, .ref mk, .int ml, .ref mfd, .int mf, .int (nI jx), .int on, .int tw])), (mb, .inl (KC, 60, .inl bf))] H := hP
  have hD : va_D A [(mo, .inr (8, [.ref ms, .int sv, .ref mb, .int (nI ty), .int th, .ref mk, .int ml, .ref mfd, .int mf, .int (nI jx), .int on, .int tw])), (mb, .inl (KC, 60, .inl bf))] := hD
  have hw_1 : NR tx ty 49 50 i vx jx := hw_1
  have hjx := NR_le hw_1 hit
  refine va_put (D := D) (ci := 8) (v := .int vx) (ty := .int) (C := RX8) (T := TX8) (N := 12) hx hb ht inA_X8 tyX8 tyX8_ok nmX8 hown hK hP hD hS 0 rfl rfl 10 (by decide) (ht _ lf_X8_157) (fun _ h9 => h9) rfl (tyX8_ok 10 (by decide)) rfl rfl (Nat.le_of_ble_eq_true rfl) dX8_readsPeriods_8 (fun H locs hP hD hS => ?_)
  have hP : va_P D vwCl [(mo, .inr (8, [.ref ms, .int sv, .ref mb, .int (nI ty), .int th, .ref mk, .int ml, .ref mfd, .int mf, .int (nI jx), .int vx, .int tw])), (mb, .inl (KC, 60, .inl bf))] H := hP
  have hD : va_D A [(mo, .inr (8, [.ref ms, .int sv, .ref mb, .int (nI ty), .int th, .ref mk, .int ml, .ref mfd, .int mf, .int (nI jx), .int vx, .int tw])), (mb, .inl (KC, 60, .inl bf))] := hD
  refine lv_aload_n hx hb dX8_readsPeriods_11 rfl (lv_at hl 0 rfl) ?_
  refine lv_aload_n hx hb dX8_readsPeriods_12 rfl (lv_at hl 0 rfl) ?_
  refine va_get (D := D) (ci := 8) (v := .int vx) (C := RX8) (T := TX8) (N := 12) hx hb ht inA_X8 hown hK hP 0 rfl rfl 10 (by decide) (ht _ lf_X8_157) (fun _ h9 => h9) rfl dX8_readsPeriods_13 ?_
  refine lv_iconst (v := (-1)) hx hb dX8_readsPeriods_16 (by decide) ?_
  refine lv_icmp_eq (tgt := 39) hx hb dX8_readsPeriods_17 (by decide) (fun c_2 => ?_) (fun c_2 => ?_)
  · have hc9 := c_2
    refine lv_iconst (v := (-1)) hx hb dX8_readsPeriods_39 (by decide) ?_
    refine va_put (D := D) (ci := 8) (v := .int (-1)) (ty := .int) (C := RX8) (T := TX8) (N := 12) hx hb ht inA_X8 tyX8 tyX8_ok nmX8 hown hK hP hD hS 0 rfl rfl 11 (by decide) (ht _ lf_X8_160) (fun _ h9 => h9) rfl (tyX8_ok 11 (by decide)) rfl rfl (Nat.le_of_ble_eq_true rfl) dX8_readsPeriods_40 (fun H locs hP hD hS => ?_)
    have hP : va_P D vwCl [(mo, .inr (8, [.ref ms, .int sv, .ref mb, .int (nI ty), .int th, .ref mk, .int ml, .ref mfd, .int mf, .int (nI jx), .int vx, .int (-1)])), (mb, .inl (KC, 60, .inl bf))] H := hP
    have hD : va_D A [(mo, .inr (8, [.ref ms, .int sv, .ref mb, .int (nI ty), .int th, .ref mk, .int ml, .ref mfd, .int mf, .int (nI jx), .int vx, .int (-1)])), (mb, .inl (KC, 60, .inl bf))] := hD
    refine lv_aload_n hx hb dX8_readsPeriods_43 rfl (lv_at hl 0 rfl) ?_
    refine va_get (D := D) (ci := 8) (v := .int (-1)) (C := RX8) (T := TX8) (N := 12) hx hb ht inA_X8 hown hK hP 0 rfl rfl 11 (by decide) (ht _ lf_X8_160) (fun _ h9 => h9) rfl dX8_readsPeriods_44 ?_
    refine lv_iconst (v := (-1)) hx hb dX8_readsPeriods_47 (by decide) ?_
    refine lv_icmp_eq (tgt := 55) hx hb dX8_readsPeriods_48 (by decide) (fun _ => ?_) (fun c9 => absurd (by decide) c9)
    refine lv_iconst (v := 0) hx hb dX8_readsPeriods_55 (by decide) ?_
    have hP9 : va_P D vwCl [(mo, .inr (8, [.ref ms, .int sv, .ref mb, .int (nI ty), .int th, .ref mk, .int ml, .ref mfd, .int mf, .int (nI jx), .int vx, .int (-1)])), (mb, .inl (KC, 60, .inl bf))] H := hP.sub [0, 1] rfl
    have hD9 : va_D A [(mo, .inr (8, [.ref ms, .int sv, .ref mb, .int (nI ty), .int th, .ref mk, .int ml, .ref mfd, .int mf, .int (nI jx), .int vx, .int (-1)])), (mb, .inl (KC, 60, .inl bf))] := hD.sub [0, 1] (by decide) rfl
    have hK9 : va_K D vwCl [] s := hK.sub [] rfl
    exact W.zret (v := 0) hx hb hr (rfl) (fun t ht9 hW9 => ⟨⟨0, (jx, vx, (-1)), rfl, by (exact per_f1 hKc hw_1 hit c_2), ⟨by rw [ht9]; exact hP9, va_K.moved hW9.alike hK9, hD9⟩⟩, hS.F ht9⟩) hS.2.2 dX8_readsPeriods_56
  · have hc9 := c_2
    refine lv_aload_n hx hb dX8_readsPeriods_20 rfl (lv_at hl 0 rfl) ?_
    refine lv_bipush (v := 44) hx hb dX8_readsPeriods_21 (by decide) ?_
    have ct := k_cut_of (wc := [(mo, .inr (8, [.ref ms, .int sv, .ref mb, .int (nI ty), .int th, .ref mk, .int ml, .ref mfd, .int mf, .int (nI jx), .int vx, .int tw])), (mb, .inl (KC, 60, .inl bf))]) (wr := []) (tc := [(KC, .char)]) hG hS hA hK hP hD [0, 1] [] [0] rfl rfl (by decide) (by decide) (by decide) rfl
    refine k_endi (As := [.ref mo, .int 44]) ct (k_runV (As := [.int 44]) (rest := [.ref mo]) S0 Lv_X8_165 rfl (ci := 8) (q0 := 0) rfl rfl ct (c_M_takes l D mo ms sv mb ty th mk ml mfd mf jx vx tw KC bf tx 44 (by assumption) (by first | assumption | omega) (by first | assumption | omega) H.size) hl.1 rfl (Nat.le_of_ble_eq_true rfl) rfl dX8_readsPeriods_23 ⟨⟨Nat.le_of_ble_eq_true rfl, Nat.le_of_ble_eq_true rfl⟩, Nat.le_of_ble_eq_true rfl, Nat.le_of_ble_eq_true rfl⟩) rfl rfl (fun r_3 sp1v_4 H locs hw_5 hP hD hK hS => ?_)
    have hK : va_K D vwCl [(KC, .char)] s := hK
    have hP : va_P D vwCl [(mo, .inr (8, [.ref ms, .int sv, .ref mb, .int (nI ty), .int th, .ref mk, .int ml, .ref mfd, .int mf, .int (nI sp1v_4), .int vx, .int tw])), (mb, .inl (KC, 60, .inl bf))] H := hP
    have hD : va_D A [(mo, .inr (8, [.ref ms, .int sv, .ref mb, .int (nI ty), .int th, .ref mk, .int ml, .ref mfd, .int mf, .int (nI sp1v_4), .int vx, .int tw])), (mb, .inl (KC, 60, .inl bf))] := hD
    rcases hw_5 with ⟨rfl, rfl, c_6, c_7⟩ | ⟨rfl, he_8, c_9⟩
    · skip
      refine lv_if_eq (tgt := 39) hx hb dX8_readsPeriods_26 (by decide) (fun c9 => absurd c9 (by decide)) (fun _ => ?_)
      refine lv_aload_n hx hb dX8_readsPeriods_29 rfl (lv_at hl 0 rfl) ?_
      refine lv_iconst (v := 1) hx hb dX8_readsPeriods_30 (by decide) ?_
      refine lv_bipush (v := 50) hx hb dX8_readsPeriods_31 (by decide) ?_
      have ct := k_cut_of (wc := [(mo, .inr (8, [.ref ms, .int sv, .ref mb, .int (nI ty), .int th, .ref mk, .int ml, .ref mfd, .int mf, .int (nI (jx + 1)), .int vx, .int tw])), (mb, .inl (KC, 60, .inl bf))]) (wr := []) (tc := [(KC, .char)]) hG hS hA hK hP hD [0, 1] [] [0] rfl rfl (by decide) (by decide) (by decide) rfl
      refine k_endi (As := [.ref mo, .int 1, .int 50]) ct (k_runV (As := [.int 1, .int 50]) (rest := [.ref mo]) S0 Lv_X8_163 rfl (ci := 8) (q0 := 0) rfl rfl ct (c_M_reads50 l D mo ms sv mb ty th mk ml mfd mf (jx + 1) vx tw KC bf tx (by assumption) (by first | assumption | omega) (by first | assumption | omega) H.size) hl.1 rfl (Nat.le_of_ble_eq_true rfl) rfl dX8_readsPeriods_33 ⟨⟨Nat.le_of_ble_eq_true rfl, Nat.le_of_ble_eq_true rfl⟩, Nat.le_of_ble_eq_true rfl, Nat.le_of_ble_eq_true rfl⟩) rfl rfl (fun vy jy H locs hw_10 hP hD hK hS => ?_)
      have hK : va_K D vwCl [(KC, .char)] s := hK
      have hP : va_P D vwCl [(mo, .inr (8, [.ref ms, .int sv, .ref mb, .int (nI ty), .int th, .ref mk, .int ml, .ref mfd, .int mf, .int (nI jy), .int vx, .int tw])), (mb, .inl (KC, 60, .inl bf))] H := hP
      have hD : va_D A [(mo, .inr (8, [.ref ms, .int sv, .ref mb, .int (nI ty), .int th, .ref mk, .int ml, .ref mfd, .int mf, .int (nI jy), .int vx, .int tw])), (mb, .inl (KC, 60, .inl bf))] := hD
      have hw_10 : NR tx ty 49 50 (jx + 1) vy jy := hw_10
      refine lv_goto (tgt := 40) hx hb dX8_readsPeriods_36 (by decide) ?_
      refine va_put (D := D) (ci := 8) (v := .int vy) (ty := .int) (C := RX8) (T := TX8) (N := 12) hx hb ht inA_X8 tyX8 tyX8_ok nmX8 hown hK hP hD hS 0 rfl rfl 11 (by decide) (ht _ lf_X8_160) (fun _ h9 => h9) rfl (tyX8_ok 11 (by decide)) rfl rfl (Nat.le_of_ble_eq_true rfl) dX8_readsPeriods_40 (fun H locs hP hD hS => ?_)
      have hP : va_P D vwCl [(mo, .inr (8, [.ref ms, .int sv, .ref mb, .int (nI ty), .int th, .ref mk, .int ml, .ref mfd, .int mf, .int (nI jy), .int vx, .int vy])), (mb, .inl (KC, 60, .inl bf))] H := hP
      have hD : va_D A [(mo, .inr (8, [.ref ms, .int sv, .ref mb, .int (nI ty), .int th, .ref mk, .int ml, .ref mfd, .int mf, .int (nI jy), .int vx, .int vy])), (mb, .inl (KC, 60, .inl bf))] := hD
      refine lv_aload_n hx hb dX8_readsPeriods_43 rfl (lv_at hl 0 rfl) ?_
      refine va_get (D := D) (ci := 8) (v := .int vy) (C := RX8) (T := TX8) (N := 12) hx hb ht inA_X8 hown hK hP 0 rfl rfl 11 (by decide) (ht _ lf_X8_160) (fun _ h9 => h9) rfl dX8_readsPeriods_44 ?_
      refine lv_iconst (v := (-1)) hx hb dX8_readsPeriods_47 (by decide) ?_
      refine lv_icmp_eq (tgt := 55) hx hb dX8_readsPeriods_48 (by decide) (fun c_11 => ?_) (fun c_11 => ?_)
      · have hc9 := c_11
        refine lv_iconst (v := 0) hx hb dX8_readsPeriods_55 (by decide) ?_
        have hP9 : va_P D vwCl [(mo, .inr (8, [.ref ms, .int sv, .ref mb, .int (nI ty), .int th, .ref mk, .int ml, .ref mfd, .int mf, .int (nI jy), .int vx, .int vy])), (mb, .inl (KC, 60, .inl bf))] H := hP.sub [0, 1] rfl
        have hD9 : va_D A [(mo, .inr (8, [.ref ms, .int sv, .ref mb, .int (nI ty), .int th, .ref mk, .int ml, .ref mfd, .int mf, .int (nI jy), .int vx, .int vy])), (mb, .inl (KC, 60, .inl bf))] := hD.sub [0, 1] (by decide) rfl
        have hK9 : va_K D vwCl [] s := hK.sub [] rfl
        exact W.zret (v := 0) hx hb hr (rfl) (fun t ht9 hW9 => ⟨⟨0, (jy, vx, vy), rfl, by (exact per_f3 hKc hw_1 hit c_2 c_6 c_7 hw_10 c_11), ⟨by rw [ht9]; exact hP9, va_K.moved hW9.alike hK9, hD9⟩⟩, hS.F ht9⟩) hS.2.2 dX8_readsPeriods_56
      · have hc9 := c_11
        refine lv_iconst (v := 1) hx hb dX8_readsPeriods_51 (by decide) ?_
        refine lv_goto (tgt := 56) hx hb dX8_readsPeriods_52 (by decide) ?_
        have hP9 : va_P D vwCl [(mo, .inr (8, [.ref ms, .int sv, .ref mb, .int (nI ty), .int th, .ref mk, .int ml, .ref mfd, .int mf, .int (nI jy), .int vx, .int vy])), (mb, .inl (KC, 60, .inl bf))] H := hP.sub [0, 1] rfl
        have hD9 : va_D A [(mo, .inr (8, [.ref ms, .int sv, .ref mb, .int (nI ty), .int th, .ref mk, .int ml, .ref mfd, .int mf, .int (nI jy), .int vx, .int vy])), (mb, .inl (KC, 60, .inl bf))] := hD.sub [0, 1] (by decide) rfl
        have hK9 : va_K D vwCl [] s := hK.sub [] rfl
        exact W.zret (v := 1) hx hb hr (rfl) (fun t ht9 hW9 => ⟨⟨1, (jy, vx, vy), rfl, by (exact per_y hKc hw_1 hit c_2 c_6 c_7 hw_10 c_11), ⟨by rw [ht9]; exact hP9, va_K.moved hW9.alike hK9, hD9⟩⟩, hS.F ht9⟩) hS.2.2 dX8_readsPeriods_56
    · skip
      have he_8 := he_8.symm
      subst he_8
      refine lv_if_eq (tgt := 39) hx hb dX8_readsPeriods_26 (by decide) (fun _ => ?_) (fun c9 => absurd (by decide) c9)
      refine lv_iconst (v := (-1)) hx hb dX8_readsPeriods_39 (by decide) ?_
      refine va_put (D := D) (ci := 8) (v := .int (-1)) (ty := .int) (C := RX8) (T := TX8) (N := 12) hx hb ht inA_X8 tyX8 tyX8_ok nmX8 hown hK hP hD hS 0 rfl rfl 11 (by decide) (ht _ lf_X8_160) (fun _ h9 => h9) rfl (tyX8_ok 11 (by decide)) rfl rfl (Nat.le_of_ble_eq_true rfl) dX8_readsPeriods_40 (fun H locs hP hD hS => ?_)
      have hP : va_P D vwCl [(mo, .inr (8, [.ref ms, .int sv, .ref mb, .int (nI ty), .int th, .ref mk, .int ml, .ref mfd, .int mf, .int (nI jx), .int vx, .int (-1)])), (mb, .inl (KC, 60, .inl bf))] H := hP
      have hD : va_D A [(mo, .inr (8, [.ref ms, .int sv, .ref mb, .int (nI ty), .int th, .ref mk, .int ml, .ref mfd, .int mf, .int (nI jx), .int vx, .int (-1)])), (mb, .inl (KC, 60, .inl bf))] := hD
      refine lv_aload_n hx hb dX8_readsPeriods_43 rfl (lv_at hl 0 rfl) ?_
      refine va_get (D := D) (ci := 8) (v := .int (-1)) (C := RX8) (T := TX8) (N := 12) hx hb ht inA_X8 hown hK hP 0 rfl rfl 11 (by decide) (ht _ lf_X8_160) (fun _ h9 => h9) rfl dX8_readsPeriods_44 ?_
      refine lv_iconst (v := (-1)) hx hb dX8_readsPeriods_47 (by decide) ?_
      refine lv_icmp_eq (tgt := 55) hx hb dX8_readsPeriods_48 (by decide) (fun _ => ?_) (fun c9 => absurd (by decide) c9)
      refine lv_iconst (v := 0) hx hb dX8_readsPeriods_55 (by decide) ?_
      have hP9 : va_P D vwCl [(mo, .inr (8, [.ref ms, .int sv, .ref mb, .int (nI ty), .int th, .ref mk, .int ml, .ref mfd, .int mf, .int (nI jx), .int vx, .int (-1)])), (mb, .inl (KC, 60, .inl bf))] H := hP.sub [0, 1] rfl
      have hD9 : va_D A [(mo, .inr (8, [.ref ms, .int sv, .ref mb, .int (nI ty), .int th, .ref mk, .int ml, .ref mfd, .int mf, .int (nI jx), .int vx, .int (-1)])), (mb, .inl (KC, 60, .inl bf))] := hD.sub [0, 1] (by decide) rfl
      have hK9 : va_K D vwCl [] s := hK.sub [] rfl
      exact W.zret (v := 0) hx hb hr (rfl) (fun t ht9 hW9 => ⟨⟨0, (jx, vx, (-1)), rfl, by (exact per_f2 (okL_1 hKc 1) (l := 1) (g := 50) rfl rfl (by rfl) hw_1 hit c_2 c_9), ⟨by rw [ht9]; exact hP9, va_K.moved hW9.alike hK9, hD9⟩⟩, hS.F ht9⟩) hS.2.2 dX8_readsPeriods_56
set_option maxHeartbeats 4000000 in
set_option maxRecDepth 100000 in
theorem c_M_readsPer98 (l : Launch) (D : va_G) (mo : Nat) (ms : Nat) (sv : Int32) (mb : Nat) (ty : Nat) (th : Int32) (mk : Nat) (ml : Int32) (mfd : Nat) (mf : Int32) (i : Nat) (on : Int32) (tw : Int32) (KC : ClassId) (bf : Nat → Int32) (tx : Nat → Int32) (hcf : ∀ j9, j9 < ty → bf j9 = tx j9) (hty : ty ≤ 60) (hit : i ≤ ty) (sz : Nat) : k_Mi (S := Nat × Int32 × Int32) l D yX8_readsPeriods cX8_readsPeriods 1 (some .boolean) 3 0 0 68 [.ref mo] [(mo, .inr (8, [.ref ms, .int sv, .ref mb, .int (nI ty), .int th, .ref mk, .int ml, .ref mfd, .int mf, .int (nI i), .int on, .int tw])), (mb, .inl (KC, 60, .inl bf))] [(KC, .char)] (fun (r : Int32) (u : Nat × Int32 × Int32) => match u with | (sp1, on1, tw1) => PSR tx ty 98 i r sp1 on1 tw1) (fun u => match u with | (sp1, on1, tw1) => [(mo, .inr (8, [.ref ms, .int sv, .ref mb, .int (nI ty), .int th, .ref mk, .int ml, .ref mfd, .int mf, .int (nI sp1), .int on1, .int tw1])), (mb, .inl (KC, 60, .inl bf))]) (fun u => match u with | (sp1, on1, tw1) => []) sz := by
  refine Met.ofW (cc := cX8_readsPeriods) (maxL := 1) (ret := (some .boolean)) (by decide) rfl ?_
  intro p e s m args below meth c s₁ B hml hv
  obtain ⟨rfl, hsz, hP, hK, hD0, hG⟩ := hv
  have hx := B.exec
  have hb := B.bytes
  have hr := B.returns
  have ht : ∀ v9 ∈ wsA, v9.before ([.ref mo] : List Value).toArray s = true := fun v9 h9 => atoms_spec (ws := k_ws yX8_readsPeriods cX8_readsPeriods 1 (some .boolean)) B.pre v9 (List.mem_cons_of_mem _ h9)
  have hown : s.vm.findClass RX8 = some m.cls := findClass_of_methodNamed B.named
  have S0 : k_C p s m ([.ref mo] : List Value).toArray c cX8_readsPeriods 1 RX8 := ⟨hx, hb, hml, hown, ht⟩
  have hlocks := B.notSynchronized
  subst hsz
  have hD := hD0.self (sz := s.heap.size)
  generalize hAe : va_A [(mo, .inr (8, [.ref ms, .int sv, .ref mb, .int (nI ty), .int th, .ref mk, .int ml, .ref mfd, .int mf, .int (nI i), .int on, .int tw])), (mb, .inl (KC, 60, .inl bf))] s.heap.size = A at hD hG ⊢
  have hA : ∀ q : Nat, s.heap.size ≤ q → A q := fun q h => by rw [← hAe]; exact Or.inr h
  have hS : va_S A s.heap s.heap [] := va_S.rf
  have hl := lv_entry ([.ref mo]) (n := 1) (Nat.le_of_ble_eq_true rfl)
  rw [lg_entry_eq]
  generalize (lg_sl ([.ref mo]) ++ List.replicate (1 - (lg_sl ([.ref mo])).length) Slot.unset).toArray = ls at hl ⊢
  have hl : lv_has ls 1 [(0, .ref mo)] := hl
  have hP : va_P D vwCl [(mo, .inr (8, [.ref ms, .int sv, .ref mb, .int (nI ty), .int th, .ref mk, .int ml, .ref mfd, .int mf, .int (nI i), .int on, .int tw])), (mb, .inl (KC, 60, .inl bf))] s.heap := hP
  have hKc : (98 : Int32) = 100 ∨ (98 : Int32) = 98 := by decide
  refine lv_aload_n hx hb dX8_readsPeriods_0 rfl (lv_at hl 0 rfl) ?_
  refine lv_aload_n hx hb dX8_readsPeriods_1 rfl (lv_at hl 0 rfl) ?_
  refine lv_iconst (v := 1) hx hb dX8_readsPeriods_2 (by decide) ?_
  refine lv_bipush (v := 50) hx hb dX8_readsPeriods_3 (by decide) ?_
  have ct := k_cut_of (wc := [(mo, .inr (8, [.ref ms, .int sv, .ref mb, .int (nI ty), .int th, .ref mk, .int ml, .ref mfd, .int mf, .int (nI i), .int on, .int tw])), (mb, .inl (KC, 60, .inl bf))]) (wr := []) (tc := [(KC, .char)]) hG hS hA hK hP hD [0, 1] [] [0] rfl rfl (by decide) (by decide) (by decide) rfl
  refine k_endi (As := [.ref mo, .int 1, .int 50]) ct (k_runV (As := [.int 1, .int 50]) (rest := [.ref mo]) S0 Lv_X8_163 rfl (ci := 8) (q0 := 0) rfl rfl ct (c_M_reads50 l D mo ms sv mb ty th mk ml mfd mf i on tw KC bf tx (by assumption) (by first | assumption | omega) (by first | assumption | omega) s.heap.size) hl.1 rfl (Nat.le_of_ble_eq_true rfl) rfl dX8_readsPeriods_5 ⟨⟨Nat.le_of_ble_eq_true rfl, Nat.le_of_ble_eq_true rfl⟩, Nat.le_of_ble_eq_true rfl, Nat.le_of_ble_eq_true rfl⟩) rfl rfl (fun vx jx H locs hw_1 hP hD hK hS => ?_)
  have hK : va_K D vwCl [(KC, .char)] s := hK
  have hP : va_P D vwCl [(mo, .inr (8, [.ref ms, .int sv, .ref mb, .int (nI ty), .int th, .ref mk, .int ml, .ref mfd, .int mf, .int (nI jx), .int on, .int tw])), (mb, .inl (KC, 60, .inl bf))] H := hP
  have hD : va_D A [(mo, .inr (8, [.ref ms, .int sv, .ref mb, .int (nI ty), .int th, .ref mk, .int ml, .ref mfd, .int mf, .int (nI jx), .int on, .int tw])), (mb, .inl (KC, 60, .inl bf))] := hD
  have hw_1 : NR tx ty 49 50 i vx jx := hw_1
  have hjx := NR_le hw_1 hit
  refine va_put (D := D) (ci := 8) (v := .int vx) (ty := .int) (C := RX8) (T := TX8) (N := 12) hx hb ht inA_X8 tyX8 tyX8_ok nmX8 hown hK hP hD hS 0 rfl rfl 10 (by decide) (ht _ lf_X8_157) (fun _ h9 => h9) rfl (tyX8_ok 10 (by decide)) rfl rfl (Nat.le_of_ble_eq_true rfl) dX8_readsPeriods_8 (fun H locs hP hD hS => ?_)
  have hP : va_P D vwCl [(mo, .inr (8, [.ref ms, .int sv, .ref mb, .int (nI ty), .int th, .ref mk, .int ml, .ref mfd, .int mf, .int (nI jx), .int vx, .int tw])), (mb, .inl (KC, 60, .inl bf))] H := hP
  have hD : va_D A [(mo, .inr (8, [.ref ms, .int sv, .ref mb, .int (nI ty), .int th, .ref mk, .int ml, .ref mfd, .int mf, .int (nI jx), .int vx, .int tw])), (mb, .inl (KC, 60, .inl bf))] := hD
  refine lv_aload_n hx hb dX8_readsPeriods_11 rfl (lv_at hl 0 rfl) ?_
  refine lv_aload_n hx hb dX8_readsPeriods_12 rfl (lv_at hl 0 rfl) ?_
  refine va_get (D := D) (ci := 8) (v := .int vx) (C := RX8) (T := TX8) (N := 12) hx hb ht inA_X8 hown hK hP 0 rfl rfl 10 (by decide) (ht _ lf_X8_157) (fun _ h9 => h9) rfl dX8_readsPeriods_13 ?_
  refine lv_iconst (v := (-1)) hx hb dX8_readsPeriods_16 (by decide) ?_
  refine lv_icmp_eq (tgt := 39) hx hb dX8_readsPeriods_17 (by decide) (fun c_2 => ?_) (fun c_2 => ?_)
  · have hc9 := c_2
    refine lv_iconst (v := (-1)) hx hb dX8_readsPeriods_39 (by decide) ?_
    refine va_put (D := D) (ci := 8) (v := .int (-1)) (ty := .int) (C := RX8) (T := TX8) (N := 12) hx hb ht inA_X8 tyX8 tyX8_ok nmX8 hown hK hP hD hS 0 rfl rfl 11 (by decide) (ht _ lf_X8_160) (fun _ h9 => h9) rfl (tyX8_ok 11 (by decide)) rfl rfl (Nat.le_of_ble_eq_true rfl) dX8_readsPeriods_40 (fun H locs hP hD hS => ?_)
    have hP : va_P D vwCl [(mo, .inr (8, [.ref ms, .int sv, .ref mb, .int (nI ty), .int th, .ref mk, .int ml, .ref mfd, .int mf, .int (nI jx), .int vx, .int (-1)])), (mb, .inl (KC, 60, .inl bf))] H := hP
    have hD : va_D A [(mo, .inr (8, [.ref ms, .int sv, .ref mb, .int (nI ty), .int th, .ref mk, .int ml, .ref mfd, .int mf, .int (nI jx), .int vx, .int (-1)])), (mb, .inl (KC, 60, .inl bf))] := hD
    refine lv_aload_n hx hb dX8_readsPeriods_43 rfl (lv_at hl 0 rfl) ?_
    refine va_get (D := D) (ci := 8) (v := .int (-1)) (C := RX8) (T := TX8) (N := 12) hx hb ht inA_X8 hown hK hP 0 rfl rfl 11 (by decide) (ht _ lf_X8_160) (fun _ h9 => h9) rfl dX8_readsPeriods_44 ?_
    refine lv_iconst (v := (-1)) hx hb dX8_readsPeriods_47 (by decide) ?_
    refine lv_icmp_eq (tgt := 55) hx hb dX8_readsPeriods_48 (by decide) (fun _ => ?_) (fun c9 => absurd (by decide) c9)
    refine lv_iconst (v := 0) hx hb dX8_readsPeriods_55 (by decide) ?_
    have hP9 : va_P D vwCl [(mo, .inr (8, [.ref ms, .int sv, .ref mb, .int (nI ty), .int th, .ref mk, .int ml, .ref mfd, .int mf, .int (nI jx), .int vx, .int (-1)])), (mb, .inl (KC, 60, .inl bf))] H := hP.sub [0, 1] rfl
    have hD9 : va_D A [(mo, .inr (8, [.ref ms, .int sv, .ref mb, .int (nI ty), .int th, .ref mk, .int ml, .ref mfd, .int mf, .int (nI jx), .int vx, .int (-1)])), (mb, .inl (KC, 60, .inl bf))] := hD.sub [0, 1] (by decide) rfl
    have hK9 : va_K D vwCl [] s := hK.sub [] rfl
    exact W.zret (v := 0) hx hb hr (rfl) (fun t ht9 hW9 => ⟨⟨0, (jx, vx, (-1)), rfl, by (exact per_f1 hKc hw_1 hit c_2), ⟨by rw [ht9]; exact hP9, va_K.moved hW9.alike hK9, hD9⟩⟩, hS.F ht9⟩) hS.2.2 dX8_readsPeriods_56
  · have hc9 := c_2
    refine lv_aload_n hx hb dX8_readsPeriods_20 rfl (lv_at hl 0 rfl) ?_
    refine lv_bipush (v := 44) hx hb dX8_readsPeriods_21 (by decide) ?_
    have ct := k_cut_of (wc := [(mo, .inr (8, [.ref ms, .int sv, .ref mb, .int (nI ty), .int th, .ref mk, .int ml, .ref mfd, .int mf, .int (nI jx), .int vx, .int tw])), (mb, .inl (KC, 60, .inl bf))]) (wr := []) (tc := [(KC, .char)]) hG hS hA hK hP hD [0, 1] [] [0] rfl rfl (by decide) (by decide) (by decide) rfl
    refine k_endi (As := [.ref mo, .int 44]) ct (k_runV (As := [.int 44]) (rest := [.ref mo]) S0 Lv_X8_165 rfl (ci := 8) (q0 := 0) rfl rfl ct (c_M_takes l D mo ms sv mb ty th mk ml mfd mf jx vx tw KC bf tx 44 (by assumption) (by first | assumption | omega) (by first | assumption | omega) H.size) hl.1 rfl (Nat.le_of_ble_eq_true rfl) rfl dX8_readsPeriods_23 ⟨⟨Nat.le_of_ble_eq_true rfl, Nat.le_of_ble_eq_true rfl⟩, Nat.le_of_ble_eq_true rfl, Nat.le_of_ble_eq_true rfl⟩) rfl rfl (fun r_3 sp1v_4 H locs hw_5 hP hD hK hS => ?_)
    have hK : va_K D vwCl [(KC, .char)] s := hK
    have hP : va_P D vwCl [(mo, .inr (8, [.ref ms, .int sv, .ref mb, .int (nI ty), .int th, .ref mk, .int ml, .ref mfd, .int mf, .int (nI sp1v_4), .int vx, .int tw])), (mb, .inl (KC, 60, .inl bf))] H := hP
    have hD : va_D A [(mo, .inr (8, [.ref ms, .int sv, .ref mb, .int (nI ty), .int th, .ref mk, .int ml, .ref mfd, .int mf, .int (nI sp1v_4), .int vx, .int tw])), (mb, .inl (KC, 60, .inl bf))] := hD
    rcases hw_5 with ⟨rfl, rfl, c_6, c_7⟩ | ⟨rfl, he_8, c_9⟩
    · skip
      refine lv_if_eq (tgt := 39) hx hb dX8_readsPeriods_26 (by decide) (fun c9 => absurd c9 (by decide)) (fun _ => ?_)
      refine lv_aload_n hx hb dX8_readsPeriods_29 rfl (lv_at hl 0 rfl) ?_
      refine lv_iconst (v := 1) hx hb dX8_readsPeriods_30 (by decide) ?_
      refine lv_bipush (v := 50) hx hb dX8_readsPeriods_31 (by decide) ?_
      have ct := k_cut_of (wc := [(mo, .inr (8, [.ref ms, .int sv, .ref mb, .int (nI ty), .int th, .ref mk, .int ml, .ref mfd, .int mf, .int (nI (jx + 1)), .int vx, .int tw])), (mb, .inl (KC, 60, .inl bf))]) (wr := []) (tc := [(KC, .char)]) hG hS hA hK hP hD [0, 1] [] [0] rfl rfl (by decide) (by decide) (by decide) rfl
      refine k_endi (As := [.ref mo, .int 1, .int 50]) ct (k_runV (As := [.int 1, .int 50]) (rest := [.ref mo]) S0 Lv_X8_163 rfl (ci := 8) (q0 := 0) rfl rfl ct (c_M_reads50 l D mo ms sv mb ty th mk ml mfd mf (jx + 1) vx tw KC bf tx (by assumption) (by first | assumption | omega) (by first | assumption | omega) H.size) hl.1 rfl (Nat.le_of_ble_eq_true rfl) rfl dX8_readsPeriods_33 ⟨⟨Nat.le_of_ble_eq_true rfl, Nat.le_of_ble_eq_true rfl⟩, Nat.le_of_ble_eq_true rfl, Nat.le_of_ble_eq_true rfl⟩) rfl rfl (fun vy jy H locs hw_10 hP hD hK hS => ?_)
      have hK : va_K D vwCl [(KC, .char)] s := hK
      have hP : va_P D vwCl [(mo, .inr (8, [.ref ms, .int sv, .ref mb, .int (nI ty), .int th, .ref mk, .int ml, .ref mfd, .int mf, .int (nI jy), .int vx, .int tw])), (mb, .inl (KC, 60, .inl bf))] H := hP
      have hD : va_D A [(mo, .inr (8, [.ref ms, .int sv, .ref mb, .int (nI ty), .int th, .ref mk, .int ml, .ref mfd, .int mf, .int (nI jy), .int vx, .int tw])), (mb, .inl (KC, 60, .inl bf))] := hD
      have hw_10 : NR tx ty 49 50 (jx + 1) vy jy := hw_10
      refine lv_goto (tgt := 40) hx hb dX8_readsPeriods_36 (by decide) ?_
      refine va_put (D := D) (ci := 8) (v := .int vy) (ty := .int) (C := RX8) (T := TX8) (N := 12) hx hb ht inA_X8 tyX8 tyX8_ok nmX8 hown hK hP hD hS 0 rfl rfl 11 (by decide) (ht _ lf_X8_160) (fun _ h9 => h9) rfl (tyX8_ok 11 (by decide)) rfl rfl (Nat.le_of_ble_eq_true rfl) dX8_readsPeriods_40 (fun H locs hP hD hS => ?_)
      have hP : va_P D vwCl [(mo, .inr (8, [.ref ms, .int sv, .ref mb, .int (nI ty), .int th, .ref mk, .int ml, .ref mfd, .int mf, .int (nI jy), .int vx, .int vy])), (mb, .inl (KC, 60, .inl bf))] H := hP
      have hD : va_D A [(mo, .inr (8, [.ref ms, .int sv, .ref mb, .int (nI ty), .int th, .ref mk, .int ml, .ref mfd, .int mf, .int (nI jy), .int vx, .int vy])), (mb, .inl (KC, 60, .inl bf))] := hD
      refine lv_aload_n hx hb dX8_readsPeriods_43 rfl (lv_at hl 0 rfl) ?_
      refine va_get (D := D) (ci := 8) (v := .int vy) (C := RX8) (T := TX8) (N := 12) hx hb ht inA_X8 hown hK hP 0 rfl rfl 11 (by decide) (ht _ lf_X8_160) (fun _ h9 => h9) rfl dX8_readsPeriods_44 ?_
      refine lv_iconst (v := (-1)) hx hb dX8_readsPeriods_47 (by decide) ?_
      refine lv_icmp_eq (tgt := 55) hx hb dX8_readsPeriods_48 (by decide) (fun c_11 => ?_) (fun c_11 => ?_)
      · have hc9 := c_11
        refine lv_iconst (v := 0) hx hb dX8_readsPeriods_55 (by decide) ?_
        have hP9 : va_P D vwCl [(mo, .inr (8, [.ref ms, .int sv, .ref mb, .int (nI ty), .int th, .ref mk, .int ml, .ref mfd, .int mf, .int (nI jy), .int vx, .int vy])), (mb, .inl (KC, 60, .inl bf))] H := hP.sub [0, 1] rfl
        have hD9 : va_D A [(mo, .inr (8, [.ref ms, .int sv, .ref mb, .int (nI ty), .int th, .ref mk, .int ml, .ref mfd, .int mf, .int (nI jy), .int vx, .int vy])), (mb, .inl (KC, 60, .inl bf))] := hD.sub [0, 1] (by decide) rfl
        have hK9 : va_K D vwCl [] s := hK.sub [] rfl
        exact W.zret (v := 0) hx hb hr (rfl) (fun t ht9 hW9 => ⟨⟨0, (jy, vx, vy), rfl, by (exact per_f3 hKc hw_1 hit c_2 c_6 c_7 hw_10 c_11), ⟨by rw [ht9]; exact hP9, va_K.moved hW9.alike hK9, hD9⟩⟩, hS.F ht9⟩) hS.2.2 dX8_readsPeriods_56
      · have hc9 := c_11
        refine lv_iconst (v := 1) hx hb dX8_readsPeriods_51 (by decide) ?_
        refine lv_goto (tgt := 56) hx hb dX8_readsPeriods_52 (by decide) ?_
        have hP9 : va_P D vwCl [(mo, .inr (8, [.ref ms, .int sv, .ref mb, .int (nI ty), .int th, .ref mk, .int ml, .ref mfd, .int mf, .int (nI jy), .int vx, .int vy])), (mb, .inl (KC, 60, .inl bf))] H := hP.sub [0, 1] rfl
        have hD9 : va_D A [(mo, .inr (8, [.ref ms, .int sv, .ref mb, .int (nI ty), .int th, .ref mk, .int ml, .ref mfd, .int mf, .int (nI jy), .int vx, .int vy])), (mb, .inl (KC, 60, .inl bf))] := hD.sub [0, 1] (by decide) rfl
        have hK9 : va_K D vwCl [] s := hK.sub [] rfl
        exact W.zret (v := 1) hx hb hr (rfl) (fun t ht9 hW9 => ⟨⟨1, (jy, vx, vy), rfl, by (exact per_y hKc hw_1 hit c_2 c_6 c_7 hw_10 c_11), ⟨by rw [ht9]; exact hP9, va_K.moved hW9.alike hK9, hD9⟩⟩, hS.F ht9⟩) hS.2.2 dX8_readsPeriods_56
    · skip
      have he_8 := he_8.symm
      subst he_8
      refine lv_if_eq (tgt := 39) hx hb dX8_readsPeriods_26 (by decide) (fun _ => ?_) (fun c9 => absurd (by decide) c9)
      refine lv_iconst (v := (-1)) hx hb dX8_readsPeriods_39 (by decide) ?_
      refine va_put (D := D) (ci := 8) (v := .int (-1)) (ty := .int) (C := RX8) (T := TX8) (N := 12) hx hb ht inA_X8 tyX8 tyX8_ok nmX8 hown hK hP hD hS 0 rfl rfl 11 (by decide) (ht _ lf_X8_160) (fun _ h9 => h9) rfl (tyX8_ok 11 (by decide)) rfl rfl (Nat.le_of_ble_eq_true rfl) dX8_readsPeriods_40 (fun H locs hP hD hS => ?_)
      have hP : va_P D vwCl [(mo, .inr (8, [.ref ms, .int sv, .ref mb, .int (nI ty), .int th, .ref mk, .int ml, .ref mfd, .int mf, .int (nI jx), .int vx, .int (-1)])), (mb, .inl (KC, 60, .inl bf))] H := hP
      have hD : va_D A [(mo, .inr (8, [.ref ms, .int sv, .ref mb, .int (nI ty), .int th, .ref mk, .int ml, .ref mfd, .int mf, .int (nI jx), .int vx, .int (-1)])), (mb, .inl (KC, 60, .inl bf))] := hD
      refine lv_aload_n hx hb dX8_readsPeriods_43 rfl (lv_at hl 0 rfl) ?_
      refine va_get (D := D) (ci := 8) (v := .int (-1)) (C := RX8) (T := TX8) (N := 12) hx hb ht inA_X8 hown hK hP 0 rfl rfl 11 (by decide) (ht _ lf_X8_160) (fun _ h9 => h9) rfl dX8_readsPeriods_44 ?_
      refine lv_iconst (v := (-1)) hx hb dX8_readsPeriods_47 (by decide) ?_
      refine lv_icmp_eq (tgt := 55) hx hb dX8_readsPeriods_48 (by decide) (fun _ => ?_) (fun c9 => absurd (by decide) c9)
      refine lv_iconst (v := 0) hx hb dX8_readsPeriods_55 (by decide) ?_
      have hP9 : va_P D vwCl [(mo, .inr (8, [.ref ms, .int sv, .ref mb, .int (nI ty), .int th, .ref mk, .int ml, .ref mfd, .int mf, .int (nI jx), .int vx, .int (-1)])), (mb, .inl (KC, 60, .inl bf))] H := hP.sub [0, 1] rfl
      have hD9 : va_D A [(mo, .inr (8, [.ref ms, .int sv, .ref mb, .int (nI ty), .int th, .ref mk, .int ml, .ref mfd, .int mf, .int (nI jx), .int vx, .int (-1)])), (mb, .inl (KC, 60, .inl bf))] := hD.sub [0, 1] (by decide) rfl
      have hK9 : va_K D vwCl [] s := hK.sub [] rfl
      exact W.zret (v := 0) hx hb hr (rfl) (fun t ht9 hW9 => ⟨⟨0, (jx, vx, (-1)), rfl, by (exact per_f2 (okL_1 hKc 1) (l := 1) (g := 50) rfl rfl (by rfl) hw_1 hit c_2 c_9), ⟨by rw [ht9]; exact hP9, va_K.moved hW9.alike hK9, hD9⟩⟩, hS.F ht9⟩) hS.2.2 dX8_readsPeriods_56
set_option maxHeartbeats 4000000 in
set_option maxRecDepth 100000 in
theorem c_M_command (l : Launch) (D : va_G) (mo : Nat) (ms : Nat) (sv : Int32) (mb : Nat) (ty : Nat) (th : Int32) (mk : Nat) (ml : Int32) (mfd : Nat) (mf : Int32) (i : Nat) (on : Int32) (tw : Int32) (KC : ClassId) (bf : Nat → Int32) (tx : Nat → Int32) (hcf : ∀ j9, j9 < ty → bf j9 = tx j9) (hty : ty ≤ 60) (hit : i ≤ ty) (sz : Nat) : k_Mi (S := Nat × Int32 × Int32) l D yX8_command cX8_command 2 (some .char) 4 0 0 89 [.ref mo] [(mo, .inr (8, [.ref ms, .int sv, .ref mb, .int (nI ty), .int th, .ref mk, .int ml, .ref mfd, .int mf, .int (nI i), .int on, .int tw])), (mb, .inl (KC, 60, .inl bf))] [(KC, .char)] (fun (r : Int32) (u : Nat × Int32 × Int32) => match u with | (sp1, on1, tw1) => CMD tx ty i r sp1 on1 tw1) (fun u => match u with | (sp1, on1, tw1) => [(mo, .inr (8, [.ref ms, .int sv, .ref mb, .int (nI ty), .int th, .ref mk, .int ml, .ref mfd, .int mf, .int (nI sp1), .int on1, .int tw1])), (mb, .inl (KC, 60, .inl bf))]) (fun u => match u with | (sp1, on1, tw1) => []) sz := by
  refine Met.ofW (cc := cX8_command) (maxL := 2) (ret := (some .char)) (by decide) rfl ?_
  intro p e s m args below meth c s₁ B hml hv
  obtain ⟨rfl, hsz, hP, hK, hD0, hG⟩ := hv
  have hx := B.exec
  have hb := B.bytes
  have hr := B.returns
  have ht : ∀ v9 ∈ wsA, v9.before ([.ref mo] : List Value).toArray s = true := fun v9 h9 => atoms_spec (ws := k_ws yX8_command cX8_command 2 (some .char)) B.pre v9 (List.mem_cons_of_mem _ h9)
  have hown : s.vm.findClass RX8 = some m.cls := findClass_of_methodNamed B.named
  have S0 : k_C p s m ([.ref mo] : List Value).toArray c cX8_command 2 RX8 := ⟨hx, hb, hml, hown, ht⟩
  have hlocks := B.notSynchronized
  subst hsz
  have hD := hD0.self (sz := s.heap.size)
  generalize hAe : va_A [(mo, .inr (8, [.ref ms, .int sv, .ref mb, .int (nI ty), .int th, .ref mk, .int ml, .ref mfd, .int mf, .int (nI i), .int on, .int tw])), (mb, .inl (KC, 60, .inl bf))] s.heap.size = A at hD hG ⊢
  have hA : ∀ q : Nat, s.heap.size ≤ q → A q := fun q h => by rw [← hAe]; exact Or.inr h
  have hS : va_S A s.heap s.heap [] := va_S.rf
  have hl := lv_entry ([.ref mo]) (n := 2) (Nat.le_of_ble_eq_true rfl)
  rw [lg_entry_eq]
  generalize (lg_sl ([.ref mo]) ++ List.replicate (2 - (lg_sl ([.ref mo])).length) Slot.unset).toArray = ls at hl ⊢
  have hl : lv_has ls 2 [(0, .ref mo)] := hl
  have hP : va_P D vwCl [(mo, .inr (8, [.ref ms, .int sv, .ref mb, .int (nI ty), .int th, .ref mk, .int ml, .ref mfd, .int mf, .int (nI i), .int on, .int tw])), (mb, .inl (KC, 60, .inl bf))] s.heap := hP
  refine lv_aload_n hx hb dX8_command_0 rfl (lv_at hl 0 rfl) ?_
  refine va_get (D := D) (ci := 8) (v := .int (nI i)) (C := RX8) (T := TX8) (N := 12) hx hb ht inA_X8 hown hK hP 0 rfl rfl 9 (by decide) (ht _ lf_X8_150) (fun _ h9 => h9) rfl dX8_command_1 ?_
  refine lv_aload_n hx hb dX8_command_4 rfl (lv_at hl 0 rfl) ?_
  refine va_get (D := D) (ci := 8) (v := .int (nI ty)) (C := RX8) (T := TX8) (N := 12) hx hb ht inA_X8 hown hK hP 0 rfl rfl 3 (by decide) (ht _ lf_X8_147) (fun _ h9 => h9) rfl dX8_command_5 ?_
  refine lv_icmp_ge (tgt := 23) hx hb dX8_command_8 (by decide) (fun c_1 => ?_) (fun c_1 => ?_)
  · have hc9 := c_1
    refine lv_bipush (v := 32) hx hb dX8_command_23 (by decide) ?_
    refine lv_istore_n (lv' := [(1, .int 32), (0, .ref mo)]) hx hb dX8_command_25 rfl hl (by decide) rfl (fun ls hl => ?_)
    refine lv_aload_n hx hb dX8_command_26 rfl (lv_at hl 1 rfl) ?_
    refine lv_dup hx hb dX8_command_27 rfl ?_
    refine va_get (D := D) (ci := 8) (v := .int (nI i)) (C := RX8) (T := TX8) (N := 12) hx hb ht inA_X8 hown hK hP 0 rfl rfl 9 (by decide) (ht _ lf_X8_150) (fun _ h9 => h9) rfl dX8_command_28 ?_
    refine lv_iconst (v := 1) hx hb dX8_command_31 (by decide) ?_
    refine lv_iadd hx hb dX8_command_32 ?_
    refine k_nrm (y := (nI (i + 1))) (nI_1 i) ?_
    refine va_put (D := D) (ci := 8) (v := .int (nI (i + 1))) (ty := .int) (C := RX8) (T := TX8) (N := 12) hx hb ht inA_X8 tyX8 tyX8_ok nmX8 hown hK hP hD hS 0 rfl rfl 9 (by decide) (ht _ lf_X8_150) (fun _ h9 => h9) rfl (tyX8_ok 9 (by decide)) rfl rfl (Nat.le_of_ble_eq_true rfl) dX8_command_33 (fun H locs hP hD hS => ?_)
    have hP : va_P D vwCl [(mo, .inr (8, [.ref ms, .int sv, .ref mb, .int (nI ty), .int th, .ref mk, .int ml, .ref mfd, .int mf, .int (nI (i + 1)), .int on, .int tw])), (mb, .inl (KC, 60, .inl bf))] H := hP
    have hD : va_D A [(mo, .inr (8, [.ref ms, .int sv, .ref mb, .int (nI ty), .int th, .ref mk, .int ml, .ref mfd, .int mf, .int (nI (i + 1)), .int on, .int tw])), (mb, .inl (KC, 60, .inl bf))] := hD
    refine lv_iload_n hx hb dX8_command_36 rfl (lv_at hl 0 rfl) ?_
    refine lv_lookup (x := 32) (off := 85) (tgt := 122) hx hb dX8_command_37 (by decide) (by decide) (by decide) ?_
    refine lv_aload_n hx hb dX8_command_122 rfl (lv_at hl 1 rfl) ?_
    refine lv_dup hx hb dX8_command_123 rfl ?_
    refine va_get (D := D) (ci := 8) (v := .int (nI (i + 1))) (C := RX8) (T := TX8) (N := 12) hx hb ht inA_X8 hown hK hP 0 rfl rfl 9 (by decide) (ht _ lf_X8_150) (fun _ h9 => h9) rfl dX8_command_124 ?_
    refine lv_iconst (v := 1) hx hb dX8_command_127 (by decide) ?_
    refine lv_isub hx hb dX8_command_128 ?_
    refine k_nrm (y := (nI i)) (nI_pred i) ?_
    refine va_put (D := D) (ci := 8) (v := .int (nI i)) (ty := .int) (C := RX8) (T := TX8) (N := 12) hx hb ht inA_X8 tyX8 tyX8_ok nmX8 hown hK hP hD hS 0 rfl rfl 9 (by decide) (ht _ lf_X8_150) (fun _ h9 => h9) rfl (tyX8_ok 9 (by decide)) rfl rfl (Nat.le_of_ble_eq_true rfl) dX8_command_129 (fun H locs hP hD hS => ?_)
    have hP : va_P D vwCl [(mo, .inr (8, [.ref ms, .int sv, .ref mb, .int (nI ty), .int th, .ref mk, .int ml, .ref mfd, .int mf, .int (nI i), .int on, .int tw])), (mb, .inl (KC, 60, .inl bf))] H := hP
    have hD : va_D A [(mo, .inr (8, [.ref ms, .int sv, .ref mb, .int (nI ty), .int th, .ref mk, .int ml, .ref mfd, .int mf, .int (nI i), .int on, .int tw])), (mb, .inl (KC, 60, .inl bf))] := hD
    refine lv_bipush (v := 32) hx hb dX8_command_132 (by decide) ?_
    have hP9 : va_P D vwCl [(mo, .inr (8, [.ref ms, .int sv, .ref mb, .int (nI ty), .int th, .ref mk, .int ml, .ref mfd, .int mf, .int (nI i), .int on, .int tw])), (mb, .inl (KC, 60, .inl bf))] H := hP.sub [0, 1] rfl
    have hD9 : va_D A [(mo, .inr (8, [.ref ms, .int sv, .ref mb, .int (nI ty), .int th, .ref mk, .int ml, .ref mfd, .int mf, .int (nI i), .int on, .int tw])), (mb, .inl (KC, 60, .inl bf))] := hD.sub [0, 1] (by decide) rfl
    have hK9 : va_K D vwCl [] s := hK.sub [] rfl
    exact W.zret (v := 32) hx hb hr (rfl) (fun t ht9 hW9 => ⟨⟨32, (i, on, tw), rfl, by (exact Or.inl ⟨rfl, Or.inl ⟨rfl, fun q9 => absurd c_1 (nI_ge q9 (by omega))⟩⟩), ⟨by rw [ht9]; exact hP9, va_K.moved hW9.alike hK9, hD9⟩⟩, hS.F ht9⟩) hS.2.2 dX8_command_134
  · have hc9 := c_1
    have hi9 : i < ty := by rcases Nat.lt_or_ge i ty with q9 | q9; exact q9; exact absurd (nI_le q9 (by omega)) c_1
    refine lv_aload_n hx hb dX8_command_11 rfl (lv_at hl 0 rfl) ?_
    refine va_get (D := D) (ci := 8) (v := .ref mb) (C := RX8) (T := TX8) (N := 12) hx hb ht inA_X8 hown hK hP 0 rfl rfl 2 (by decide) (ht _ lf_X8_13) (fun _ h9 => h9) rfl dX8_command_12 ?_
    refine lv_aload_n hx hb dX8_command_15 rfl (lv_at hl 0 rfl) ?_
    refine va_get (D := D) (ci := 8) (v := .int (nI i)) (C := RX8) (T := TX8) (N := 12) hx hb ht inA_X8 hown hK hP 0 rfl rfl 9 (by decide) (ht _ lf_X8_150) (fun _ h9 => h9) rfl dX8_command_16 ?_
    refine va_cald hx hb hK hP 1 0 rfl rfl (vp_in_nI (by omega) (by decide)) dX8_command_19 ?_
    refine k_nrm (y := (tx i)) (by rw [nI_clamp (by omega)]; exact hcf _ (by omega)) ?_
    refine lv_goto (tgt := 25) hx hb dX8_command_20 (by decide) ?_
    refine lv_istore_n (lv' := [(1, .int (tx i)), (0, .ref mo)]) hx hb dX8_command_25 rfl hl (by decide) rfl (fun ls hl => ?_)
    refine lv_aload_n hx hb dX8_command_26 rfl (lv_at hl 1 rfl) ?_
    refine lv_dup hx hb dX8_command_27 rfl ?_
    refine va_get (D := D) (ci := 8) (v := .int (nI i)) (C := RX8) (T := TX8) (N := 12) hx hb ht inA_X8 hown hK hP 0 rfl rfl 9 (by decide) (ht _ lf_X8_150) (fun _ h9 => h9) rfl dX8_command_28 ?_
    refine lv_iconst (v := 1) hx hb dX8_command_31 (by decide) ?_
    refine lv_iadd hx hb dX8_command_32 ?_
    refine k_nrm (y := (nI (i + 1))) (nI_1 i) ?_
    refine va_put (D := D) (ci := 8) (v := .int (nI (i + 1))) (ty := .int) (C := RX8) (T := TX8) (N := 12) hx hb ht inA_X8 tyX8 tyX8_ok nmX8 hown hK hP hD hS 0 rfl rfl 9 (by decide) (ht _ lf_X8_150) (fun _ h9 => h9) rfl (tyX8_ok 9 (by decide)) rfl rfl (Nat.le_of_ble_eq_true rfl) dX8_command_33 (fun H locs hP hD hS => ?_)
    have hP : va_P D vwCl [(mo, .inr (8, [.ref ms, .int sv, .ref mb, .int (nI ty), .int th, .ref mk, .int ml, .ref mfd, .int mf, .int (nI (i + 1)), .int on, .int tw])), (mb, .inl (KC, 60, .inl bf))] H := hP
    have hD : va_D A [(mo, .inr (8, [.ref ms, .int sv, .ref mb, .int (nI ty), .int th, .ref mk, .int ml, .ref mfd, .int mf, .int (nI (i + 1)), .int on, .int tw])), (mb, .inl (KC, 60, .inl bf))] := hD
    refine lv_iload_n hx hb dX8_command_36 rfl (lv_at hl 0 rfl) ?_
    by_cases hk112 : tx i = 112
    · refine k_nrm (y := 112) hk112 ?_
      rw [hk112] at hl
      have hl : lv_has ls 2 [(1, .int 112), (0, .ref mo)] := hl
      refine lv_lookup (x := 112) (off := 43) (tgt := 80) hx hb dX8_command_37 (by decide) (by decide) (by decide) ?_
      refine lv_aload_n hx hb dX8_command_80 rfl (lv_at hl 1 rfl) ?_
      have ct := k_cut_of (wc := [(mo, .inr (8, [.ref ms, .int sv, .ref mb, .int (nI ty), .int th, .ref mk, .int ml, .ref mfd, .int mf, .int (nI (i + 1)), .int on, .int tw])), (mb, .inl (KC, 60, .inl bf))]) (wr := []) (tc := [(KC, .char)]) hG hS hA hK hP hD [0, 1] [] [0] rfl rfl (by decide) (by decide) (by decide) rfl
      refine k_endi (As := [.ref mo]) ct (k_runV (As := []) (rest := []) S0 Lv_X8_169 rfl (ci := 8) (q0 := 0) rfl rfl ct (c_M_readsLabel l D mo ms sv mb ty th mk ml mfd mf (i + 1) on tw KC bf tx (by assumption) (by first | assumption | omega) (by first | assumption | omega) H.size) hl.1 rfl (Nat.le_of_ble_eq_true rfl) rfl dX8_command_81 ⟨⟨Nat.le_of_ble_eq_true rfl, Nat.le_of_ble_eq_true rfl⟩, Nat.le_of_ble_eq_true rfl, Nat.le_of_ble_eq_true rfl⟩) rfl rfl (fun r_2 u H locs hw_6 hP hD hK hS => ?_)
      obtain ⟨sp1v_3, on1v_4, tw1v_5⟩ := u
      have hK : va_K D vwCl [(KC, .char)] s := hK
      have hP : va_P D vwCl [(mo, .inr (8, [.ref ms, .int sv, .ref mb, .int (nI ty), .int th, .ref mk, .int ml, .ref mfd, .int mf, .int (nI sp1v_3), .int on1v_4, .int tw1v_5])), (mb, .inl (KC, 60, .inl bf))] H := hP
      have hD : va_D A [(mo, .inr (8, [.ref ms, .int sv, .ref mb, .int (nI ty), .int th, .ref mk, .int ml, .ref mfd, .int mf, .int (nI sp1v_3), .int on1v_4, .int tw1v_5])), (mb, .inl (KC, 60, .inl bf))] := hD
      have hw_6 : PSR tx ty 112 (i + 1) r_2 sp1v_3 on1v_4 tw1v_5 := hw_6
      refine lv_if_eq (tgt := 91) hx hb dX8_command_84 (by decide) (fun c_7 => ?_) (fun c_7 => ?_)
      · have hc9 := c_7
        refine lv_bipush (v := 32) hx hb dX8_command_91 (by decide) ?_
        have hP9 : va_P D vwCl [(mo, .inr (8, [.ref ms, .int sv, .ref mb, .int (nI ty), .int th, .ref mk, .int ml, .ref mfd, .int mf, .int (nI sp1v_3), .int on1v_4, .int tw1v_5])), (mb, .inl (KC, 60, .inl bf))] H := hP.sub [0, 1] rfl
        have hD9 : va_D A [(mo, .inr (8, [.ref ms, .int sv, .ref mb, .int (nI ty), .int th, .ref mk, .int ml, .ref mfd, .int mf, .int (nI sp1v_3), .int on1v_4, .int tw1v_5])), (mb, .inl (KC, 60, .inl bf))] := hD.sub [0, 1] (by decide) rfl
        have hK9 : va_K D vwCl [] s := hK.sub [] rfl
        exact W.zret (v := 32) hx hb hr (rfl) (fun t ht9 hW9 => ⟨⟨32, (sp1v_3, on1v_4, tw1v_5), rfl, by (exact Or.inl ⟨rfl, Or.inr ⟨hi9, (by rw [hk112]; decide), by rw [hk112, ← c_7]; exact hw_6⟩⟩), ⟨by rw [ht9]; exact hP9, va_K.moved hW9.alike hK9, hD9⟩⟩, hS.F ht9⟩) hS.2.2 dX8_command_93
      · have hc9 := c_7
        refine lv_iload_n hx hb dX8_command_87 rfl (lv_at hl 0 rfl) ?_
        refine lv_goto (tgt := 93) hx hb dX8_command_88 (by decide) ?_
        have hP9 : va_P D vwCl [(mo, .inr (8, [.ref ms, .int sv, .ref mb, .int (nI ty), .int th, .ref mk, .int ml, .ref mfd, .int mf, .int (nI sp1v_3), .int on1v_4, .int tw1v_5])), (mb, .inl (KC, 60, .inl bf))] H := hP.sub [0, 1] rfl
        have hD9 : va_D A [(mo, .inr (8, [.ref ms, .int sv, .ref mb, .int (nI ty), .int th, .ref mk, .int ml, .ref mfd, .int mf, .int (nI sp1v_3), .int on1v_4, .int tw1v_5])), (mb, .inl (KC, 60, .inl bf))] := hD.sub [0, 1] (by decide) rfl
        have hK9 : va_K D vwCl [] s := hK.sub [] rfl
        exact W.zret (v := 112) hx hb hr (rfl) (fun t ht9 hW9 => ⟨⟨112, (sp1v_3, on1v_4, tw1v_5), rfl, by (exact Or.inr ⟨hi9, hk112.symm, (by rw [hk112]; decide), by rw [hk112]; exact PSR_1 hw_6 c_7⟩), ⟨by rw [ht9]; exact hP9, va_K.moved hW9.alike hK9, hD9⟩⟩, hS.F ht9⟩) hS.2.2 dX8_command_93
    by_cases hk115 : tx i = 115
    · refine k_nrm (y := 115) hk115 ?_
      rw [hk115] at hl
      have hl : lv_has ls 2 [(1, .int 115), (0, .ref mo)] := hl
      refine lv_lookup (x := 115) (off := 57) (tgt := 94) hx hb dX8_command_37 (by decide) (by decide) (by decide) ?_
      refine lv_aload_n hx hb dX8_command_94 rfl (lv_at hl 1 rfl) ?_
      have ct := k_cut_of (wc := [(mo, .inr (8, [.ref ms, .int sv, .ref mb, .int (nI ty), .int th, .ref mk, .int ml, .ref mfd, .int mf, .int (nI (i + 1)), .int on, .int tw])), (mb, .inl (KC, 60, .inl bf))]) (wr := []) (tc := [(KC, .char)]) hG hS hA hK hP hD [0, 1] [] [0] rfl rfl (by decide) (by decide) (by decide) rfl
      refine k_endi (As := [.ref mo]) ct (k_runV (As := []) (rest := []) S0 Lv_X8_173 rfl (ci := 8) (q0 := 0) rfl rfl ct (c_M_readsSmudge l D mo ms sv mb ty th mk ml mfd mf (i + 1) on tw KC bf tx (by assumption) (by first | assumption | omega) (by first | assumption | omega) H.size) hl.1 rfl (Nat.le_of_ble_eq_true rfl) rfl dX8_command_95 ⟨⟨Nat.le_of_ble_eq_true rfl, Nat.le_of_ble_eq_true rfl⟩, Nat.le_of_ble_eq_true rfl, Nat.le_of_ble_eq_true rfl⟩) rfl rfl (fun r_8 u H locs hw_12 hP hD hK hS => ?_)
      obtain ⟨sp1v_9, on1v_10, tw1v_11⟩ := u
      have hK : va_K D vwCl [(KC, .char)] s := hK
      have hP : va_P D vwCl [(mo, .inr (8, [.ref ms, .int sv, .ref mb, .int (nI ty), .int th, .ref mk, .int ml, .ref mfd, .int mf, .int (nI sp1v_9), .int on1v_10, .int tw1v_11])), (mb, .inl (KC, 60, .inl bf))] H := hP
      have hD : va_D A [(mo, .inr (8, [.ref ms, .int sv, .ref mb, .int (nI ty), .int th, .ref mk, .int ml, .ref mfd, .int mf, .int (nI sp1v_9), .int on1v_10, .int tw1v_11])), (mb, .inl (KC, 60, .inl bf))] := hD
      have hw_12 : PSR tx ty 115 (i + 1) r_8 sp1v_9 on1v_10 tw1v_11 := hw_12
      refine lv_if_eq (tgt := 105) hx hb dX8_command_98 (by decide) (fun c_13 => ?_) (fun c_13 => ?_)
      · have hc9 := c_13
        refine lv_bipush (v := 32) hx hb dX8_command_105 (by decide) ?_
        have hP9 : va_P D vwCl [(mo, .inr (8, [.ref ms, .int sv, .ref mb, .int (nI ty), .int th, .ref mk, .int ml, .ref mfd, .int mf, .int (nI sp1v_9), .int on1v_10, .int tw1v_11])), (mb, .inl (KC, 60, .inl bf))] H := hP.sub [0, 1] rfl
        have hD9 : va_D A [(mo, .inr (8, [.ref ms, .int sv, .ref mb, .int (nI ty), .int th, .ref mk, .int ml, .ref mfd, .int mf, .int (nI sp1v_9), .int on1v_10, .int tw1v_11])), (mb, .inl (KC, 60, .inl bf))] := hD.sub [0, 1] (by decide) rfl
        have hK9 : va_K D vwCl [] s := hK.sub [] rfl
        exact W.zret (v := 32) hx hb hr (rfl) (fun t ht9 hW9 => ⟨⟨32, (sp1v_9, on1v_10, tw1v_11), rfl, by (exact Or.inl ⟨rfl, Or.inr ⟨hi9, (by rw [hk115]; decide), by rw [hk115, ← c_13]; exact hw_12⟩⟩), ⟨by rw [ht9]; exact hP9, va_K.moved hW9.alike hK9, hD9⟩⟩, hS.F ht9⟩) hS.2.2 dX8_command_107
      · have hc9 := c_13
        refine lv_iload_n hx hb dX8_command_101 rfl (lv_at hl 0 rfl) ?_
        refine lv_goto (tgt := 107) hx hb dX8_command_102 (by decide) ?_
        have hP9 : va_P D vwCl [(mo, .inr (8, [.ref ms, .int sv, .ref mb, .int (nI ty), .int th, .ref mk, .int ml, .ref mfd, .int mf, .int (nI sp1v_9), .int on1v_10, .int tw1v_11])), (mb, .inl (KC, 60, .inl bf))] H := hP.sub [0, 1] rfl
        have hD9 : va_D A [(mo, .inr (8, [.ref ms, .int sv, .ref mb, .int (nI ty), .int th, .ref mk, .int ml, .ref mfd, .int mf, .int (nI sp1v_9), .int on1v_10, .int tw1v_11])), (mb, .inl (KC, 60, .inl bf))] := hD.sub [0, 1] (by decide) rfl
        have hK9 : va_K D vwCl [] s := hK.sub [] rfl
        exact W.zret (v := 115) hx hb hr (rfl) (fun t ht9 hW9 => ⟨⟨115, (sp1v_9, on1v_10, tw1v_11), rfl, by (exact Or.inr ⟨hi9, hk115.symm, (by rw [hk115]; decide), by rw [hk115]; exact PSR_1 hw_12 c_13⟩), ⟨by rw [ht9]; exact hP9, va_K.moved hW9.alike hK9, hD9⟩⟩, hS.F ht9⟩) hS.2.2 dX8_command_107
    by_cases hk100 : tx i = 100
    · refine k_nrm (y := 100) hk100 ?_
      rw [hk100] at hl
      have hl : lv_has ls 2 [(1, .int 100), (0, .ref mo)] := hl
      refine lv_lookup (x := 100) (off := 71) (tgt := 108) hx hb dX8_command_37 (by decide) (by decide) (by decide) ?_
      refine lv_aload_n hx hb dX8_command_108 rfl (lv_at hl 1 rfl) ?_
      have ct := k_cut_of (wc := [(mo, .inr (8, [.ref ms, .int sv, .ref mb, .int (nI ty), .int th, .ref mk, .int ml, .ref mfd, .int mf, .int (nI (i + 1)), .int on, .int tw])), (mb, .inl (KC, 60, .inl bf))]) (wr := []) (tc := [(KC, .char)]) hG hS hA hK hP hD [0, 1] [] [0] rfl rfl (by decide) (by decide) (by decide) rfl
      refine k_endi (As := [.ref mo]) ct (k_runV (As := []) (rest := []) S0 Lv_X8_176 rfl (ci := 8) (q0 := 0) rfl rfl ct (c_M_readsPer100 l D mo ms sv mb ty th mk ml mfd mf (i + 1) on tw KC bf tx (by assumption) (by first | assumption | omega) (by first | assumption | omega) H.size) hl.1 rfl (Nat.le_of_ble_eq_true rfl) rfl dX8_command_109 ⟨⟨Nat.le_of_ble_eq_true rfl, Nat.le_of_ble_eq_true rfl⟩, Nat.le_of_ble_eq_true rfl, Nat.le_of_ble_eq_true rfl⟩) rfl rfl (fun r_14 u H locs hw_18 hP hD hK hS => ?_)
      obtain ⟨sp1v_15, on1v_16, tw1v_17⟩ := u
      have hK : va_K D vwCl [(KC, .char)] s := hK
      have hP : va_P D vwCl [(mo, .inr (8, [.ref ms, .int sv, .ref mb, .int (nI ty), .int th, .ref mk, .int ml, .ref mfd, .int mf, .int (nI sp1v_15), .int on1v_16, .int tw1v_17])), (mb, .inl (KC, 60, .inl bf))] H := hP
      have hD : va_D A [(mo, .inr (8, [.ref ms, .int sv, .ref mb, .int (nI ty), .int th, .ref mk, .int ml, .ref mfd, .int mf, .int (nI sp1v_15), .int on1v_16, .int tw1v_17])), (mb, .inl (KC, 60, .inl bf))] := hD
      have hw_18 : PSR tx ty 100 (i + 1) r_14 sp1v_15 on1v_16 tw1v_17 := hw_18
      refine lv_if_eq (tgt := 119) hx hb dX8_command_112 (by decide) (fun c_19 => ?_) (fun c_19 => ?_)
      · have hc9 := c_19
        refine lv_bipush (v := 32) hx hb dX8_command_119 (by decide) ?_
        have hP9 : va_P D vwCl [(mo, .inr (8, [.ref ms, .int sv, .ref mb, .int (nI ty), .int th, .ref mk, .int ml, .ref mfd, .int mf, .int (nI sp1v_15), .int on1v_16, .int tw1v_17])), (mb, .inl (KC, 60, .inl bf))] H := hP.sub [0, 1] rfl
        have hD9 : va_D A [(mo, .inr (8, [.ref ms, .int sv, .ref mb, .int (nI ty), .int th, .ref mk, .int ml, .ref mfd, .int mf, .int (nI sp1v_15), .int on1v_16, .int tw1v_17])), (mb, .inl (KC, 60, .inl bf))] := hD.sub [0, 1] (by decide) rfl
        have hK9 : va_K D vwCl [] s := hK.sub [] rfl
        exact W.zret (v := 32) hx hb hr (rfl) (fun t ht9 hW9 => ⟨⟨32, (sp1v_15, on1v_16, tw1v_17), rfl, by (exact Or.inl ⟨rfl, Or.inr ⟨hi9, (by rw [hk100]; decide), by rw [hk100, ← c_19]; exact hw_18⟩⟩), ⟨by rw [ht9]; exact hP9, va_K.moved hW9.alike hK9, hD9⟩⟩, hS.F ht9⟩) hS.2.2 dX8_command_121
      · have hc9 := c_19
        refine lv_iload_n hx hb dX8_command_115 rfl (lv_at hl 0 rfl) ?_
        refine lv_goto (tgt := 121) hx hb dX8_command_116 (by decide) ?_
        have hP9 : va_P D vwCl [(mo, .inr (8, [.ref ms, .int sv, .ref mb, .int (nI ty), .int th, .ref mk, .int ml, .ref mfd, .int mf, .int (nI sp1v_15), .int on1v_16, .int tw1v_17])), (mb, .inl (KC, 60, .inl bf))] H := hP.sub [0, 1] rfl
        have hD9 : va_D A [(mo, .inr (8, [.ref ms, .int sv, .ref mb, .int (nI ty), .int th, .ref mk, .int ml, .ref mfd, .int mf, .int (nI sp1v_15), .int on1v_16, .int tw1v_17])), (mb, .inl (KC, 60, .inl bf))] := hD.sub [0, 1] (by decide) rfl
        have hK9 : va_K D vwCl [] s := hK.sub [] rfl
        exact W.zret (v := 100) hx hb hr (rfl) (fun t ht9 hW9 => ⟨⟨100, (sp1v_15, on1v_16, tw1v_17), rfl, by (exact Or.inr ⟨hi9, hk100.symm, (by rw [hk100]; decide), by rw [hk100]; exact PSR_1 hw_18 c_19⟩), ⟨by rw [ht9]; exact hP9, va_K.moved hW9.alike hK9, hD9⟩⟩, hS.F ht9⟩) hS.2.2 dX8_command_121
    by_cases hk98 : tx i = 98
    · refine k_nrm (y := 98) hk98 ?_
      rw [hk98] at hl
      have hl : lv_has ls 2 [(1, .int 98), (0, .ref mo)] := hl
      refine lv_lookup (x := 98) (off := 71) (tgt := 108) hx hb dX8_command_37 (by decide) (by decide) (by decide) ?_
      refine lv_aload_n hx hb dX8_command_108 rfl (lv_at hl 1 rfl) ?_
      have ct := k_cut_of (wc := [(mo, .inr (8, [.ref ms, .int sv, .ref mb, .int (nI ty), .int th, .ref mk, .int ml, .ref mfd, .int mf, .int (nI (i + 1)), .int on, .int tw])), (mb, .inl (KC, 60, .inl bf))]) (wr := []) (tc := [(KC, .char)]) hG hS hA hK hP hD [0, 1] [] [0] rfl rfl (by decide) (by decide) (by decide) rfl
      refine k_endi (As := [.ref mo]) ct (k_runV (As := []) (rest := []) S0 Lv_X8_176 rfl (ci := 8) (q0 := 0) rfl rfl ct (c_M_readsPer98 l D mo ms sv mb ty th mk ml mfd mf (i + 1) on tw KC bf tx (by assumption) (by first | assumption | omega) (by first | assumption | omega) H.size) hl.1 rfl (Nat.le_of_ble_eq_true rfl) rfl dX8_command_109 ⟨⟨Nat.le_of_ble_eq_true rfl, Nat.le_of_ble_eq_true rfl⟩, Nat.le_of_ble_eq_true rfl, Nat.le_of_ble_eq_true rfl⟩) rfl rfl (fun r_20 u H locs hw_24 hP hD hK hS => ?_)
      obtain ⟨sp1v_21, on1v_22, tw1v_23⟩ := u
      have hK : va_K D vwCl [(KC, .char)] s := hK
      have hP : va_P D vwCl [(mo, .inr (8, [.ref ms, .int sv, .ref mb, .int (nI ty), .int th, .ref mk, .int ml, .ref mfd, .int mf, .int (nI sp1v_21), .int on1v_22, .int tw1v_23])), (mb, .inl (KC, 60, .inl bf))] H := hP
      have hD : va_D A [(mo, .inr (8, [.ref ms, .int sv, .ref mb, .int (nI ty), .int th, .ref mk, .int ml, .ref mfd, .int mf, .int (nI sp1v_21), .int on1v_22, .int tw1v_23])), (mb, .inl (KC, 60, .inl bf))] := hD
      have hw_24 : PSR tx ty 98 (i + 1) r_20 sp1v_21 on1v_22 tw1v_23 := hw_24
      refine lv_if_eq (tgt := 119) hx hb dX8_command_112 (by decide) (fun c_25 => ?_) (fun c_25 => ?_)
      · have hc9 := c_25
        refine lv_bipush (v := 32) hx hb dX8_command_119 (by decide) ?_
        have hP9 : va_P D vwCl [(mo, .inr (8, [.ref ms, .int sv, .ref mb, .int (nI ty), .int th, .ref mk, .int ml, .ref mfd, .int mf, .int (nI sp1v_21), .int on1v_22, .int tw1v_23])), (mb, .inl (KC, 60, .inl bf))] H := hP.sub [0, 1] rfl
        have hD9 : va_D A [(mo, .inr (8, [.ref ms, .int sv, .ref mb, .int (nI ty), .int th, .ref mk, .int ml, .ref mfd, .int mf, .int (nI sp1v_21), .int on1v_22, .int tw1v_23])), (mb, .inl (KC, 60, .inl bf))] := hD.sub [0, 1] (by decide) rfl
        have hK9 : va_K D vwCl [] s := hK.sub [] rfl
        exact W.zret (v := 32) hx hb hr (rfl) (fun t ht9 hW9 => ⟨⟨32, (sp1v_21, on1v_22, tw1v_23), rfl, by (exact Or.inl ⟨rfl, Or.inr ⟨hi9, (by rw [hk98]; decide), by rw [hk98, ← c_25]; exact hw_24⟩⟩), ⟨by rw [ht9]; exact hP9, va_K.moved hW9.alike hK9, hD9⟩⟩, hS.F ht9⟩) hS.2.2 dX8_command_121
      · have hc9 := c_25
        refine lv_iload_n hx hb dX8_command_115 rfl (lv_at hl 0 rfl) ?_
        refine lv_goto (tgt := 121) hx hb dX8_command_116 (by decide) ?_
        have hP9 : va_P D vwCl [(mo, .inr (8, [.ref ms, .int sv, .ref mb, .int (nI ty), .int th, .ref mk, .int ml, .ref mfd, .int mf, .int (nI sp1v_21), .int on1v_22, .int tw1v_23])), (mb, .inl (KC, 60, .inl bf))] H := hP.sub [0, 1] rfl
        have hD9 : va_D A [(mo, .inr (8, [.ref ms, .int sv, .ref mb, .int (nI ty), .int th, .ref mk, .int ml, .ref mfd, .int mf, .int (nI sp1v_21), .int on1v_22, .int tw1v_23])), (mb, .inl (KC, 60, .inl bf))] := hD.sub [0, 1] (by decide) rfl
        have hK9 : va_K D vwCl [] s := hK.sub [] rfl
        exact W.zret (v := 98) hx hb hr (rfl) (fun t ht9 hW9 => ⟨⟨98, (sp1v_21, on1v_22, tw1v_23), rfl, by (exact Or.inr ⟨hi9, hk98.symm, (by rw [hk98]; decide), by rw [hk98]; exact PSR_1 hw_24 c_25⟩), ⟨by rw [ht9]; exact hP9, va_K.moved hW9.alike hK9, hD9⟩⟩, hS.F ht9⟩) hS.2.2 dX8_command_121
    refine lv_lookup (x := tx i) (off := 85) (tgt := 122) hx hb dX8_command_37 (by decide) (lk_def hk98 hk100 hk112 hk115) (by decide) ?_
    refine lv_aload_n hx hb dX8_command_122 rfl (lv_at hl 1 rfl) ?_
    refine lv_dup hx hb dX8_command_123 rfl ?_
    refine va_get (D := D) (ci := 8) (v := .int (nI (i + 1))) (C := RX8) (T := TX8) (N := 12) hx hb ht inA_X8 hown hK hP 0 rfl rfl 9 (by decide) (ht _ lf_X8_150) (fun _ h9 => h9) rfl dX8_command_124 ?_
    refine lv_iconst (v := 1) hx hb dX8_command_127 (by decide) ?_
    refine lv_isub hx hb dX8_command_128 ?_
    refine k_nrm (y := (nI i)) (nI_pred i) ?_
    refine va_put (D := D) (ci := 8) (v := .int (nI i)) (ty := .int) (C := RX8) (T := TX8) (N := 12) hx hb ht inA_X8 tyX8 tyX8_ok nmX8 hown hK hP hD hS 0 rfl rfl 9 (by decide) (ht _ lf_X8_150) (fun _ h9 => h9) rfl (tyX8_ok 9 (by decide)) rfl rfl (Nat.le_of_ble_eq_true rfl) dX8_command_129 (fun H locs hP hD hS => ?_)
    have hP : va_P D vwCl [(mo, .inr (8, [.ref ms, .int sv, .ref mb, .int (nI ty), .int th, .ref mk, .int ml, .ref mfd, .int mf, .int (nI i), .int on, .int tw])), (mb, .inl (KC, 60, .inl bf))] H := hP
    have hD : va_D A [(mo, .inr (8, [.ref ms, .int sv, .ref mb, .int (nI ty), .int th, .ref mk, .int ml, .ref mfd, .int mf, .int (nI i), .int on, .int tw])), (mb, .inl (KC, 60, .inl bf))] := hD
    refine lv_bipush (v := 32) hx hb dX8_command_132 (by decide) ?_
    have hP9 : va_P D vwCl [(mo, .inr (8, [.ref ms, .int sv, .ref mb, .int (nI ty), .int th, .ref mk, .int ml, .ref mfd, .int mf, .int (nI i), .int on, .int tw])), (mb, .inl (KC, 60, .inl bf))] H := hP.sub [0, 1] rfl
    have hD9 : va_D A [(mo, .inr (8, [.ref ms, .int sv, .ref mb, .int (nI ty), .int th, .ref mk, .int ml, .ref mfd, .int mf, .int (nI i), .int on, .int tw])), (mb, .inl (KC, 60, .inl bf))] := hD.sub [0, 1] (by decide) rfl
    have hK9 : va_K D vwCl [] s := hK.sub [] rfl
    exact W.zret (v := 32) hx hb hr (rfl) (fun t ht9 hW9 => ⟨⟨32, (i, on, tw), rfl, by (exact Or.inl ⟨rfl, Or.inl ⟨rfl, fun _ q9 => by rcases q9 with q8 | q8 | q8 | q8; exact hk112 q8; exact hk115 q8; exact hk100 q8; exact hk98 q8⟩⟩), ⟨by rw [ht9]; exact hP9, va_K.moved hW9.alike hK9, hD9⟩⟩, hS.F ht9⟩) hS.2.2 dX8_command_134
