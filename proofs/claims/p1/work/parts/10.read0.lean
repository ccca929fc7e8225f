theorem Lv_X3_97 : k_LV RX3 97 yX4_clear cX4_clear 1 none 0 := ⟨mA 297 rfl rfl, lm_X4_clear, le_X4_clear, li_BarcodeWand_Row, lk_X4_clear, ly_X4_clear⟩
theorem lk_X4_size : Cond.code yX4_size cX4_size 1 (some .int) ∈ wsA := mA 226 rfl rfl
theorem ly_X4_size : k_y yX4_size 0 := ⟨by decide +kernel, by decide +kernel, by decide +kernel⟩
theorem lm_X4_size : Cond.instanceMethod yX4_size ∈ wsA := mA 224 rfl rfl
theorem le_X4_size : Cond.selects (yX4_size).cls yX4_size yX4_size ∈ wsA := mA 225 rfl rfl
theorem Lv_X3_37 : k_LV RX3 37 yX4_size cX4_size 1 (some .int) 0 := ⟨mA 298 rfl rfl, lm_X4_size, le_X4_size, li_BarcodeWand_Row, lk_X4_size, ly_X4_size⟩
theorem lf_X3_84 : Cond.fieldLink RX3 84 "BarcodeWand$Reader" "failedFrom" "I" ∈ wsA := mA 146 rfl rfl
theorem lf_X3_87 : Cond.fieldLink RX3 87 "BarcodeWand$Reader" "failedTo" "I" ∈ wsA := mA 147 rfl rfl
theorem li_BarcodeWand_Reader : Cond.initialized "BarcodeWand$Reader" ∈ wsA := mA 8 rfl rfl
theorem lk_X3_layOut : Cond.code yX3_layOut cX3_layOut 4 none ∈ wsA := mA 296 rfl rfl
theorem ly_X3_layOut : k_y yX3_layOut 2 := ⟨by decide +kernel, by decide +kernel, by decide +kernel⟩
theorem lm_X3_layOut : Cond.instanceMethod yX3_layOut ∈ wsA := mA 295 rfl rfl
theorem le_X3_layOut : Cond.selects (yX3_layOut).cls yX3_layOut yX3_layOut ∈ wsA := mS 2 rfl rfl
theorem Lv_X3_33 : k_LV RX3 33 yX3_layOut cX3_layOut 4 none 2 := ⟨mA 293 rfl rfl, lm_X3_layOut, le_X3_layOut, li_BarcodeWand_Reader, lk_X3_layOut, ly_X3_layOut⟩
set_option maxRecDepth 20000 in
theorem lk_X3_digitsOf : Cond.code yX3_digitsOf cX3_digitsOf 4 (some .int) ∈ wsA := mA 303 rfl rfl
theorem ly_X3_digitsOf : k_y yX3_digitsOf 1 := ⟨by decide +kernel, by decide +kernel, by decide +kernel⟩
set_option maxRecDepth 20000 in
theorem ls_X3_digitsOf : Cond.static yX3_digitsOf ∈ wsA := mA 302 rfl rfl
set_option maxRecDepth 20000 in
theorem Ls_X3_41 : k_LS RX3 41 yX3_digitsOf cX3_digitsOf 4 (some .int) 1 := ⟨mA 301 rfl rfl, ls_X3_digitsOf, li_BarcodeWand_Reader, lk_X3_digitsOf, ly_X3_digitsOf⟩
set_option maxRecDepth 20000 in
theorem lk_X3_failAt : Cond.code yX3_failAt cX3_failAt 4 (some .int) ∈ wsA := mA 307 rfl rfl
theorem ly_X3_failAt : k_y yX3_failAt 3 := ⟨by decide +kernel, by decide +kernel, by decide +kernel⟩
set_option maxRecDepth 20000 in
theorem lm_X3_failAt : Cond.instanceMethod yX3_failAt ∈ wsA := mA 306 rfl rfl
theorem le_X3_failAt : Cond.selects (yX3_failAt).cls yX3_failAt yX3_failAt ∈ wsA := mS 3 rfl rfl
set_option maxRecDepth 20000 in
theorem Lv_X3_45 : k_LV RX3 45 yX3_failAt cX3_failAt 4 (some .int) 3 := ⟨mA 304 rfl rfl, lm_X3_failAt, le_X3_failAt, li_BarcodeWand_Reader, lk_X3_failAt, ly_X3_failAt⟩
theorem lk_X3_failureOf : Cond.code yX3_failureOf cX3_failureOf 7 (some .int) ∈ wsA := mA 292 rfl rfl
theorem ly_X3_failureOf : k_y yX3_failureOf 3 := ⟨by decide +kernel, by decide +kernel, by decide +kernel⟩
theorem lm_X3_failureOf : Cond.instanceMethod yX3_failureOf ∈ wsA := mA 290 rfl rfl
theorem le_X3_failureOf : Cond.selects (yX3_failureOf).cls yX3_failureOf yX3_failureOf ∈ wsA := mA 291 rfl rfl
theorem Lv_X3_23 : k_LV RX3 23 yX3_failureOf cX3_failureOf 7 (some .int) 3 := ⟨mA 289 rfl rfl, lm_X3_failureOf, le_X3_failureOf, li_BarcodeWand_Reader, lk_X3_failureOf, ly_X3_failureOf⟩
set_option maxRecDepth 20000 in
theorem lM_X3_27 : Cond.methodLink RX3 27 Lib.Math.max.name ∈ wsA := mA 312 rfl rfl
theorem dX3_layOut_0 : decode cX3_layOut 0 = .ok (.aload_n 0, 1) := by decide +kernel
theorem dX3_layOut_1 : decode cX3_layOut 1 = .ok (.getfield 14, 3) := by decide +kernel
theorem dX3_layOut_4 : decode cX3_layOut 4 = .ok (.invokevirtual 97, 3) := by decide +kernel
theorem dX3_layOut_7 : decode cX3_layOut 7 = .ok (.aload_n 0, 1) := by decide +kernel
theorem dX3_layOut_8 : decode cX3_layOut 8 = .ok (.getfield 20, 3) := by decide +kernel
theorem dX3_layOut_11 : decode cX3_layOut 11 = .ok (.invokevirtual 97, 3) := by decide +kernel
theorem dX3_layOut_14 : decode cX3_layOut 14 = .ok (.iconst 0, 1) := by decide +kernel
theorem dX3_layOut_15 : decode cX3_layOut 15 = .ok (.istore_n 3, 1) := by decide +kernel
theorem dX3_layOut_16 : decode cX3_layOut 16 = .ok (.iload_n 3, 1) := by decide +kernel
theorem dX3_layOut_17 : decode cX3_layOut 17 = .ok (.aload_n 1, 1) := by decide +kernel
theorem dX3_layOut_18 : decode cX3_layOut 18 = .ok (.invokevirtual 37, 3) := by decide +kernel
theorem dX3_layOut_21 : decode cX3_layOut 21 = .ok (.if_icmp .ge 36, 3) := by decide +kernel
theorem dX3_layOut_24 : decode cX3_layOut 24 = .ok (.aload_n 0, 1) := by decide +kernel
theorem dX3_layOut_25 : decode cX3_layOut 25 = .ok (.getfield 20, 3) := by decide +kernel
theorem dX3_layOut_28 : decode cX3_layOut 28 = .ok (.aload_n 1, 1) := by decide +kernel
theorem dX3_layOut_29 : decode cX3_layOut 29 = .ok (.iload_n 2, 1) := by decide +kernel
theorem dX3_layOut_30 : decode cX3_layOut 30 = .ok (.ifCond .eq 14, 3) := by decide +kernel
theorem dX3_layOut_33 : decode cX3_layOut 33 = .ok (.aload_n 1, 1) := by decide +kernel
theorem dX3_layOut_34 : decode cX3_layOut 34 = .ok (.invokevirtual 37, 3) := by decide +kernel
theorem dX3_layOut_37 : decode cX3_layOut 37 = .ok (.iconst 1, 1) := by decide +kernel
theorem dX3_layOut_38 : decode cX3_layOut 38 = .ok (.isub, 1) := by decide +kernel
theorem dX3_layOut_39 : decode cX3_layOut 39 = .ok (.iload_n 3, 1) := by decide +kernel
theorem dX3_layOut_40 : decode cX3_layOut 40 = .ok (.isub, 1) := by decide +kernel
theorem dX3_layOut_41 : decode cX3_layOut 41 = .ok (.goto 4, 3) := by decide +kernel
theorem dX3_layOut_44 : decode cX3_layOut 44 = .ok (.iload_n 3, 1) := by decide +kernel
theorem dX3_layOut_45 : decode cX3_layOut 45 = .ok (.invokevirtual 77, 3) := by decide +kernel
theorem dX3_layOut_48 : decode cX3_layOut 48 = .ok (.invokevirtual 71, 3) := by decide +kernel
theorem dX3_layOut_51 : decode cX3_layOut 51 = .ok (.iinc 3 1, 3) := by decide +kernel
theorem dX3_layOut_54 : decode cX3_layOut 54 = .ok (.goto (-38), 3) := by decide +kernel
theorem dX3_layOut_57 : decode cX3_layOut 57 = .ok (.return_, 1) := by decide +kernel
theorem dX3_digitsOf_0 : decode cX3_digitsOf 0 = .ok (.iload_n 0, 1) := by decide +kernel
theorem dX3_digitsOf_1 : decode cX3_digitsOf 1 = .ok (.iconst 3, 1) := by decide +kernel
theorem dX3_digitsOf_2 : decode cX3_digitsOf 2 = .ok (.isub, 1) := by decide +kernel
theorem dX3_digitsOf_3 : decode cX3_digitsOf 3 = .ok (.iconst 2, 1) := by decide +kernel
theorem dX3_digitsOf_4 : decode cX3_digitsOf 4 = .ok (.isub, 1) := by decide +kernel
theorem dX3_digitsOf_5 : decode cX3_digitsOf 5 = .ok (.istore_n 1, 1) := by decide +kernel
theorem dX3_digitsOf_6 : decode cX3_digitsOf 6 = .ok (.iload_n 1, 1) := by decide +kernel
theorem dX3_digitsOf_7 : decode cX3_digitsOf 7 = .ok (.iconst 4, 1) := by decide +kernel
theorem dX3_digitsOf_8 : decode cX3_digitsOf 8 = .ok (.idiv, 1) := by decide +kernel
theorem dX3_digitsOf_9 : decode cX3_digitsOf 9 = .ok (.istore_n 2, 1) := by decide +kernel
theorem dX3_digitsOf_10 : decode cX3_digitsOf 10 = .ok (.iload_n 1, 1) := by decide +kernel
theorem dX3_digitsOf_11 : decode cX3_digitsOf 11 = .ok (.iconst 4, 1) := by decide +kernel
theorem dX3_digitsOf_12 : decode cX3_digitsOf 12 = .ok (.irem, 1) := by decide +kernel
theorem dX3_digitsOf_13 : decode cX3_digitsOf 13 = .ok (.ifCond .ne 7, 3) := by decide +kernel
theorem dX3_digitsOf_16 : decode cX3_digitsOf 16 = .ok (.iconst 1, 1) := by decide +kernel
theorem dX3_digitsOf_17 : decode cX3_digitsOf 17 = .ok (.goto 4, 3) := by decide +kernel
theorem dX3_digitsOf_20 : decode cX3_digitsOf 20 = .ok (.iconst 0, 1) := by decide +kernel
theorem dX3_digitsOf_21 : decode cX3_digitsOf 21 = .ok (.istore_n 3, 1) := by decide +kernel
theorem dX3_digitsOf_22 : decode cX3_digitsOf 22 = .ok (.iload_n 3, 1) := by decide +kernel
theorem dX3_digitsOf_23 : decode cX3_digitsOf 23 = .ok (.ifCond .eq 18, 3) := by decide +kernel
theorem dX3_digitsOf_26 : decode cX3_digitsOf 26 = .ok (.iload_n 2, 1) := by decide +kernel
theorem dX3_digitsOf_27 : decode cX3_digitsOf 27 = .ok (.iconst 2, 1) := by decide +kernel
theorem dX3_digitsOf_28 : decode cX3_digitsOf 28 = .ok (.if_icmp .lt 13, 3) := by decide +kernel
theorem dX3_digitsOf_31 : decode cX3_digitsOf 31 = .ok (.iload_n 2, 1) := by decide +kernel
theorem dX3_digitsOf_32 : decode cX3_digitsOf 32 = .ok (.bipush 9, 2) := by decide +kernel
theorem dX3_digitsOf_34 : decode cX3_digitsOf 34 = .ok (.if_icmp .gt 7, 3) := by decide +kernel
theorem dX3_digitsOf_37 : decode cX3_digitsOf 37 = .ok (.iload_n 2, 1) := by decide +kernel
theorem dX3_digitsOf_38 : decode cX3_digitsOf 38 = .ok (.goto 4, 3) := by decide +kernel
theorem dX3_digitsOf_41 : decode cX3_digitsOf 41 = .ok (.iconst 0, 1) := by decide +kernel
theorem dX3_digitsOf_42 : decode cX3_digitsOf 42 = .ok (.ireturn, 1) := by decide +kernel
theorem dX3_failAt_0 : decode cX3_failAt 0 = .ok (.aload_n 0, 1) := by decide +kernel
theorem dX3_failAt_1 : decode cX3_failAt 1 = .ok (.iload_n 2, 1) := by decide +kernel
theorem dX3_failAt_2 : decode cX3_failAt 2 = .ok (.putfield 84, 3) := by decide +kernel
theorem dX3_failAt_5 : decode cX3_failAt 5 = .ok (.aload_n 0, 1) := by decide +kernel
theorem dX3_failAt_6 : decode cX3_failAt 6 = .ok (.iload_n 3, 1) := by decide +kernel
theorem dX3_failAt_7 : decode cX3_failAt 7 = .ok (.putfield 87, 3) := by decide +kernel
theorem dX3_failAt_10 : decode cX3_failAt 10 = .ok (.iload_n 1, 1) := by decide +kernel
theorem dX3_failAt_11 : decode cX3_failAt 11 = .ok (.ireturn, 1) := by decide +kernel
theorem dX3_failureOf_0 : decode cX3_failureOf 0 = .ok (.aload_n 0, 1) := by decide +kernel
theorem dX3_failureOf_1 : decode cX3_failureOf 1 = .ok (.aload_n 1, 1) := by decide +kernel
theorem dX3_failureOf_2 : decode cX3_failureOf 2 = .ok (.iload_n 2, 1) := by decide +kernel
theorem dX3_failureOf_3 : decode cX3_failureOf 3 = .ok (.invokevirtual 33, 3) := by decide +kernel
theorem dX3_failureOf_6 : decode cX3_failureOf 6 = .ok (.aload_n 0, 1) := by decide +kernel
theorem dX3_failureOf_7 : decode cX3_failureOf 7 = .ok (.getfield 20, 3) := by decide +kernel
theorem dX3_failureOf_10 : decode cX3_failureOf 10 = .ok (.invokevirtual 37, 3) := by decide +kernel
theorem dX3_failureOf_13 : decode cX3_failureOf 13 = .ok (.invokestatic 41, 3) := by decide +kernel
theorem dX3_failureOf_16 : decode cX3_failureOf 16 = .ok (.istore 4, 2) := by decide +kernel
theorem dX3_failureOf_18 : decode cX3_failureOf 18 = .ok (.iload 4, 2) := by decide +kernel
theorem dX3_failureOf_20 : decode cX3_failureOf 20 = .ok (.ifCond .ne 17, 3) := by decide +kernel
theorem dX3_failureOf_23 : decode cX3_failureOf 23 = .ok (.aload_n 0, 1) := by decide +kernel
theorem dX3_failureOf_24 : decode cX3_failureOf 24 = .ok (.iconst 1, 1) := by decide +kernel
theorem dX3_failureOf_25 : decode cX3_failureOf 25 = .ok (.iconst 0, 1) := by decide +kernel
theorem dX3_failureOf_26 : decode cX3_failureOf 26 = .ok (.aload_n 0, 1) := by decide +kernel
theorem dX3_failureOf_27 : decode cX3_failureOf 27 = .ok (.getfield 20, 3) := by decide +kernel
theorem dX3_failureOf_30 : decode cX3_failureOf 30 = .ok (.invokevirtual 37, 3) := by decide +kernel
theorem dX3_failureOf_33 : decode cX3_failureOf 33 = .ok (.invokevirtual 45, 3) := by decide +kernel
theorem dX3_failureOf_36 : decode cX3_failureOf 36 = .ok (.ireturn, 1) := by decide +kernel
theorem dX3_failureOf_37 : decode cX3_failureOf 37 = .ok (.aload_n 0, 1) := by decide +kernel
theorem dX3_failureOf_38 : decode cX3_failureOf 38 = .ok (.invokevirtual 49, 3) := by decide +kernel
theorem dX3_failureOf_41 : decode cX3_failureOf 41 = .ok (.ifCond .ne 11, 3) := by decide +kernel
theorem dX3_failureOf_44 : decode cX3_failureOf 44 = .ok (.aload_n 0, 1) := by decide +kernel
theorem dX3_failureOf_45 : decode cX3_failureOf 45 = .ok (.iconst 2, 1) := by decide +kernel
theorem dX3_failureOf_46 : decode cX3_failureOf 46 = .ok (.iconst 0, 1) := by decide +kernel
theorem dX3_failureOf_47 : decode cX3_failureOf 47 = .ok (.iconst 3, 1) := by decide +kernel
theorem dX3_failureOf_48 : decode cX3_failureOf 48 = .ok (.invokevirtual 45, 3) := by decide +kernel
theorem dX3_failureOf_51 : decode cX3_failureOf 51 = .ok (.ireturn, 1) := by decide +kernel
theorem dX3_failureOf_52 : decode cX3_failureOf 52 = .ok (.iconst 0, 1) := by decide +kernel
theorem dX3_failureOf_53 : decode cX3_failureOf 53 = .ok (.istore 5, 2) := by decide +kernel
theorem dX3_failureOf_55 : decode cX3_failureOf 55 = .ok (.iload 5, 2) := by decide +kernel
theorem dX3_failureOf_57 : decode cX3_failureOf 57 = .ok (.iload 4, 2) := by decide +kernel
theorem dX3_failureOf_59 : decode cX3_failureOf 59 = .ok (.if_icmp .ge 72, 3) := by decide +kernel
theorem dX3_failureOf_62 : decode cX3_failureOf 62 = .ok (.iconst 3, 1) := by decide +kernel
theorem dX3_failureOf_63 : decode cX3_failureOf 63 = .ok (.iconst 4, 1) := by decide +kernel
theorem dX3_failureOf_64 : decode cX3_failureOf 64 = .ok (.iload 5, 2) := by decide +kernel
theorem dX3_failureOf_66 : decode cX3_failureOf 66 = .ok (.imul, 1) := by decide +kernel
theorem dX3_failureOf_67 : decode cX3_failureOf 67 = .ok (.iadd, 1) := by decide +kernel
theorem dX3_failureOf_68 : decode cX3_failureOf 68 = .ok (.istore 6, 2) := by decide +kernel
theorem dX3_failureOf_70 : decode cX3_failureOf 70 = .ok (.aload_n 0, 1) := by decide +kernel
theorem dX3_failureOf_71 : decode cX3_failureOf 71 = .ok (.aload_n 0, 1) := by decide +kernel
theorem dX3_failureOf_72 : decode cX3_failureOf 72 = .ok (.getfield 20, 3) := by decide +kernel
theorem dX3_failureOf_75 : decode cX3_failureOf 75 = .ok (.iload 6, 2) := by decide +kernel
theorem dX3_failureOf_77 : decode cX3_failureOf 77 = .ok (.invokevirtual 53, 3) := by decide +kernel
theorem dX3_failureOf_80 : decode cX3_failureOf 80 = .ok (.aload_n 0, 1) := by decide +kernel
theorem dX3_failureOf_81 : decode cX3_failureOf 81 = .ok (.getfield 57, 3) := by decide +kernel
theorem dX3_failureOf_84 : decode cX3_failureOf 84 = .ok (.ifCond .ne 18, 3) := by decide +kernel
theorem dX3_failureOf_87 : decode cX3_failureOf 87 = .ok (.iconst 4, 1) := by decide +kernel
theorem dX3_failureOf_88 : decode cX3_failureOf 88 = .ok (.aload_n 0, 1) := by decide +kernel
theorem dX3_failureOf_89 : decode cX3_failureOf 89 = .ok (.getfield 61, 3) := by decide +kernel
theorem dX3_failureOf_92 : decode cX3_failureOf 92 = .ok (.imul, 1) := by decide +kernel
theorem dX3_failureOf_93 : decode cX3_failureOf 93 = .ok (.aload_n 0, 1) := by decide +kernel
theorem dX3_failureOf_94 : decode cX3_failureOf 94 = .ok (.getfield 65, 3) := by decide +kernel
theorem dX3_failureOf_97 : decode cX3_failureOf 97 = .ok (.iload_n 3, 1) := by decide +kernel
theorem dX3_failureOf_98 : decode cX3_failureOf 98 = .ok (.imul, 1) := by decide +kernel
theorem dX3_failureOf_99 : decode cX3_failureOf 99 = .ok (.if_icmp .le 15, 3) := by decide +kernel
theorem dX3_failureOf_102 : decode cX3_failureOf 102 = .ok (.aload_n 0, 1) := by decide +kernel
theorem dX3_failureOf_103 : decode cX3_failureOf 103 = .ok (.iconst 3, 1) := by decide +kernel
theorem dX3_failureOf_104 : decode cX3_failureOf 104 = .ok (.iload 6, 2) := by decide +kernel
theorem dX3_failureOf_106 : decode cX3_failureOf 106 = .ok (.iload 6, 2) := by decide +kernel
theorem dX3_failureOf_108 : decode cX3_failureOf 108 = .ok (.iconst 4, 1) := by decide +kernel
theorem dX3_failureOf_109 : decode cX3_failureOf 109 = .ok (.iadd, 1) := by decide +kernel
theorem dX3_failureOf_110 : decode cX3_failureOf 110 = .ok (.invokevirtual 45, 3) := by decide +kernel
theorem dX3_failureOf_113 : decode cX3_failureOf 113 = .ok (.ireturn, 1) := by decide +kernel
theorem dX3_failureOf_114 : decode cX3_failureOf 114 = .ok (.aload_n 0, 1) := by decide +kernel
theorem dX3_failureOf_115 : decode cX3_failureOf 115 = .ok (.getfield 14, 3) := by decide +kernel
theorem dX3_failureOf_118 : decode cX3_failureOf 118 = .ok (.aload_n 0, 1) := by decide +kernel
theorem dX3_failureOf_119 : decode cX3_failureOf 119 = .ok (.getfield 68, 3) := by decide +kernel
theorem dX3_failureOf_122 : decode cX3_failureOf 122 = .ok (.invokevirtual 71, 3) := by decide +kernel
theorem dX3_failureOf_125 : decode cX3_failureOf 125 = .ok (.iinc 5 1, 3) := by decide +kernel
theorem dX3_failureOf_128 : decode cX3_failureOf 128 = .ok (.goto (-73), 3) := by decide +kernel
theorem dX3_failureOf_131 : decode cX3_failureOf 131 = .ok (.aload_n 0, 1) := by decide +kernel
theorem dX3_failureOf_132 : decode cX3_failureOf 132 = .ok (.invokevirtual 74, 3) := by decide +kernel
theorem dX3_failureOf_135 : decode cX3_failureOf 135 = .ok (.ifCond .ne 25, 3) := by decide +kernel
theorem dX3_failureOf_138 : decode cX3_failureOf 138 = .ok (.aload_n 0, 1) := by decide +kernel
theorem dX3_failureOf_139 : decode cX3_failureOf 139 = .ok (.iconst 4, 1) := by decide +kernel
theorem dX3_failureOf_140 : decode cX3_failureOf 140 = .ok (.aload_n 0, 1) := by decide +kernel
theorem dX3_failureOf_141 : decode cX3_failureOf 141 = .ok (.getfield 20, 3) := by decide +kernel
theorem dX3_failureOf_144 : decode cX3_failureOf 144 = .ok (.invokevirtual 37, 3) := by decide +kernel
theorem dX3_failureOf_147 : decode cX3_failureOf 147 = .ok (.iconst 2, 1) := by decide +kernel
theorem dX3_failureOf_148 : decode cX3_failureOf 148 = .ok (.isub, 1) := by decide +kernel
theorem dX3_failureOf_149 : decode cX3_failureOf 149 = .ok (.aload_n 0, 1) := by decide +kernel
theorem dX3_failureOf_150 : decode cX3_failureOf 150 = .ok (.getfield 20, 3) := by decide +kernel
theorem dX3_failureOf_153 : decode cX3_failureOf 153 = .ok (.invokevirtual 37, 3) := by decide +kernel
theorem dX3_failureOf_156 : decode cX3_failureOf 156 = .ok (.invokevirtual 45, 3) := by decide +kernel
theorem dX3_failureOf_159 : decode cX3_failureOf 159 = .ok (.ireturn, 1) := by decide +kernel
theorem dX3_failureOf_160 : decode cX3_failureOf 160 = .ok (.aload_n 0, 1) := by decide +kernel
theorem dX3_failureOf_161 : decode cX3_failureOf 161 = .ok (.getfield 14, 3) := by decide +kernel
theorem dX3_failureOf_164 : decode cX3_failureOf 164 = .ok (.iload 4, 2) := by decide +kernel
theorem dX3_failureOf_166 : decode cX3_failureOf 166 = .ok (.iconst 1, 1) := by decide +kernel
theorem dX3_failureOf_167 : decode cX3_failureOf 167 = .ok (.isub, 1) := by decide +kernel
theorem dX3_failureOf_168 : decode cX3_failureOf 168 = .ok (.invokevirtual 77, 3) := by decide +kernel
theorem dX3_failureOf_171 : decode cX3_failureOf 171 = .ok (.aload_n 0, 1) := by decide +kernel
theorem dX3_failureOf_172 : decode cX3_failureOf 172 = .ok (.getfield 14, 3) := by decide +kernel
theorem dX3_failureOf_175 : decode cX3_failureOf 175 = .ok (.iload 4, 2) := by decide +kernel
theorem dX3_failureOf_177 : decode cX3_failureOf 177 = .ok (.iconst 1, 1) := by decide +kernel
theorem dX3_failureOf_178 : decode cX3_failureOf 178 = .ok (.isub, 1) := by decide +kernel
theorem dX3_failureOf_179 : decode cX3_failureOf 179 = .ok (.invokestatic 80, 3) := by decide +kernel
theorem dX3_failureOf_182 : decode cX3_failureOf 182 = .ok (.if_icmp .ne 7, 3) := by decide +kernel
theorem dX3_failureOf_185 : decode cX3_failureOf 185 = .ok (.iconst 1, 1) := by decide +kernel
theorem dX3_failureOf_186 : decode cX3_failureOf 186 = .ok (.goto 4, 3) := by decide +kernel
theorem dX3_failureOf_189 : decode cX3_failureOf 189 = .ok (.iconst 0, 1) := by decide +kernel
theorem dX3_failureOf_190 : decode cX3_failureOf 190 = .ok (.istore 5, 2) := by decide +kernel
theorem dX3_failureOf_192 : decode cX3_failureOf 192 = .ok (.iload 5, 2) := by decide +kernel
theorem dX3_failureOf_194 : decode cX3_failureOf 194 = .ok (.ifCond .eq 7, 3) := by decide +kernel
theorem dX3_failureOf_197 : decode cX3_failureOf 197 = .ok (.iconst 0, 1) := by decide +kernel
theorem dX3_failureOf_198 : decode cX3_failureOf 198 = .ok (.goto 16, 3) := by decide +kernel
theorem dX3_failureOf_201 : decode cX3_failureOf 201 = .ok (.aload_n 0, 1) := by decide +kernel
theorem dX3_failureOf_202 : decode cX3_failureOf 202 = .ok (.iconst 5, 1) := by decide +kernel
theorem dX3_failureOf_203 : decode cX3_failureOf 203 = .ok (.iconst 0, 1) := by decide +kernel
theorem dX3_failureOf_204 : decode cX3_failureOf 204 = .ok (.aload_n 0, 1) := by decide +kernel
theorem dX3_failureOf_205 : decode cX3_failureOf 205 = .ok (.getfield 20, 3) := by decide +kernel
theorem dX3_failureOf_208 : decode cX3_failureOf 208 = .ok (.invokevirtual 37, 3) := by decide +kernel
theorem dX3_failureOf_211 : decode cX3_failureOf 211 = .ok (.invokevirtual 45, 3) := by decide +kernel
theorem dX3_failureOf_214 : decode cX3_failureOf 214 = .ok (.ireturn, 1) := by decide +kernel
theorem dX3_resultOf_0 : decode cX3_resultOf 0 = .ok (.aload_n 0, 1) := by decide +kernel
theorem dX3_resultOf_1 : decode cX3_resultOf 1 = .ok (.aload_n 1, 1) := by decide +kernel
theorem dX3_resultOf_2 : decode cX3_resultOf 2 = .ok (.iconst 0, 1) := by decide +kernel
theorem dX3_resultOf_3 : decode cX3_resultOf 3 = .ok (.iload_n 2, 1) := by decide +kernel
theorem dX3_resultOf_4 : decode cX3_resultOf 4 = .ok (.invokevirtual 23, 3) := by decide +kernel
theorem dX3_resultOf_7 : decode cX3_resultOf 7 = .ok (.istore_n 3, 1) := by decide +kernel
theorem dX3_resultOf_8 : decode cX3_resultOf 8 = .ok (.iload_n 3, 1) := by decide +kernel
theorem dX3_resultOf_9 : decode cX3_resultOf 9 = .ok (.ifCond .ne 5, 3) := by decide +kernel
theorem dX3_resultOf_12 : decode cX3_resultOf 12 = .ok (.iconst 0, 1) := by decide +kernel
theorem dX3_resultOf_13 : decode cX3_resultOf 13 = .ok (.ireturn, 1) := by decide +kernel
theorem dX3_resultOf_14 : decode cX3_resultOf 14 = .ok (.aload_n 0, 1) := by decide +kernel
theorem dX3_resultOf_15 : decode cX3_resultOf 15 = .ok (.aload_n 1, 1) := by decide +kernel
theorem dX3_resultOf_16 : decode cX3_resultOf 16 = .ok (.iconst 1, 1) := by decide +kernel
theorem dX3_resultOf_17 : decode cX3_resultOf 17 = .ok (.iload_n 2, 1) := by decide +kernel
theorem dX3_resultOf_18 : decode cX3_resultOf 18 = .ok (.invokevirtual 23, 3) := by decide +kernel
theorem dX3_resultOf_21 : decode cX3_resultOf 21 = .ok (.istore 4, 2) := by decide +kernel
theorem dX3_resultOf_23 : decode cX3_resultOf 23 = .ok (.iload 4, 2) := by decide +kernel
theorem dX3_resultOf_25 : decode cX3_resultOf 25 = .ok (.ifCond .ne 7, 3) := by decide +kernel
theorem dX3_resultOf_28 : decode cX3_resultOf 28 = .ok (.iconst (-1), 1) := by decide +kernel
theorem dX3_resultOf_29 : decode cX3_resultOf 29 = .ok (.goto 9, 3) := by decide +kernel
theorem dX3_resultOf_32 : decode cX3_resultOf 32 = .ok (.iload_n 3, 1) := by decide +kernel
theorem dX3_resultOf_33 : decode cX3_resultOf 33 = .ok (.iload 4, 2) := by decide +kernel
theorem dX3_resultOf_35 : decode cX3_resultOf 35 = .ok (.invokestatic 27, 3) := by decide +kernel
theorem dX3_resultOf_38 : decode cX3_resultOf 38 = .ok (.ireturn, 1) := by decide +kernel
theorem dX7_hasSucceeded_0 : decode cX7_hasSucceeded 0 = .ok (.iload_n 0, 1) := by decide +kernel
theorem dX7_hasSucceeded_1 : decode cX7_hasSucceeded 1 = .ok (.ifCond .eq 8, 3) := by decide +kernel
theorem dX7_hasSucceeded_4 : decode cX7_hasSucceeded 4 = .ok (.iload_n 0, 1) := by decide +kernel
theorem dX7_hasSucceeded_5 : decode cX7_hasSucceeded 5 = .ok (.iconst (-1), 1) := by decide +kernel
theorem dX7_hasSucceeded_6 : decode cX7_hasSucceeded 6 = .ok (.if_icmp .ne 7, 3) := by decide +kernel
theorem dX7_hasSucceeded_9 : decode cX7_hasSucceeded 9 = .ok (.iconst 1, 1) := by decide +kernel
theorem dX7_hasSucceeded_10 : decode cX7_hasSucceeded 10 = .ok (.goto 4, 3) := by decide +kernel
theorem dX7_hasSucceeded_13 : decode cX7_hasSucceeded 13 = .ok (.iconst 0, 1) := by decide +kernel
theorem dX7_hasSucceeded_14 : decode cX7_hasSucceeded 14 = .ok (.ireturn, 1) := by decide +kernel
set_option maxHeartbeats 4000000 in
set_option maxRecDepth 100000 in
theorem c_layOut0 (l : Launch) (D : va_G) (re : Nat) (rd : Nat) (nd : Int32) (rl : Nat) (ldi : Int32) (sot : Int32) (tie : Int32) (ff : Int32) (ft : Int32) (rdA : Nat) (rdN : Int32) (rlA : Nat) (rlN : Int32) (tm : Nat) (tmA : Nat) (b : Int32) (sz : Nat) : k_Mv (S := Unit) l D yX3_layOut cX3_layOut 4 none 1 0 0 20 [.ref re, .ref tm, .int b] [(re, .inr (3, [.ref rd, .int nd, .ref rl, .int ldi, .int sot, .int tie, .int ff, .int ft])), (rd, .inr (4, [.ref rdA, .int rdN])), (rl, .inr (4, [.ref rlA, .int rlN])), (tm, .inr (4, [.ref tmA, .int 0]))] [] (fun (_ : Unit) => True) (fun _ => [(re, .inr (3, [.ref rd, .int nd, .ref rl, .int ldi, .int sot, .int tie, .int ff, .int ft])), (rd, .inr (4, [.ref rdA, .int 0])), (rl, .inr (4, [.ref rlA, .int 0])), (tm, .inr (4, [.ref tmA, .int 0]))]) (fun _ => []) sz := by
  refine Met.ofW (cc := cX3_layOut) (maxL := 4) (ret := none) (by decide) rfl ?_
  intro p e s m args below meth c s₁ B hml hv
  obtain ⟨rfl, hsz, hP, hK, hD0, hG⟩ := hv
  have hx := B.exec
  have hb := B.bytes
  have hr := B.returns
  have ht : ∀ v9 ∈ wsA, v9.before ([.ref re, .ref tm, .int b] : List Value).toArray s = true := fun v9 h9 => atoms_spec (ws := k_ws yX3_layOut cX3_layOut 4 none) B.pre v9 (List.mem_cons_of_mem _ h9)
  have hown : s.vm.findClass RX3 = some m.cls := findClass_of_methodNamed B.named
  have S0 : k_C p s m ([.ref re, .ref tm, .int b] : List Value).toArray c cX3_layOut 4 RX3 := ⟨hx, hb, hml, hown, ht⟩
  have hlocks := B.notSynchronized
  subst hsz
  have hD := hD0.self (sz := s.heap.size)
  generalize hAe : va_A [(re, .inr (3, [.ref rd, .int nd, .ref rl, .int ldi, .int sot, .int tie, .int ff, .int ft])), (rd, .inr (4, [.ref rdA, .int rdN])), (rl, .inr (4, [.ref rlA, .int rlN])), (tm, .inr (4, [.ref tmA, .int 0]))] s.heap.size = A at hD hG ⊢
  have hA : ∀ q : Nat, s.heap.size ≤ q → A q := fun q h => by rw [← hAe]; exact Or.inr h
  have hS : va_S A s.heap s.heap [] := va_S.rf
  have hl := lv_entry ([.ref re, .ref tm, .int b]) (n := 4) (Nat.le_of_ble_eq_true rfl)
  rw [lg_entry_eq]
  generalize (lg_sl ([.ref re, .ref tm, .int b]) ++ List.replicate (4 - (lg_sl ([.ref re, .ref tm, .int b])).length) Slot.unset).toArray = ls at hl ⊢
  have hl : lv_has ls 4 [(0, .ref re), (1, .ref tm), (2, .int b)] := hl
  have hP : va_P D vwCl [(re, .inr (3, [.ref rd, .int nd, .ref rl, .int ldi, .int sot, .int tie, .int ff, .int ft])), (rd, .inr (4, [.ref rdA, .int rdN])), (rl, .inr (4, [.ref rlA, .int rlN])), (tm, .inr (4, [.ref tmA, .int 0]))] s.heap := hP
  refine lv_aload_n hx hb dX3_layOut_0 rfl (lv_at hl 0 rfl) ?_
  refine va_get (D := D) (ci := 3) (v := .ref rd) (C := RX3) (T := TX3) (N := 8) hx hb ht inA_X3 hown hK hP 0 rfl rfl 0 (by decide) (ht _ lf_X3_14) (fun _ h9 => h9) rfl dX3_layOut_1 ?_
  have ct := k_cut_of (wc := [(rd, .inr (4, [.ref rdA, .int rdN]))]) (wr := [(re, .inr (3, [.ref rd, .int nd, .ref rl, .int ldi, .int sot, .int tie, .int ff, .int ft])), (rl, .inr (4, [.ref rlA, .int rlN])), (tm, .inr (4, [.ref tmA, .int 0]))]) (tc := []) hG hS hA hK hP hD [1] [0, 2, 3] [] rfl rfl (by decide) (by decide) (by decide) rfl
  refine k_endv (As := [.ref rd]) ct (k_runV (As := []) (rest := []) S0 Lv_X3_97 rfl (ci := 4) (q0 := 0) rfl rfl ct (c_Row_clear l D rd rdA rdN s.heap.size) hl.1 rfl (Nat.le_of_ble_eq_true rfl) rfl dX3_layOut_4 ⟨⟨Nat.le_of_ble_eq_true rfl, Nat.le_of_ble_eq_true rfl⟩, Nat.le_of_ble_eq_true rfl, Nat.le_of_ble_eq_true rfl⟩) rfl rfl (fun _ _ H locs hw_2 hP hD hK hS => ?_)
  have hK : va_K D vwCl [] s := hK
  have hP : va_P D vwCl [(re, .inr (3, [.ref rd, .int nd, .ref rl, .int ldi, .int sot, .int tie, .int ff, .int ft])), (rl, .inr (4, [.ref rlA, .int rlN])), (tm, .inr (4, [.ref tmA, .int 0])), (rd, .inr (4, [.ref rdA, .int 0]))] H := hP
  have hD : va_D A [(re, .inr (3, [.ref rd, .int nd, .ref rl, .int ldi, .int sot, .int tie, .int ff, .int ft])), (rl, .inr (4, [.ref rlA, .int rlN])), (tm, .inr (4, [.ref tmA, .int 0])), (rd, .inr (4, [.ref rdA, .int 0]))] := hD
  refine lv_aload_n hx hb dX3_layOut_7 rfl (lv_at hl 0 rfl) ?_
  refine va_get (D := D) (ci := 3) (v := .ref rl) (C := RX3) (T := TX3) (N := 8) hx hb ht inA_X3 hown hK hP 0 rfl rfl 2 (by decide) (ht _ lf_X3_20) (fun _ h9 => h9) rfl dX3_layOut_8 ?_
  have ct := k_cut_of (wc := [(rl, .inr (4, [.ref rlA, .int rlN]))]) (wr := [(re, .inr (3, [.ref rd, .int nd, .ref rl, .int ldi, .int sot, .int tie, .int ff, .int ft])), (tm, .inr (4, [.ref tmA, .int 0])), (rd, .inr (4, [.ref rdA, .int 0]))]) (tc := []) hG hS hA hK hP hD [1] [0, 2, 3] [] rfl rfl (by decide) (by decide) (by decide) rfl
  refine k_endv (As := [.ref rl]) ct (k_runV (As := []) (rest := []) S0 Lv_X3_97 rfl (ci := 4) (q0 := 0) rfl rfl ct (c_Row_clear l D rl rlA rlN H.size) hl.1 rfl (Nat.le_of_ble_eq_true rfl) rfl dX3_layOut_11 ⟨⟨Nat.le_of_ble_eq_true rfl, Nat.le_of_ble_eq_true rfl⟩, Nat.le_of_ble_eq_true rfl, Nat.le_of_ble_eq_true rfl⟩) rfl rfl (fun _ _ H locs hw_4 hP hD hK hS => ?_)
  have hK : va_K D vwCl [] s := hK
  have hP : va_P D vwCl [(re, .inr (3, [.ref rd, .int nd, .ref rl, .int ldi, .int sot, .int tie, .int ff, .int ft])), (tm, .inr (4, [.ref tmA, .int 0])), (rd, .inr (4, [.ref rdA, .int 0])), (rl, .inr (4, [.ref rlA, .int 0]))] H := hP
  have hD : va_D A [(re, .inr (3, [.ref rd, .int nd, .ref rl, .int ldi, .int sot, .int tie, .int ff, .int ft])), (tm, .inr (4, [.ref tmA, .int 0])), (rd, .inr (4, [.ref rdA, .int 0])), (rl, .inr (4, [.ref rlA, .int 0]))] := hD
  refine lv_iconst (v := 0) hx hb dX3_layOut_14 (by decide) ?_
  refine lv_istore_n (lv' := [(3, .int 0), (0, .ref re), (1, .ref tm), (2, .int b)]) hx hb dX3_layOut_15 rfl hl (by decide) rfl (fun ls hl => ?_)
  refine lv_iload_n hx hb dX3_layOut_16 rfl (lv_at hl 0 rfl) ?_
  refine lv_aload_n hx hb dX3_layOut_17 rfl (lv_at hl 2 rfl) ?_
  have ct := k_cut_of (wc := [(tm, .inr (4, [.ref tmA, .int 0]))]) (wr := [(re, .inr (3, [.ref rd, .int nd, .ref rl, .int ldi, .int sot, .int tie, .int ff, .int ft])), (rd, .inr (4, [.ref rdA, .int 0])), (rl, .inr (4, [.ref rlA, .int 0]))]) (tc := []) hG hS hA hK hP hD [1] [0, 2, 3] [] rfl rfl (by decide) (by decide) (by decide) rfl
  refine k_endi (As := [.ref tm]) ct (k_runV (As := []) (rest := [.int 0]) S0 Lv_X3_37 rfl (ci := 4) (q0 := 0) rfl rfl ct (c_Row_size l D tm tmA 0 H.size) hl.1 rfl (Nat.le_of_ble_eq_true rfl) rfl dX3_layOut_18 ⟨⟨Nat.le_of_ble_eq_true rfl, Nat.le_of_ble_eq_true rfl⟩, Nat.le_of_ble_eq_true rfl, Nat.le_of_ble_eq_true rfl⟩) rfl rfl (fun r_5 _ H locs hw_6 hP hD hK hS => ?_)
  have hK : va_K D vwCl [] s := hK
  have hP : va_P D vwCl [(re, .inr (3, [.ref rd, .int nd, .ref rl, .int ldi, .int sot, .int tie, .int ff, .int ft])), (rd, .inr (4, [.ref rdA, .int 0])), (rl, .inr (4, [.ref rlA, .int 0])), (tm, .inr (4, [.ref tmA, .int 0]))] H := hP
  have hD : va_D A [(re, .inr (3, [.ref rd, .int nd, .ref rl, .int ldi, .int sot, .int tie, .int ff, .int ft])), (rd, .inr (4, [.ref rdA, .int 0])), (rl, .inr (4, [.ref rlA, .int 0])), (tm, .inr (4, [.ref tmA, .int 0]))] := hD
  have hw_6 : r_5 = 0 := hw_6
  have hw_6 := hw_6.symm
  subst hw_6
  refine k_nrm (y := 0) rfl ?_
  refine lv_icmp_ge (tgt := 57) hx hb dX3_layOut_21 (by decide) (fun _ => ?_) (fun c9 => absurd (by decide) c9)
  have hP9 : va_P D vwCl [(re, .inr (3, [.ref rd, .int nd, .ref rl, .int ldi, .int sot, .int tie, .int ff, .int ft])), (rd, .inr (4, [.ref rdA, .int 0])), (rl, .inr (4, [.ref rlA, .int 0])), (tm, .inr (4, [.ref tmA, .int 0]))] H := hP.sub [0, 1, 2, 3] rfl
  have hD9 : va_D A [(re, .inr (3, [.ref rd, .int nd, .ref rl, .int ldi, .int sot, .int tie, .int ff, .int ft])), (rd, .inr (4, [.ref rdA, .int 0])), (rl, .inr (4, [.ref rlA, .int 0])), (tm, .inr (4, [.ref tmA, .int 0]))] := hD.sub [0, 1, 2, 3] (by decide) rfl
  have hK9 : va_K D vwCl [] s := hK.sub [] rfl
  exact W.vret hx hb hr (fun t ht9 hW9 => ⟨⟨(), rfl, by first | rfl | trivial | (simp only [if_true, if_false, reduceIte, and_self]; done) | simp_all, ⟨by rw [ht9]; exact hP9, va_K.moved hW9.alike hK9, hD9⟩⟩, hS.F ht9⟩) hS.2.2 dX3_layOut_57
set_option maxHeartbeats 4000000 in
set_option maxRecDepth 100000 in
theorem c_digitsOf0 (l : Launch) (D : va_G) (sz : Nat) : k_Mi (S := Unit) l D yX3_digitsOf cX3_digitsOf 4 (some .int) 0 0 0 0 [.int 0] [] [] (fun (r : Int32) (_ : Unit) => r = 0) (fun _ => []) (fun _ => []) sz := by
  refine Met.ofW (cc := cX3_digitsOf) (maxL := 4) (ret := (some .int)) (by decide) rfl ?_
  intro p e s m args below meth c s₁ B hml hv
  obtain ⟨rfl, hsz, hP, hK, hD0, hG⟩ := hv
  have hx := B.exec
  have hb := B.bytes
  have hr := B.returns
  have ht : ∀ v9 ∈ wsA, v9.before ([.int 0] : List Value).toArray s = true := fun v9 h9 => atoms_spec (ws := k_ws yX3_digitsOf cX3_digitsOf 4 (some .int)) B.pre v9 (List.mem_cons_of_mem _ h9)
  have hown : s.vm.findClass RX3 = some m.cls := findClass_of_methodNamed B.named
  have S0 : k_C p s m ([.int 0] : List Value).toArray c cX3_digitsOf 4 RX3 := ⟨hx, hb, hml, hown, ht⟩
  have hlocks := B.notSynchronized
  subst hsz
  have hD := hD0.self (sz := s.heap.size)
  generalize hAe : va_A [] s.heap.size = A at hD hG ⊢
  have hA : ∀ q : Nat, s.heap.size ≤ q → A q := fun q h => by rw [← hAe]; exact Or.inr h
  have hS : va_S A s.heap s.heap [] := va_S.rf
  have hl := lv_entry ([.int 0]) (n := 4) (Nat.le_of_ble_eq_true rfl)
  rw [lg_entry_eq]
  generalize (lg_sl ([.int 0]) ++ List.replicate (4 - (lg_sl ([.int 0])).length) Slot.unset).toArray = ls at hl ⊢
  have hl : lv_has ls 4 [(0, .int 0)] := hl
  have hP : va_P D vwCl [] s.heap := hP
  refine lv_iload_n hx hb dX3_digitsOf_0 rfl (lv_at hl 0 rfl) ?_
  refine lv_iconst (v := 3) hx hb dX3_digitsOf_1 (by decide) ?_
  refine lv_isub hx hb dX3_digitsOf_2 ?_
  refine k_nrm (y := (-3)) (by decide) ?_
  refine lv_iconst (v := 2) hx hb dX3_digitsOf_3 (by decide) ?_
  refine lv_isub hx hb dX3_digitsOf_4 ?_
  refine k_nrm (y := (-5)) (by decide) ?_
  refine lv_istore_n (lv' := [(1, .int (-5)), (0, .int 0)]) hx hb dX3_digitsOf_5 rfl hl (by decide) rfl (fun ls hl => ?_)
  refine lv_iload_n hx hb dX3_digitsOf_6 rfl (lv_at hl 0 rfl) ?_
  refine lv_iconst (v := 4) hx hb dX3_digitsOf_7 (by decide) ?_
  refine lv_idiv hx hb dX3_digitsOf_8 (by decide) ?_
  refine k_nrm (y := (-1)) (by decide) ?_
  refine lv_istore_n (lv' := [(2, .int (-1)), (1, .int (-5)), (0, .int 0)]) hx hb dX3_digitsOf_9 rfl hl (by decide) rfl (fun ls hl => ?_)
  refine lv_iload_n hx hb dX3_digitsOf_10 rfl (lv_at hl 1 rfl) ?_
  refine lv_iconst (v := 4) hx hb dX3_digitsOf_11 (by decide) ?_
  refine lv_irem hx hb dX3_digitsOf_12 (by decide) ?_
  refine k_nrm (y := (-1)) (by decide) ?_
  refine lv_if_ne (tgt := 20) hx hb dX3_digitsOf_13 (by decide) (fun _ => ?_) (fun c9 => absurd c9 (by decide))
  refine lv_iconst (v := 0) hx hb dX3_digitsOf_20 (by decide) ?_
  refine lv_istore_n (lv' := [(3, .int 0), (2, .int (-1)), (1, .int (-5)), (0, .int 0)]) hx hb dX3_digitsOf_21 rfl hl (by decide) rfl (fun ls hl => ?_)
  refine lv_iload_n hx hb dX3_digitsOf_22 rfl (lv_at hl 0 rfl) ?_
  refine lv_if_eq (tgt := 41) hx hb dX3_digitsOf_23 (by decide) (fun _ => ?_) (fun c9 => absurd (by decide) c9)
  refine lv_iconst (v := 0) hx hb dX3_digitsOf_41 (by decide) ?_
  have hP9 : va_P D vwCl [] s.heap := hP.sub [] rfl
  have hD9 : va_D A [] := hD.sub [] (by decide) rfl
  have hK9 : va_K D vwCl [] s := hK.sub [] rfl
  exact W.iret (v := 0) hx hb hr (fun t ht9 hW9 => ⟨⟨0, (), rfl, by first | rfl | trivial | (simp only [if_true, if_false, reduceIte, and_self]; done) | simp_all, ⟨by rw [ht9]; exact hP9, va_K.moved hW9.alike hK9, hD9⟩⟩, hS.F ht9⟩) hS.2.2 dX3_digitsOf_42
set_option maxHeartbeats 4000000 in
set_option maxRecDepth 100000 in
theorem c_failAt (l : Launch) (D : va_G) (re : Nat) (rd : Nat) (nd : Int32) (rl : Nat) (ldi : Int32) (sot : Int32) (tie : Int32) (ff : Int32) (ft : Int32) (v : Int32) (v1 : Int32) (v2 : Int32) (sz : Nat) : k_Mi (S := Unit) l D yX3_failAt cX3_failAt 4 (some .int) 0 0 0 0 [.ref re, .int v, .int v1, .int v2] [(re, .inr (3, [.ref rd, .int nd, .ref rl, .int ldi, .int sot, .int tie, .int ff, .int ft]))] [] (fun (r : Int32) (_ : Unit) => r = v) (fun _ => [(re, .inr (3, [.ref rd, .int nd, .ref rl, .int ldi, .int sot, .int tie, .int v1, .int v2]))]) (fun _ => []) sz := by
  refine Met.ofW (cc := cX3_failAt) (maxL := 4) (ret := (some .int)) (by decide) rfl ?_
  intro p e s m args below meth c s₁ B hml hv
  obtain ⟨rfl, hsz, hP, hK, hD0, hG⟩ := hv
  have hx := B.exec
  have hb := B.bytes
  have hr := B.returns
  have ht : ∀ v9 ∈ wsA, v9.before ([.ref re, .int v, .int v1, .int v2] : List Value).toArray s = true := fun v9 h9 => atoms_spec (ws := k_ws yX3_failAt cX3_failAt 4 (some .int)) B.pre v9 (List.mem_cons_of_mem _ h9)
  have hown : s.vm.findClass RX3 = some m.cls := findClass_of_methodNamed B.named
  have S0 : k_C p s m ([.ref re, .int v, .int v1, .int v2] : List Value).toArray c cX3_failAt 4 RX3 := ⟨hx, hb, hml, hown, ht⟩
  have hlocks := B.notSynchronized
  subst hsz
  have hD := hD0.self (sz := s.heap.size)
  generalize hAe : va_A [(re, .inr (3, [.ref rd, .int nd, .ref rl, .int ldi, .int sot, .int tie, .int ff, .int ft]))] s.heap.size = A at hD hG ⊢
  have hA : ∀ q : Nat, s.heap.size ≤ q → A q := fun q h => by rw [← hAe]; exact Or.inr h
  have hS : va_S A s.heap s.heap [] := va_S.rf
  have hl := lv_entry ([.ref re, .int v, .int v1, .int v2]) (n := 4) (Nat.le_of_ble_eq_true rfl)
  rw [lg_entry_eq]
  generalize (lg_sl ([.ref re, .int v, .int v1, .int v2]) ++ List.replicate (4 - (lg_sl ([.ref re, .int v, .int v1, .int v2])).length) Slot.unset).toArray = ls at hl ⊢
  have hl : lv_has ls 4 [(0, .ref re), (1, .int v), (2, .int v1), (3, .int v2)] := hl
  have hP : va_P D vwCl [(re, .inr (3, [.ref rd, .int nd, .ref rl, .int ldi, .int sot, .int tie, .int ff, .int ft]))] s.heap := hP
  refine lv_aload_n hx hb dX3_failAt_0 rfl (lv_at hl 0 rfl) ?_
  refine lv_iload_n hx hb dX3_failAt_1 rfl (lv_at hl 2 rfl) ?_
  refine va_put (D := D) (ci := 3) (v := .int v1) (ty := .int) (C := RX3) (T := TX3) (N := 8) hx hb ht inA_X3 tyX3 tyX3_ok nmX3 hown hK hP hD hS 0 rfl rfl 6 (by decide) (ht _ lf_X3_84) (fun _ h9 => h9) rfl (tyX3_ok 6 (by decide)) rfl rfl (Nat.le_of_ble_eq_true rfl) dX3_failAt_2 (fun H locs hP hD hS => ?_)
  have hP : va_P D vwCl [(re, .inr (3, [.ref rd, .int nd, .ref rl, .int ldi, .int sot, .int tie, .int v1, .int ft]))] H := hP
  have hD : va_D A [(re, .inr (3, [.ref rd, .int nd, .ref rl, .int ldi, .int sot, .int tie, .int v1, .int ft]))] := hD
  refine lv_aload_n hx hb dX3_failAt_5 rfl (lv_at hl 0 rfl) ?_
  refine lv_iload_n hx hb dX3_failAt_6 rfl (lv_at hl 3 rfl) ?_
  refine va_put (D := D) (ci := 3) (v := .int v2) (ty := .int) (C := RX3) (T := TX3) (N := 8) hx hb ht inA_X3 tyX3 tyX3_ok nmX3 hown hK hP hD hS 0 rfl rfl 7 (by decide) (ht _ lf_X3_87) (fun _ h9 => h9) rfl (tyX3_ok 7 (by decide)) rfl rfl (Nat.le_of_ble_eq_true rfl) dX3_failAt_7 (fun H locs hP hD hS => ?_)
  have hP : va_P D vwCl [(re, .inr (3, [.ref rd, .int nd, .ref rl, .int ldi, .int sot, .int tie, .int v1, .int v2]))] H := hP
  have hD : va_D A [(re, .inr (3, [.ref rd, .int nd, .ref rl, .int ldi, .int sot, .int tie, .int v1, .int v2]))] := hD
  refine lv_iload_n hx hb dX3_failAt_10 rfl (lv_at hl 1 rfl) ?_
  have hP9 : va_P D vwCl [(re, .inr (3, [.ref rd, .int nd, .ref rl, .int ldi, .int sot, .int tie, .int v1, .int v2]))] H := hP.sub [0] rfl
  have hD9 : va_D A [(re, .inr (3, [.ref rd, .int nd, .ref rl, .int ldi, .int sot, .int tie, .int v1, .int v2]))] := hD.sub [0] (by decide) rfl
  have hK9 : va_K D vwCl [] s := hK.sub [] rfl
  exact W.iret (v := v) hx hb hr (fun t ht9 hW9 => ⟨⟨v, (), rfl, by first | rfl | trivial | (simp only [if_true, if_false, reduceIte, and_self]; done) | simp_all, ⟨by rw [ht9]; exact hP9, va_K.moved hW9.alike hK9, hD9⟩⟩, hS.F ht9⟩) hS.2.2 dX3_failAt_11
set_option maxHeartbeats 4000000 in
set_option maxRecDepth 100000 in
theorem c_failureOf0 (l : Launch) (D : va_G) (re : Nat) (rd : Nat) (nd : Int32) (rl : Nat) (ldi : Int32) (sot : Int32) (tie : Int32) (ff : Int32) (ft : Int32) (rdA : Nat) (rdN : Int32) (rlA : Nat) (rlN : Int32) (tm : Nat) (tmA : Nat) (b : Int32) (to : Int32) (sz : Nat) : k_Mi (S := Unit) l D yX3_failureOf cX3_failureOf 7 (some .int) 2 0 0 43 [.ref re, .ref tm, .int b, .int to] [(re, .inr (3, [.ref rd, .int nd, .ref rl, .int ldi, .int sot, .int tie, .int ff, .int ft])), (rd, .inr (4, [.ref rdA, .int rdN])), (rl, .inr (4, [.ref rlA, .int rlN])), (tm, .inr (4, [.ref tmA, .int 0]))] [] (fun (r : Int32) (_ : Unit) => r = 1) (fun _ => [(re, .inr (3, [.ref rd, .int nd, .ref rl, .int ldi, .int sot, .int tie, .int 0, .int 0])), (rd, .inr (4, [.ref rdA, .int 0])), (rl, .inr (4, [.ref rlA, .int 0])), (tm, .inr (4, [.ref tmA, .int 0]))]) (fun _ => []) sz := by
  refine Met.ofW (cc := cX3_failureOf) (maxL := 7) (ret := (some .int)) (by decide) rfl ?_
  intro p e s m args below meth c s₁ B hml hv
  obtain ⟨rfl, hsz, hP, hK, hD0, hG⟩ := hv
  have hx := B.exec
  have hb := B.bytes
  have hr := B.returns
  have ht : ∀ v9 ∈ wsA, v9.before ([.ref re, .ref tm, .int b, .int to] : List Value).toArray s = true := fun v9 h9 => atoms_spec (ws := k_ws yX3_failureOf cX3_failureOf 7 (some .int)) B.pre v9 (List.mem_cons_of_mem _ h9)
  have hown : s.vm.findClass RX3 = some m.cls := findClass_of_methodNamed B.named
  have S0 : k_C p s m ([.ref re, .ref tm, .int b, .int to] : List Value).toArray c cX3_failureOf 7 RX3 := ⟨hx, hb, hml, hown, ht⟩
  have hlocks := B.notSynchronized
  subst hsz
  have hD := hD0.self (sz := s.heap.size)
  generalize hAe : va_A [(re, .inr (3, [.ref rd, .int nd, .ref rl, .int ldi, .int sot, .int tie, .int ff, .int ft])), (rd, .inr (4, [.ref rdA, .int rdN])), (rl, .inr (4, [.ref rlA, .int rlN])), (tm, .inr (4, [.ref tmA, .int 0]))] s.heap.size = A at hD hG ⊢
  have hA : ∀ q : Nat, s.heap.size ≤ q → A q := fun q h => by rw [← hAe]; exact Or.inr h
  have hS : va_S A s.heap s.heap [] := va_S.rf
  have hl := lv_entry ([.ref re, .ref tm, .int b, .int to]) (n := 7) (Nat.le_of_ble_eq_true rfl)
  rw [lg_entry_eq]
  generalize (lg_sl ([.ref re, .ref tm, .int b, .int to]) ++ List.replicate (7 - (lg_sl ([.ref re, .ref tm, .int b, .int to])).length) Slot.unset).toArray = ls at hl ⊢
  have hl : lv_has ls 7 [(0, .ref re), (1, .ref tm), (2, .int b), (3, .int to)] := hl
  have hP : va_P D vwCl [(re, .inr (3, [.ref rd, .int nd, .ref rl, .int ldi, .int sot, .int tie, .int ff, .int ft])), (rd, .inr (4, [.ref rdA, .int rdN])), (rl, .inr (4, [.ref rlA, .int rlN])), (tm, .inr (4, [.ref tmA, .int 0]))] s.heap := hP
  refine lv_aload_n hx hb dX3_failureOf_0 rfl (lv_at hl 0 rfl) ?_
  refine lv_aload_n hx hb dX3_failureOf_1 rfl (lv_at hl 1 rfl) ?_
  refine lv_iload_n hx hb dX3_failureOf_2 rfl (lv_at hl 2 rfl) ?_
  have ct := k_cut_of (wc := [(re, .inr (3, [.ref rd, .int nd, .ref rl, .int ldi, .int sot, .int tie, .int ff, .int ft])), (rd, .inr (4, [.ref rdA, .int rdN])), (rl, .inr (4, [.ref rlA, .int rlN])), (tm, .inr (4, [.ref tmA, .int 0]))]) (wr := []) (tc := []) hG hS hA hK hP hD [0, 1, 2, 3] [] [] rfl rfl (by decide) (by decide) (by decide) rfl
  refine k_endv (As := [.ref re, .ref tm, .int b]) ct (k_runV (As := [.ref tm, .int b]) (rest := []) S0 Lv_X3_33 rfl (ci := 3) (q0 := 0) rfl rfl ct (c_layOut0 l D re rd nd rl ldi sot tie ff ft rdA rdN rlA rlN tm tmA b s.heap.size) hl.1 rfl (Nat.le_of_ble_eq_true rfl) rfl dX3_failureOf_3 ⟨⟨Nat.le_of_ble_eq_true rfl, Nat.le_of_ble_eq_true rfl⟩, Nat.le_of_ble_eq_true rfl, Nat.le_of_ble_eq_true rfl⟩) rfl rfl (fun _ _ H locs hw_2 hP hD hK hS => ?_)
  have hK : va_K D vwCl [] s := hK
  have hP : va_P D vwCl [(re, .inr (3, [.ref rd, .int nd, .ref rl, .int ldi, .int sot, .int tie, .int ff, .int ft])), (rd, .inr (4, [.ref rdA, .int 0])), (rl, .inr (4, [.ref rlA, .int 0])), (tm, .inr (4, [.ref tmA, .int 0]))] H := hP
  have hD : va_D A [(re, .inr (3, [.ref rd, .int nd, .ref rl, .int ldi, .int sot, .int tie, .int ff, .int ft])), (rd, .inr (4, [.ref rdA, .int 0])), (rl, .inr (4, [.ref rlA, .int 0])), (tm, .inr (4, [.ref tmA, .int 0]))] := hD
  refine lv_aload_n hx hb dX3_failureOf_6 rfl (lv_at hl 0 rfl) ?_
  refine va_get (D := D) (ci := 3) (v := .ref rl) (C := RX3) (T := TX3) (N := 8) hx hb ht inA_X3 hown hK hP 0 rfl rfl 2 (by decide) (ht _ lf_X3_20) (fun _ h9 => h9) rfl dX3_failureOf_7 ?_
  have ct := k_cut_of (wc := [(rl, .inr (4, [.ref rlA, .int 0]))]) (wr := [(re, .inr (3, [.ref rd, .int nd, .ref rl, .int ldi, .int sot, .int tie, .int ff, .int ft])), (rd, .inr (4, [.ref rdA, .int 0])), (tm, .inr (4, [.ref tmA, .int 0]))]) (tc := []) hG hS hA hK hP hD [2] [0, 1, 3] [] rfl rfl (by decide) (by decide) (by decide) rfl
  refine k_endi (As := [.ref rl]) ct (k_runV (As := []) (rest := []) S0 Lv_X3_37 rfl (ci := 4) (q0 := 0) rfl rfl ct (c_Row_size l D rl rlA 0 H.size) hl.1 rfl (Nat.le_of_ble_eq_true rfl) rfl dX3_failureOf_10 ⟨⟨Nat.le_of_ble_eq_true rfl, Nat.le_of_ble_eq_true rfl⟩, Nat.le_of_ble_eq_true rfl, Nat.le_of_ble_eq_true rfl⟩) rfl rfl (fun r_3 _ H locs hw_4 hP hD hK hS => ?_)
  have hK : va_K D vwCl [] s := hK
  have hP : va_P D vwCl [(re, .inr (3, [.ref rd, .int nd, .ref rl, .int ldi, .int sot, .int tie, .int ff, .int ft])), (rd, .inr (4, [.ref rdA, .int 0])), (tm, .inr (4, [.ref tmA, .int 0])), (rl, .inr (4, [.ref rlA, .int 0]))] H := hP
  have hD : va_D A [(re, .inr (3, [.ref rd, .int nd, .ref rl, .int ldi, .int sot, .int tie, .int ff, .int ft])), (rd, .inr (4, [.ref rdA, .int 0])), (tm, .inr (4, [.ref tmA, .int 0])), (rl, .inr (4, [.ref rlA, .int 0]))] := hD
  have hw_4 : r_3 = 0 := hw_4
  have hw_4 := hw_4.symm
  subst hw_4
  refine k_nrm (y := 0) rfl ?_
  have ct := k_cut_of (wc := []) (wr := [(re, .inr (3, [.ref rd, .int nd, .ref rl, .int ldi, .int sot, .int tie, .int ff, .int ft])), (rd, .inr (4, [.ref rdA, .int 0])), (tm, .inr (4, [.ref tmA, .int 0])), (rl, .inr (4, [.ref rlA, .int 0]))]) (tc := []) hG hS hA hK hP hD [] [0, 1, 2, 3] [] rfl rfl (by decide) (by decide) (by decide) rfl
  refine k_endi (As := [.int 0]) ct (k_runS (As := [.int 0]) (rest := []) S0 Ls_X3_41 ct (c_digitsOf0 l D H.size) hl.1 rfl (Nat.le_of_ble_eq_true rfl) rfl dX3_failureOf_13 ⟨⟨Nat.le_of_ble_eq_true rfl, Nat.le_of_ble_eq_true rfl⟩, Nat.le_of_ble_eq_true rfl, Nat.le_of_ble_eq_true rfl⟩) rfl rfl (fun r_5 _ H locs hw_6 hP hD hK hS => ?_)
  have hK : va_K D vwCl [] s := hK
  have hP : va_P D vwCl [(re, .inr (3, [.ref rd, .int nd, .ref rl, .int ldi, .int sot, .int tie, .int ff, .int ft])), (rd, .inr (4, [.ref rdA, .int 0])), (tm, .inr (4, [.ref tmA, .int 0])), (rl, .inr (4, [.ref rlA, .int 0]))] H := hP
  have hD : va_D A [(re, .inr (3, [.ref rd, .int nd, .ref rl, .int ldi, .int sot, .int tie, .int ff, .int ft])), (rd, .inr (4, [.ref rdA, .int 0])), (tm, .inr (4, [.ref tmA, .int 0])), (rl, .inr (4, [.ref rlA, .int 0]))] := hD
  have hw_6 : r_5 = 0 := hw_6
  have hw_6 := hw_6.symm
  subst hw_6
  refine k_nrm (y := 0) rfl ?_
  refine lv_istore (lv' := [(4, .int 0), (0, .ref re), (1, .ref tm), (2, .int b), (3, .int to)]) hx hb dX3_failureOf_16 hl (by decide) rfl (fun ls hl => ?_)
  refine lv_iload hx hb dX3_failureOf_18 (lv_at hl 0 rfl) ?_
  refine lv_if_ne (tgt := 37) hx hb dX3_failureOf_20 (by decide) (fun c9 => absurd (by decide) c9) (fun _ => ?_)
  refine lv_aload_n hx hb dX3_failureOf_23 rfl (lv_at hl 1 rfl) ?_
  refine lv_iconst (v := 1) hx hb dX3_failureOf_24 (by decide) ?_
  refine lv_iconst (v := 0) hx hb dX3_failureOf_25 (by decide) ?_
  refine lv_aload_n hx hb dX3_failureOf_26 rfl (lv_at hl 1 rfl) ?_
  refine va_get (D := D) (ci := 3) (v := .ref rl) (C := RX3) (T := TX3) (N := 8) hx hb ht inA_X3 hown hK hP 0 rfl rfl 2 (by decide) (ht _ lf_X3_20) (fun _ h9 => h9) rfl dX3_failureOf_27 ?_
  have ct := k_cut_of (wc := [(rl, .inr (4, [.ref rlA, .int 0]))]) (wr := [(re, .inr (3, [.ref rd, .int nd, .ref rl, .int ldi, .int sot, .int tie, .int ff, .int ft])), (rd, .inr (4, [.ref rdA, .int 0])), (tm, .inr (4, [.ref tmA, .int 0]))]) (tc := []) hG hS hA hK hP hD [3] [0, 1, 2] [] rfl rfl (by decide) (by decide) (by decide) rfl
  refine k_endi (As := [.ref rl]) ct (k_runV (As := []) (rest := [.int 0, .int 1, .ref re]) S0 Lv_X3_37 rfl (ci := 4) (q0 := 0) rfl rfl ct (c_Row_size l D rl rlA 0 H.size) hl.1 rfl (Nat.le_of_ble_eq_true rfl) rfl dX3_failureOf_30 ⟨⟨Nat.le_of_ble_eq_true rfl, Nat.le_of_ble_eq_true rfl⟩, Nat.le_of_ble_eq_true rfl, Nat.le_of_ble_eq_true rfl⟩) rfl rfl (fun r_7 _ H locs hw_8 hP hD hK hS => ?_)
  have hK : va_K D vwCl [] s := hK
  have hP : va_P D vwCl [(re, .inr (3, [.ref rd, .int nd, .ref rl, .int ldi, .int sot, .int tie, .int ff, .int ft])), (rd, .inr (4, [.ref rdA, .int 0])), (tm, .inr (4, [.ref tmA, .int 0])), (rl, .inr (4, [.ref rlA, .int 0]))] H := hP
  have hD : va_D A [(re, .inr (3, [.ref rd, .int nd, .ref rl, .int ldi, .int sot, .int tie, .int ff, .int ft])), (rd, .inr (4, [.ref rdA, .int 0])), (tm, .inr (4, [.ref tmA, .int 0])), (rl, .inr (4, [.ref rlA, .int 0]))] := hD
  have hw_8 : r_7 = 0 := hw_8
  have hw_8 := hw_8.symm
  subst hw_8
  refine k_nrm (y := 0) rfl ?_
  have ct := k_cut_of (wc := [(re, .inr (3, [.ref rd, .int nd, .ref rl, .int ldi, .int sot, .int tie, .int ff, .int ft]))]) (wr := [(rd, .inr (4, [.ref rdA, .int 0])), (tm, .inr (4, [.ref tmA, .int 0])), (rl, .inr (4, [.ref rlA, .int 0]))]) (tc := []) hG hS hA hK hP hD [0] [1, 2, 3] [] rfl rfl (by decide) (by decide) (by decide) rfl
  refine k_endi (As := [.ref re, .int 1, .int 0, .int 0]) ct (k_runV (As := [.int 1, .int 0, .int 0]) (rest := []) S0 Lv_X3_45 rfl (ci := 3) (q0 := 0) rfl rfl ct (c_failAt l D re rd nd rl ldi sot tie ff ft 1 0 0 H.size) hl.1 rfl (Nat.le_of_ble_eq_true rfl) rfl dX3_failureOf_33 ⟨⟨Nat.le_of_ble_eq_true rfl, Nat.le_of_ble_eq_true rfl⟩, Nat.le_of_ble_eq_true rfl, Nat.le_of_ble_eq_true rfl⟩) rfl rfl (fun r_9 _ H locs hw_10 hP hD hK hS => ?_)
  have hK : va_K D vwCl [] s := hK
  have hP : va_P D vwCl [(rd, .inr (4, [.ref rdA, .int 0])), (tm, .inr (4, [.ref tmA, .int 0])), (rl, .inr (4, [.ref rlA, .int 0])), (re, .inr (3, [.ref rd, .int nd, .ref rl, .int ldi, .int sot, .int tie, .int 0, .int 0]))] H := hP
  have hD : va_D A [(rd, .inr (4, [.ref rdA, .int 0])), (tm, .inr (4, [.ref tmA, .int 0])), (rl, .inr (4, [.ref rlA, .int 0])), (re, .inr (3, [.ref rd, .int nd, .ref rl, .int ldi, .int sot, .int tie, .int 0, .int 0]))] := hD
  have hw_10 : r_9 = 1 := hw_10
  have hw_10 := hw_10.symm
  subst hw_10
  refine k_nrm (y := 1) rfl ?_
  have hP9 : va_P D vwCl [(re, .inr (3, [.ref rd, .int nd, .ref rl, .int ldi, .int sot, .int tie, .int 0, .int 0])), (rd, .inr (4, [.ref rdA, .int 0])), (rl, .inr (4, [.ref rlA, .int 0])), (tm, .inr (4, [.ref tmA, .int 0]))] H := hP.sub [3, 0, 2, 1] rfl
  have hD9 : va_D A [(re, .inr (3, [.ref rd, .int nd, .ref rl, .int ldi, .int sot, .int tie, .int 0, .int 0])), (rd, .inr (4, [.ref rdA, .int 0])), (rl, .inr (4, [.ref rlA, .int 0])), (tm, .inr (4, [.ref tmA, .int 0]))] := hD.sub [3, 0, 2, 1] (by decide) rfl
  have hK9 : va_K D vwCl [] s := hK.sub [] rfl
  exact W.iret (v := 1) hx hb hr (fun t ht9 hW9 => ⟨⟨1, (), rfl, by first | rfl | trivial | (simp only [if_true, if_false, reduceIte, and_self]; done) | simp_all, ⟨by rw [ht9]; exact hP9, va_K.moved hW9.alike hK9, hD9⟩⟩, hS.F ht9⟩) hS.2.2 dX3_failureOf_36
set_option maxHeartbeats 4000000 in
set_option maxRecDepth 100000 in
theorem c_resultOf0 (l : Launch) (D : va_G) (re : Nat) (rd : Nat) (nd : Int32) (rl : Nat) (ldi : Int32) (sot : Int32) (tie : Int32) (ff : Int32) (ft : Int32) (rdA : Nat) (rdN : Int32) (rlA : Nat) (rlN : Int32) (tm : Nat) (tmA : Nat) (to : Int32) (sz : Nat) : k_Mi (S := Unit) l D yX3_resultOf cX3_resultOf 5 (some .int) 3 0 0 69 [.ref re, .ref tm, .int to] [(re, .inr (3, [.ref rd, .int nd, .ref rl, .int ldi, .int sot, .int tie, .int ff, .int ft])), (rd, .inr (4, [.ref rdA, .int rdN])), (rl, .inr (4, [.ref rlA, .int rlN])), (tm, .inr (4, [.ref tmA, .int 0]))] [] (fun (r : Int32) (_ : Unit) => r = 1) (fun _ => [(re, .inr (3, [.ref rd, .int nd, .ref rl, .int ldi, .int sot, .int tie, .int 0, .int 0])), (rd, .inr (4, [.ref rdA, .int 0])), (rl, .inr (4, [.ref rlA, .int 0])), (tm, .inr (4, [.ref tmA, .int 0]))]) (fun _ => []) sz := by
  refine Met.ofW (cc := cX3_resultOf) (maxL := 5) (ret := (some .int)) (by decide) rfl ?_
  intro p e s m args below meth c s₁ B hml hv
  obtain ⟨rfl, hsz, hP, hK, hD0, hG⟩ := hv
  have hx := B.exec
  have hb := B.bytes
  have hr := B.returns
  have ht : ∀ v9 ∈ wsA, v9.before ([.ref re, .ref tm, .int to] : List Value).toArray s = true := fun v9 h9 => atoms_spec (ws := k_ws yX3_resultOf cX3_resultOf 5 (some .int)) B.pre v9 (List.mem_cons_of_mem _ h9)
  have hown : s.vm.findClass RX3 = some m.cls := findClass_of_methodNamed B.named
  have S0 : k_C p s m ([.ref re, .ref tm, .int to] : List Value).toArray c cX3_resultOf 5 RX3 := ⟨hx, hb, hml, hown, ht⟩
  have hlocks := B.notSynchronized
  subst hsz
  have hD := hD0.self (sz := s.heap.size)
  generalize hAe : va_A [(re, .inr (3, [.ref rd, .int nd, .ref rl, .int ldi, .int sot, .int tie, .int ff, .int ft])), (rd, .inr (4, [.ref rdA, .int rdN])), (rl, .inr (4, [.ref rlA, .int rlN])), (tm, .inr (4, [.ref tmA, .int 0]))] s.heap.size = A at hD hG ⊢
  have hA : ∀ q : Nat, s.heap.size ≤ q → A q := fun q h => by rw [← hAe]; exact Or.inr h
  have hS : va_S A s.heap s.heap [] := va_S.rf
  have hl := lv_entry ([.ref re, .ref tm, .int to]) (n := 5) (Nat.le_of_ble_eq_true rfl)
  rw [lg_entry_eq]
  generalize (lg_sl ([.ref re, .ref tm, .int to]) ++ List.replicate (5 - (lg_sl ([.ref re, .ref tm, .int to])).length) Slot.unset).toArray = ls at hl ⊢
  have hl : lv_has ls 5 [(0, .ref re), (1, .ref tm), (2, .int to)] := hl
  have hP : va_P D vwCl [(re, .inr (3, [.ref rd, .int nd, .ref rl, .int ldi, .int sot, .int tie, .int ff, .int ft])), (rd, .inr (4, [.ref rdA, .int rdN])), (rl, .inr (4, [.ref rlA, .int rlN])), (tm, .inr (4, [.ref tmA, .int 0]))] s.heap := hP
  refine lv_aload_n hx hb dX3_resultOf_0 rfl (lv_at hl 0 rfl) ?_
  refine lv_aload_n hx hb dX3_resultOf_1 rfl (lv_at hl 1 rfl) ?_
  refine lv_iconst (v := 0) hx hb dX3_resultOf_2 (by decide) ?_
  refine lv_iload_n hx hb dX3_resultOf_3 rfl (lv_at hl 2 rfl) ?_
  have ct := k_cut_of (wc := [(re, .inr (3, [.ref rd, .int nd, .ref rl, .int ldi, .int sot, .int tie, .int ff, .int ft])), (rd, .inr (4, [.ref rdA, .int rdN])), (rl, .inr (4, [.ref rlA, .int rlN])), (tm, .inr (4, [.ref tmA, .int 0]))]) (wr := []) (tc := []) hG hS hA hK hP hD [0, 1, 2, 3] [] [] rfl rfl (by decide) (by decide) (by decide) rfl
  refine k_endi (As := [.ref re, .ref tm, .int 0, .int to]) ct (k_runV (As := [.ref tm, .int 0, .int to]) (rest := []) S0 Lv_X3_23 rfl (ci := 3) (q0 := 0) rfl rfl ct (c_failureOf0 l D re rd nd rl ldi sot tie ff ft rdA rdN rlA rlN tm tmA 0 to s.heap.size) hl.1 rfl (Nat.le_of_ble_eq_true rfl) rfl dX3_resultOf_4 ⟨⟨Nat.le_of_ble_eq_true rfl, Nat.le_of_ble_eq_true rfl⟩, Nat.le_of_ble_eq_true rfl, Nat.le_of_ble_eq_true rfl⟩) rfl rfl (fun r_1 _ H locs hw_2 hP hD hK hS => ?_)
  have hK : va_K D vwCl [] s := hK
  have hP : va_P D vwCl [(re, .inr (3, [.ref rd, .int nd, .ref rl, .int ldi, .int sot, .int tie, .int 0, .int 0])), (rd, .inr (4, [.ref rdA, .int 0])), (rl, .inr (4, [.ref rlA, .int 0])), (tm, .inr (4, [.ref tmA, .int 0]))] H := hP
  have hD : va_D A [(re, .inr (3, [.ref rd, .int nd, .ref rl, .int ldi, .int sot, .int tie, .int 0, .int 0])), (rd, .inr (4, [.ref rdA, .int 0])), (rl, .inr (4, [.ref rlA, .int 0])), (tm, .inr (4, [.ref tmA, .int 0]))] := hD
  have hw_2 : r_1 = 1 := hw_2
  have hw_2 := hw_2.symm
  subst hw_2
  refine k_nrm (y := 1) rfl ?_
  refine lv_istore_n (lv' := [(3, .int 1), (0, .ref re), (1, .ref tm), (2, .int to)]) hx hb dX3_resultOf_7 rfl hl (by decide) rfl (fun ls hl => ?_)
  refine lv_iload_n hx hb dX3_resultOf_8 rfl (lv_at hl 0 rfl) ?_
  refine lv_if_ne (tgt := 14) hx hb dX3_resultOf_9 (by decide) (fun _ => ?_) (fun c9 => absurd c9 (by decide))
  refine lv_aload_n hx hb dX3_resultOf_14 rfl (lv_at hl 1 rfl) ?_
  refine lv_aload_n hx hb dX3_resultOf_15 rfl (lv_at hl 2 rfl) ?_
  refine lv_iconst (v := 1) hx hb dX3_resultOf_16 (by decide) ?_
  refine lv_iload_n hx hb dX3_resultOf_17 rfl (lv_at hl 3 rfl) ?_
  have ct := k_cut_of (wc := [(re, .inr (3, [.ref rd, .int nd, .ref rl, .int ldi, .int sot, .int tie, .int 0, .int 0])), (rd, .inr (4, [.ref rdA, .int 0])), (rl, .inr (4, [.ref rlA, .int 0])), (tm, .inr (4, [.ref tmA, .int 0]))]) (wr := []) (tc := []) hG hS hA hK hP hD [0, 1, 2, 3] [] [] rfl rfl (by decide) (by decide) (by decide) rfl
  refine k_endi (As := [.ref re, .ref tm, .int 1, .int to]) ct (k_runV (As := [.ref tm, .int 1, .int to]) (rest := []) S0 Lv_X3_23 rfl (ci := 3) (q0 := 0) rfl rfl ct (c_failureOf0 l D re rd nd rl ldi sot tie 0 0 rdA 0 rlA 0 tm tmA 1 to H.size) hl.1 rfl (Nat.le_of_ble_eq_true rfl) rfl dX3_resultOf_18 ⟨⟨Nat.le_of_ble_eq_true rfl, Nat.le_of_ble_eq_true rfl⟩, Nat.le_of_ble_eq_true rfl, Nat.le_of_ble_eq_true rfl⟩) rfl rfl (fun r_3 _ H locs hw_4 hP hD hK hS => ?_)
  have hK : va_K D vwCl [] s := hK
  have hP : va_P D vwCl [(re, .inr (3, [.ref rd, .int nd, .ref rl, .int ldi, .int sot, .int tie, .int 0, .int 0])), (rd, .inr (4, [.ref rdA, .int 0])), (rl, .inr (4, [.ref rlA, .int 0])), (tm, .inr (4, [.ref tmA, .int 0]))] H := hP
  have hD : va_D A [(re, .inr (3, [.ref rd, .int nd, .ref rl, .int ldi, .int sot, .int tie, .int 0, .int 0])), (rd, .inr (4, [.ref rdA, .int 0])), (rl, .inr (4, [.ref rlA, .int 0])), (tm, .inr (4, [.ref tmA, .int 0]))] := hD
  have hw_4 : r_3 = 1 := hw_4
  have hw_4 := hw_4.symm
  subst hw_4
  refine k_nrm (y := 1) rfl ?_
  refine lv_istore (lv' := [(4, .int 1), (3, .int 1), (0, .ref re), (1, .ref tm), (2, .int to)]) hx hb dX3_resultOf_21 hl (by decide) rfl (fun ls hl => ?_)
  refine lv_iload hx hb dX3_resultOf_23 (lv_at hl 0 rfl) ?_
  refine lv_if_ne (tgt := 32) hx hb dX3_resultOf_25 (by decide) (fun _ => ?_) (fun c9 => absurd c9 (by decide))
  refine lv_iload_n hx hb dX3_resultOf_32 rfl (lv_at hl 1 rfl) ?_
  refine lv_iload hx hb dX3_resultOf_33 (lv_at hl 0 rfl) ?_
  refine va_mmax hx hb (by rw [hml]; exact hl.1.symm) hown (ht _ lM_X3_27) (ht _ lM_st_max) (ht _ li_java_lang_Math) (ht _ lM_code_max) (Nat.le_of_ble_eq_true rfl) (Nat.le_of_ble_eq_true rfl) (Nat.le_of_ble_eq_true rfl) (Nat.le_of_ble_eq_true rfl) dX3_resultOf_35 ?_
  refine k_nrm (y := 1) (by decide) ?_
  have hP9 : va_P D vwCl [(re, .inr (3, [.ref rd, .int nd, .ref rl, .int ldi, .int sot, .int tie, .int 0, .int 0])), (rd, .inr (4, [.ref rdA, .int 0])), (rl, .inr (4, [.ref rlA, .int 0])), (tm, .inr (4, [.ref tmA, .int 0]))] H := hP.sub [0, 1, 2, 3] rfl
  have hD9 : va_D A [(re, .inr (3, [.ref rd, .int nd, .ref rl, .int ldi, .int sot, .int tie, .int 0, .int 0])), (rd, .inr (4, [.ref rdA, .int 0])), (rl, .inr (4, [.ref rlA, .int 0])), (tm, .inr (4, [.ref tmA, .int 0]))] := hD.sub [0, 1, 2, 3] (by decide) rfl
  have hK9 : va_K D vwCl [] s := hK.sub [] rfl
  exact W.iret (v := 1) hx hb hr (fun t ht9 hW9 => ⟨⟨1, (), rfl, by first | rfl | trivial | (simp only [if_true, if_false, reduceIte, and_self]; done) | simp_all, ⟨by rw [ht9]; exact hP9, va_K.moved hW9.alike hK9, hD9⟩⟩, hS.F ht9⟩) hS.2.2 dX3_resultOf_38
set_option maxHeartbeats 4000000 in
set_option maxRecDepth 100000 in
theorem c_hasSucceeded1 (l : Launch) (D : va_G) (sz : Nat) : k_Mi (S := Unit) l D yX7_hasSucceeded cX7_hasSucceeded 1 (some .boolean) 0 0 0 0 [.int 1] [] [] (fun (r : Int32) (_ : Unit) => r = 0) (fun _ => []) (fun _ => []) sz := by
  refine Met.ofW (cc := cX7_hasSucceeded) (maxL := 1) (ret := (some .boolean)) (by decide) rfl ?_
  intro p e s m args below meth c s₁ B hml hv
  obtain ⟨rfl, hsz, hP, hK, hD0, hG⟩ := hv
  have hx := B.exec
  have hb := B.bytes
  have hr := B.returns
  have ht : ∀ v9 ∈ wsA, v9.before ([.int 1] : List Value).toArray s = true := fun v9 h9 => atoms_spec (ws := k_ws yX7_hasSucceeded cX7_hasSucceeded 1 (some .boolean)) B.pre v9 (List.mem_cons_of_mem _ h9)
  have hown : s.vm.findClass RX7 = some m.cls := findClass_of_methodNamed B.named
  have S0 : k_C p s m ([.int 1] : List Value).toArray c cX7_hasSucceeded 1 RX7 := ⟨hx, hb, hml, hown, ht⟩
  have hlocks := B.notSynchronized
  subst hsz
  have hD := hD0.self (sz := s.heap.size)
  generalize hAe : va_A [] s.heap.size = A at hD hG ⊢
  have hA : ∀ q : Nat, s.heap.size ≤ q → A q := fun q h => by rw [← hAe]; exact Or.inr h
  have hS : va_S A s.heap s.heap [] := va_S.rf
  have hl := lv_entry ([.int 1]) (n := 1) (Nat.le_of_ble_eq_true rfl)
  rw [lg_entry_eq]
  generalize (lg_sl ([.int 1]) ++ List.replicate (1 - (lg_sl ([.int 1])).length) Slot.unset).toArray = ls at hl ⊢
  have hl : lv_has ls 1 [(0, .int 1)] := hl
  have hP : va_P D vwCl [] s.heap := hP
  refine lv_iload_n hx hb dX7_hasSucceeded_0 rfl (lv_at hl 0 rfl) ?_
  refine lv_if_eq (tgt := 9) hx hb dX7_hasSucceeded_1 (by decide) (fun c9 => absurd c9 (by decide)) (fun _ => ?_)
  refine lv_iload_n hx hb dX7_hasSucceeded_4 rfl (lv_at hl 0 rfl) ?_
  refine lv_iconst (v := (-1)) hx hb dX7_hasSucceeded_5 (by decide) ?_
  refine lv_icmp_ne (tgt := 13) hx hb dX7_hasSucceeded_6 (by decide) (fun _ => ?_) (fun c9 => absurd c9 (by decide))
  refine lv_iconst (v := 0) hx hb dX7_hasSucceeded_13 (by decide) ?_
  have hP9 : va_P D vwCl [] s.heap := hP.sub [] rfl
  have hD9 : va_D A [] := hD.sub [] (by decide) rfl
  have hK9 : va_K D vwCl [] s := hK.sub [] rfl
  exact W.zret (v := 0) hx hb hr (rfl) (fun t ht9 hW9 => ⟨⟨0, (), rfl, by first | rfl | trivial | (simp only [if_true, if_false, reduceIte, and_self]; done) | simp_all, ⟨by rw [ht9]; exact hP9, va_K.moved hW9.alike hK9, hD9⟩⟩, hS.F ht9⟩) hS.2.2 dX7_hasSucceeded_14
