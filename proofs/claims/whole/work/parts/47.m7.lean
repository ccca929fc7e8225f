set_option maxRecDepth 20000 in
theorem lf_X8_98 : Cond.fieldLink RX8 98 "BarcodeWandModel" "manyFound" "I" ∈ wsA := mA 795 rfl rfl
set_option maxRecDepth 20000 in
theorem lk_X8_isLeftGuard : Cond.code yX8_isLeftGuard cX8_isLeftGuard 6 (some .boolean) ∈ wsA := mA 930 rfl rfl
theorem ly_X8_isLeftGuard : k_y yX8_isLeftGuard 1 := ⟨by decide +kernel, by decide +kernel, by decide +kernel⟩
set_option maxRecDepth 20000 in
theorem lm_X8_isLeftGuard : Cond.instanceMethod yX8_isLeftGuard ∈ wsA := mA 929 rfl rfl
theorem le_X8_isLeftGuard : Cond.selects (yX8_isLeftGuard).cls yX8_isLeftGuard yX8_isLeftGuard ∈ wsA := mS 35 rfl rfl
set_option maxRecDepth 20000 in
theorem Lv_X8_101 : k_LV RX8 101 yX8_isLeftGuard cX8_isLeftGuard 6 (some .boolean) 1 := ⟨mA 927 rfl rfl, lm_X8_isLeftGuard, le_X8_isLeftGuard, li_BarcodeWandModel, lk_X8_isLeftGuard, ly_X8_isLeftGuard⟩
set_option maxRecDepth 20000 in
theorem lk_X8_isRightGuard : Cond.code yX8_isRightGuard cX8_isRightGuard 4 (some .boolean) ∈ wsA := mA 957 rfl rfl
theorem ly_X8_isRightGuard : k_y yX8_isRightGuard 1 := ⟨by decide +kernel, by decide +kernel, by decide +kernel⟩
set_option maxRecDepth 20000 in
theorem lm_X8_isRightGuard : Cond.instanceMethod yX8_isRightGuard ∈ wsA := mA 956 rfl rfl
theorem le_X8_isRightGuard : Cond.selects (yX8_isRightGuard).cls yX8_isRightGuard yX8_isRightGuard ∈ wsA := mS 41 rfl rfl
set_option maxRecDepth 20000 in
theorem Lv_X8_109 : k_LV RX8 109 yX8_isRightGuard cX8_isRightGuard 4 (some .boolean) 1 := ⟨mA 954 rfl rfl, lm_X8_isRightGuard, le_X8_isRightGuard, li_BarcodeWandModel, lk_X8_isRightGuard, ly_X8_isRightGuard⟩
set_option maxRecDepth 20000 in
theorem lf_X8_20 : Cond.fieldLink RX8 20 "BarcodeWandModel" "found" "[I" ∈ wsA := mA 794 rfl rfl
set_option maxRecDepth 20000 in
theorem lk_X8_check : Cond.code yX8_check cX8_check 5 (some .int) ∈ wsA := mA 857 rfl rfl
theorem ly_X8_check : k_y yX8_check 3 := ⟨by decide +kernel, by decide +kernel, by decide +kernel⟩
set_option maxRecDepth 20000 in
theorem ls_X8_check : Cond.static yX8_check ∈ wsA := mA 856 rfl rfl
set_option maxRecDepth 20000 in
theorem Ls_X8_50 : k_LS RX8 50 yX8_check cX8_check 5 (some .int) 3 := ⟨mA 855 rfl rfl, ls_X8_check, li_BarcodeWandModel, lk_X8_check, ly_X8_check⟩
set_option maxRecDepth 20000 in
theorem lk_X8_digitAt : Cond.code yX8_digitAt cX8_digitAt 8 (some .int) ∈ wsA := mA 938 rfl rfl
theorem ly_X8_digitAt : k_y yX8_digitAt 3 := ⟨by decide +kernel, by decide +kernel, by decide +kernel⟩
set_option maxRecDepth 20000 in
theorem lm_X8_digitAt : Cond.instanceMethod yX8_digitAt ∈ wsA := mA 937 rfl rfl
theorem le_X8_digitAt : Cond.selects (yX8_digitAt).cls yX8_digitAt yX8_digitAt ∈ wsA := mS 37 rfl rfl
set_option maxRecDepth 20000 in
theorem Lv_X8_105 : k_LV RX8 105 yX8_digitAt cX8_digitAt 8 (some .int) 3 := ⟨mA 935 rfl rfl, lm_X8_digitAt, le_X8_digitAt, li_BarcodeWandModel, lk_X8_digitAt, ly_X8_digitAt⟩
set_option maxRecDepth 20000 in
theorem lk_X8_fails : Cond.code yX8_fails cX8_fails 4 (some .int) ∈ wsA := mA 926 rfl rfl
theorem ly_X8_fails : k_y yX8_fails 2 := ⟨by decide +kernel, by decide +kernel, by decide +kernel⟩
set_option maxRecDepth 20000 in
theorem lm_X8_fails : Cond.instanceMethod yX8_fails ∈ wsA := mA 925 rfl rfl
theorem le_X8_fails : Cond.selects (yX8_fails).cls yX8_fails yX8_fails ∈ wsA := mS 34 rfl rfl
set_option maxRecDepth 20000 in
theorem Lv_X8_112 : k_LV RX8 112 yX8_fails cX8_fails 4 (some .int) 2 := ⟨mA 923 rfl rfl, lm_X8_fails, le_X8_fails, li_BarcodeWandModel, lk_X8_fails, ly_X8_fails⟩
theorem dX8_fails_0 : decode cX8_fails 0 = .ok (.aload_n 0, 1) := by decide +kernel
theorem dX8_fails_1 : decode cX8_fails 1 = .ok (.aload_n 0, 1) := by decide +kernel
theorem dX8_fails_2 : decode cX8_fails 2 = .ok (.getfield 78, 3) := by decide +kernel
theorem dX8_fails_5 : decode cX8_fails 5 = .ok (.iconst 5, 1) := by decide +kernel
theorem dX8_fails_6 : decode cX8_fails 6 = .ok (.isub, 1) := by decide +kernel
theorem dX8_fails_7 : decode cX8_fails 7 = .ok (.iconst 4, 1) := by decide +kernel
theorem dX8_fails_8 : decode cX8_fails 8 = .ok (.idiv, 1) := by decide +kernel
theorem dX8_fails_9 : decode cX8_fails 9 = .ok (.putfield 98, 3) := by decide +kernel
theorem dX8_fails_12 : decode cX8_fails 12 = .ok (.aload_n 0, 1) := by decide +kernel
theorem dX8_fails_13 : decode cX8_fails 13 = .ok (.getfield 78, 3) := by decide +kernel
theorem dX8_fails_16 : decode cX8_fails 16 = .ok (.bipush 13, 2) := by decide +kernel
theorem dX8_fails_18 : decode cX8_fails 18 = .ok (.bipush 41, 2) := by decide +kernel
theorem dX8_fails_20 : decode cX8_fails 20 = .ok (.invokestatic 46, 3) := by decide +kernel
theorem dX8_fails_23 : decode cX8_fails 23 = .ok (.ifCond .eq 13, 3) := by decide +kernel
theorem dX8_fails_26 : decode cX8_fails 26 = .ok (.aload_n 0, 1) := by decide +kernel
theorem dX8_fails_27 : decode cX8_fails 27 = .ok (.getfield 78, 3) := by decide +kernel
theorem dX8_fails_30 : decode cX8_fails 30 = .ok (.iconst 4, 1) := by decide +kernel
theorem dX8_fails_31 : decode cX8_fails 31 = .ok (.irem, 1) := by decide +kernel
theorem dX8_fails_32 : decode cX8_fails 32 = .ok (.iconst 1, 1) := by decide +kernel
theorem dX8_fails_33 : decode cX8_fails 33 = .ok (.if_icmp .eq 5, 3) := by decide +kernel
theorem dX8_fails_36 : decode cX8_fails 36 = .ok (.iconst 1, 1) := by decide +kernel
theorem dX8_fails_37 : decode cX8_fails 37 = .ok (.ireturn, 1) := by decide +kernel
theorem dX8_fails_38 : decode cX8_fails 38 = .ok (.aload_n 0, 1) := by decide +kernel
theorem dX8_fails_39 : decode cX8_fails 39 = .ok (.iload_n 1, 1) := by decide +kernel
theorem dX8_fails_40 : decode cX8_fails 40 = .ok (.invokevirtual 101, 3) := by decide +kernel
theorem dX8_fails_43 : decode cX8_fails 43 = .ok (.ifCond .ne 5, 3) := by decide +kernel
theorem dX8_fails_46 : decode cX8_fails 46 = .ok (.iconst 2, 1) := by decide +kernel
theorem dX8_fails_47 : decode cX8_fails 47 = .ok (.ireturn, 1) := by decide +kernel
theorem dX8_fails_48 : decode cX8_fails 48 = .ok (.iconst 0, 1) := by decide +kernel
theorem dX8_fails_49 : decode cX8_fails 49 = .ok (.istore_n 3, 1) := by decide +kernel
theorem dX8_fails_50 : decode cX8_fails 50 = .ok (.iload_n 3, 1) := by decide +kernel
theorem dX8_fails_51 : decode cX8_fails 51 = .ok (.aload_n 0, 1) := by decide +kernel
theorem dX8_fails_52 : decode cX8_fails 52 = .ok (.getfield 98, 3) := by decide +kernel
theorem dX8_fails_55 : decode cX8_fails 55 = .ok (.if_icmp .ge 38, 3) := by decide +kernel
theorem dX8_fails_58 : decode cX8_fails 58 = .ok (.aload_n 0, 1) := by decide +kernel
theorem dX8_fails_59 : decode cX8_fails 59 = .ok (.getfield 20, 3) := by decide +kernel
theorem dX8_fails_62 : decode cX8_fails 62 = .ok (.iload_n 3, 1) := by decide +kernel
theorem dX8_fails_63 : decode cX8_fails 63 = .ok (.aload_n 0, 1) := by decide +kernel
theorem dX8_fails_64 : decode cX8_fails 64 = .ok (.iconst 3, 1) := by decide +kernel
theorem dX8_fails_65 : decode cX8_fails 65 = .ok (.iconst 4, 1) := by decide +kernel
theorem dX8_fails_66 : decode cX8_fails 66 = .ok (.iload_n 3, 1) := by decide +kernel
theorem dX8_fails_67 : decode cX8_fails 67 = .ok (.imul, 1) := by decide +kernel
theorem dX8_fails_68 : decode cX8_fails 68 = .ok (.iadd, 1) := by decide +kernel
theorem dX8_fails_69 : decode cX8_fails 69 = .ok (.iload_n 1, 1) := by decide +kernel
theorem dX8_fails_70 : decode cX8_fails 70 = .ok (.iload_n 2, 1) := by decide +kernel
theorem dX8_fails_71 : decode cX8_fails 71 = .ok (.invokevirtual 105, 3) := by decide +kernel
theorem dX8_fails_74 : decode cX8_fails 74 = .ok (.iastore, 1) := by decide +kernel
theorem dX8_fails_75 : decode cX8_fails 75 = .ok (.aload_n 0, 1) := by decide +kernel
theorem dX8_fails_76 : decode cX8_fails 76 = .ok (.getfield 20, 3) := by decide +kernel
theorem dX8_fails_79 : decode cX8_fails 79 = .ok (.iload_n 3, 1) := by decide +kernel
theorem dX8_fails_80 : decode cX8_fails 80 = .ok (.iaload, 1) := by decide +kernel
theorem dX8_fails_81 : decode cX8_fails 81 = .ok (.iconst (-1), 1) := by decide +kernel
theorem dX8_fails_82 : decode cX8_fails 82 = .ok (.if_icmp .ne 5, 3) := by decide +kernel
theorem dX8_fails_85 : decode cX8_fails 85 = .ok (.iconst 3, 1) := by decide +kernel
theorem dX8_fails_86 : decode cX8_fails 86 = .ok (.ireturn, 1) := by decide +kernel
theorem dX8_fails_87 : decode cX8_fails 87 = .ok (.iinc 3 1, 3) := by decide +kernel
theorem dX8_fails_90 : decode cX8_fails 90 = .ok (.goto (-40), 3) := by decide +kernel
theorem dX8_fails_93 : decode cX8_fails 93 = .ok (.aload_n 0, 1) := by decide +kernel
theorem dX8_fails_94 : decode cX8_fails 94 = .ok (.iload_n 1, 1) := by decide +kernel
theorem dX8_fails_95 : decode cX8_fails 95 = .ok (.invokevirtual 109, 3) := by decide +kernel
theorem dX8_fails_98 : decode cX8_fails 98 = .ok (.ifCond .ne 5, 3) := by decide +kernel
theorem dX8_fails_101 : decode cX8_fails 101 = .ok (.iconst 4, 1) := by decide +kernel
theorem dX8_fails_102 : decode cX8_fails 102 = .ok (.ireturn, 1) := by decide +kernel
theorem dX8_fails_103 : decode cX8_fails 103 = .ok (.aload_n 0, 1) := by decide +kernel
theorem dX8_fails_104 : decode cX8_fails 104 = .ok (.getfield 20, 3) := by decide +kernel
theorem dX8_fails_107 : decode cX8_fails 107 = .ok (.aload_n 0, 1) := by decide +kernel
theorem dX8_fails_108 : decode cX8_fails 108 = .ok (.getfield 98, 3) := by decide +kernel
theorem dX8_fails_111 : decode cX8_fails 111 = .ok (.iconst 1, 1) := by decide +kernel
theorem dX8_fails_112 : decode cX8_fails 112 = .ok (.isub, 1) := by decide +kernel
theorem dX8_fails_113 : decode cX8_fails 113 = .ok (.iaload, 1) := by decide +kernel
theorem dX8_fails_114 : decode cX8_fails 114 = .ok (.aload_n 0, 1) := by decide +kernel
theorem dX8_fails_115 : decode cX8_fails 115 = .ok (.getfield 20, 3) := by decide +kernel
theorem dX8_fails_118 : decode cX8_fails 118 = .ok (.iconst 0, 1) := by decide +kernel
theorem dX8_fails_119 : decode cX8_fails 119 = .ok (.aload_n 0, 1) := by decide +kernel
theorem dX8_fails_120 : decode cX8_fails 120 = .ok (.getfield 98, 3) := by decide +kernel
theorem dX8_fails_123 : decode cX8_fails 123 = .ok (.iconst 1, 1) := by decide +kernel
theorem dX8_fails_124 : decode cX8_fails 124 = .ok (.isub, 1) := by decide +kernel
theorem dX8_fails_125 : decode cX8_fails 125 = .ok (.invokestatic 50, 3) := by decide +kernel
theorem dX8_fails_128 : decode cX8_fails 128 = .ok (.if_icmp .ne 7, 3) := by decide +kernel
theorem dX8_fails_131 : decode cX8_fails 131 = .ok (.iconst 0, 1) := by decide +kernel
theorem dX8_fails_132 : decode cX8_fails 132 = .ok (.goto 4, 3) := by decide +kernel
theorem dX8_fails_135 : decode cX8_fails 135 = .ok (.iconst 5, 1) := by decide +kernel
theorem dX8_fails_136 : decode cX8_fails 136 = .ok (.ireturn, 1) := by decide +kernel
theorem dX8_reads_0 : decode cX8_reads 0 = .ok (.aload_n 0, 1) := by decide +kernel
theorem dX8_reads_1 : decode cX8_reads 1 = .ok (.iconst 0, 1) := by decide +kernel
theorem dX8_reads_2 : decode cX8_reads 2 = .ok (.iload_n 1, 1) := by decide +kernel
theorem dX8_reads_3 : decode cX8_reads 3 = .ok (.invokevirtual 112, 3) := by decide +kernel
theorem dX8_reads_6 : decode cX8_reads 6 = .ok (.istore_n 2, 1) := by decide +kernel
theorem dX8_reads_7 : decode cX8_reads 7 = .ok (.iload_n 2, 1) := by decide +kernel
theorem dX8_reads_8 : decode cX8_reads 8 = .ok (.ifCond .ne 5, 3) := by decide +kernel
theorem dX8_reads_11 : decode cX8_reads 11 = .ok (.iconst 0, 1) := by decide +kernel
theorem dX8_reads_12 : decode cX8_reads 12 = .ok (.ireturn, 1) := by decide +kernel
theorem dX8_reads_13 : decode cX8_reads 13 = .ok (.aload_n 0, 1) := by decide +kernel
theorem dX8_reads_14 : decode cX8_reads 14 = .ok (.iconst 1, 1) := by decide +kernel
theorem dX8_reads_15 : decode cX8_reads 15 = .ok (.iload_n 1, 1) := by decide +kernel
theorem dX8_reads_16 : decode cX8_reads 16 = .ok (.invokevirtual 112, 3) := by decide +kernel
theorem dX8_reads_19 : decode cX8_reads 19 = .ok (.istore_n 3, 1) := by decide +kernel
theorem dX8_reads_20 : decode cX8_reads 20 = .ok (.iload_n 3, 1) := by decide +kernel
theorem dX8_reads_21 : decode cX8_reads 21 = .ok (.ifCond .ne 7, 3) := by decide +kernel
theorem dX8_reads_24 : decode cX8_reads 24 = .ok (.iconst (-1), 1) := by decide +kernel
theorem dX8_reads_25 : decode cX8_reads 25 = .ok (.goto 13, 3) := by decide +kernel
theorem dX8_reads_28 : decode cX8_reads 28 = .ok (.iload_n 2, 1) := by decide +kernel
theorem dX8_reads_29 : decode cX8_reads 29 = .ok (.iload_n 3, 1) := by decide +kernel
theorem dX8_reads_30 : decode cX8_reads 30 = .ok (.if_icmp .le 7, 3) := by decide +kernel
theorem dX8_reads_33 : decode cX8_reads 33 = .ok (.iload_n 2, 1) := by decide +kernel
theorem dX8_reads_34 : decode cX8_reads 34 = .ok (.goto 4, 3) := by decide +kernel
theorem dX8_reads_37 : decode cX8_reads 37 = .ok (.iload_n 3, 1) := by decide +kernel
theorem dX8_reads_38 : decode cX8_reads 38 = .ok (.ireturn, 1) := by decide +kernel
theorem dX8_number_0 : decode cX8_number 0 = .ok (.iconst 0, 1) := by decide +kernel
theorem dX8_number_1 : decode cX8_number 1 = .ok (.istore_n 1, 1) := by decide +kernel
theorem dX8_number_2 : decode cX8_number 2 = .ok (.iconst 0, 1) := by decide +kernel
theorem dX8_number_3 : decode cX8_number 3 = .ok (.istore_n 2, 1) := by decide +kernel
theorem dX8_number_4 : decode cX8_number 4 = .ok (.iload_n 2, 1) := by decide +kernel
theorem dX8_number_5 : decode cX8_number 5 = .ok (.aload_n 0, 1) := by decide +kernel
theorem dX8_number_6 : decode cX8_number 6 = .ok (.getfield 98, 3) := by decide +kernel
theorem dX8_number_9 : decode cX8_number 9 = .ok (.if_icmp .ge 21, 3) := by decide +kernel
theorem dX8_number_12 : decode cX8_number 12 = .ok (.bipush 10, 2) := by decide +kernel
theorem dX8_number_14 : decode cX8_number 14 = .ok (.iload_n 1, 1) := by decide +kernel
theorem dX8_number_15 : decode cX8_number 15 = .ok (.imul, 1) := by decide +kernel
theorem dX8_number_16 : decode cX8_number 16 = .ok (.aload_n 0, 1) := by decide +kernel
theorem dX8_number_17 : decode cX8_number 17 = .ok (.getfield 20, 3) := by decide +kernel
theorem dX8_number_20 : decode cX8_number 20 = .ok (.iload_n 2, 1) := by decide +kernel
theorem dX8_number_21 : decode cX8_number 21 = .ok (.iaload, 1) := by decide +kernel
theorem dX8_number_22 : decode cX8_number 22 = .ok (.iadd, 1) := by decide +kernel
theorem dX8_number_23 : decode cX8_number 23 = .ok (.istore_n 1, 1) := by decide +kernel
theorem dX8_number_24 : decode cX8_number 24 = .ok (.iinc 2 1, 3) := by decide +kernel
theorem dX8_number_27 : decode cX8_number 27 = .ok (.goto (-23), 3) := by decide +kernel
theorem dX8_number_30 : decode cX8_number 30 = .ok (.iload_n 1, 1) := by decide +kernel
theorem dX8_number_31 : decode cX8_number 31 = .ok (.ireturn, 1) := by decide +kernel
set_option maxHeartbeats 4000000 in
set_option maxRecDepth 100000 in
theorem c_M_fails (l : Launch) (D : va_G) (mo : Nat) (ms : Nat) (sv : Int32) (mb : Nat) (ty : Int32) (th : Int32) (mk : Nat) (lm : Nat) (mfd : Nat) (mf : Int32) (sp : Int32) (on : Int32) (tw : Int32) (K : ClassId) (lk : Nat → Int32) (fd : Nat → Int32) (b : Int32) (to : Int32) (hlm : lm ≤ 41) (sz : Nat) : k_Mi (S := Int32 × (Nat → Int32)) l D yX8_fails cX8_fails 4 (some .int) 5 0 0 123 [.ref mo, .int b, .int to] [(mo, .inr (8, [.ref ms, .int sv, .ref mb, .int ty, .int th, .ref mk, .int (nI lm), .ref mfd, .int mf, .int sp, .int on, .int tw])), (mk, .inl (K, 41, .inl lk)), (mfd, .inl (K, 9, .inl fd))] [(K, .int)] (fun (r : Int32) (u : Int32 × (Nat → Int32)) => match u with | (mf1, fd1) => r = failF lm (lnF lm lk b) to ∧ (r = 0 → mf1 = nI (dgc lm) ∧ ¬ dgc lm = 0 ∧ ∀ m9, m9 < dgc lm → fd1 m9 = nrD lm (lnF lm lk b) m9)) (fun u => match u with | (mf1, fd1) => [(mo, .inr (8, [.ref ms, .int sv, .ref mb, .int ty, .int th, .ref mk, .int (nI lm), .ref mfd, .int mf1, .int sp, .int on, .int tw])), (mk, .inl (K, 41, .inl lk)), (mfd, .inl (K, 9, .inl fd1))]) (fun u => match u with | (mf1, fd1) => []) sz := by
  refine Met.ofW (cc := cX8_fails) (maxL := 4) (ret := (some .int)) (by decide) rfl ?_
  intro p e s m args below meth c s₁ B hml hv
  obtain ⟨rfl, hsz, hP, hK, hD0, hG⟩ := hv
  have hx := B.exec
  have hb := B.bytes
  have hr := B.returns
  have ht : ∀ v9 ∈ wsA, v9.before ([.ref mo, .int b, .int to] : List Value).toArray s = true := fun v9 h9 => atoms_spec (ws := k_ws yX8_fails cX8_fails 4 (some .int)) B.pre v9 (List.mem_cons_of_mem _ h9)
  have hown : s.vm.findClass RX8 = some m.cls := findClass_of_methodNamed B.named
  have S0 : k_C p s m ([.ref mo, .int b, .int to] : List Value).toArray c cX8_fails 4 RX8 := ⟨hx, hb, hml, hown, ht⟩
  have hlocks := B.notSynchronized
  subst hsz
  have hD := hD0.self (sz := s.heap.size)
  generalize hAe : va_A [(mo, .inr (8, [.ref ms, .int sv, .ref mb, .int ty, .int th, .ref mk, .int (nI lm), .ref mfd, .int mf, .int sp, .int on, .int tw])), (mk, .inl (K, 41, .inl lk)), (mfd, .inl (K, 9, .inl fd))] s.heap.size = A at hD hG ⊢
  have hA : ∀ q : Nat, s.heap.size ≤ q → A q := fun q h => by rw [← hAe]; exact Or.inr h
  have hS : va_S A s.heap s.heap [] := va_S.rf
  have hl := lv_entry ([.ref mo, .int b, .int to]) (n := 4) (Nat.le_of_ble_eq_true rfl)
  rw [lg_entry_eq]
  generalize (lg_sl ([.ref mo, .int b, .int to]) ++ List.replicate (4 - (lg_sl ([.ref mo, .int b, .int to])).length) Slot.unset).toArray = ls at hl ⊢
  have hl : lv_has ls 4 [(0, .ref mo), (1, .int b), (2, .int to)] := hl
  have hP : va_P D vwCl [(mo, .inr (8, [.ref ms, .int sv, .ref mb, .int ty, .int th, .ref mk, .int (nI lm), .ref mfd, .int mf, .int sp, .int on, .int tw])), (mk, .inl (K, 41, .inl lk)), (mfd, .inl (K, 9, .inl fd))] s.heap := hP
  refine lv_aload_n hx hb dX8_fails_0 rfl (lv_at hl 0 rfl) ?_
  refine lv_aload_n hx hb dX8_fails_1 rfl (lv_at hl 0 rfl) ?_
  refine va_get (D := D) (ci := 8) (v := .int (nI lm)) (C := RX8) (T := TX8) (N := 12) hx hb ht inA_X8 hown hK hP 0 rfl rfl 6 (by decide) (ht _ lf_X8_78) (fun _ h9 => h9) rfl dX8_fails_2 ?_
  refine lv_iconst (v := 5) hx hb dX8_fails_5 (by decide) ?_
  refine lv_isub hx hb dX8_fails_6 ?_
  refine k_nrm (y := (nI lm - 5)) (rfl) ?_
  refine lv_iconst (v := 4) hx hb dX8_fails_7 (by decide) ?_
  refine lv_idiv hx hb dX8_fails_8 (by decide) ?_
  refine k_nrm (y := ((nI lm - 5) / 4)) (rfl) ?_
  refine va_put (D := D) (ci := 8) (v := .int ((nI lm - 5) / 4)) (ty := .int) (C := RX8) (T := TX8) (N := 12) hx hb ht inA_X8 tyX8 tyX8_ok nmX8 hown hK hP hD hS 0 rfl rfl 8 (by decide) (ht _ lf_X8_98) (fun _ h9 => h9) rfl (tyX8_ok 8 (by decide)) rfl rfl (Nat.le_of_ble_eq_true rfl) dX8_fails_9 (fun H locs hP hD hS => ?_)
  have hP : va_P D vwCl [(mo, .inr (8, [.ref ms, .int sv, .ref mb, .int ty, .int th, .ref mk, .int (nI lm), .ref mfd, .int ((nI lm - 5) / 4), .int sp, .int on, .int tw])), (mk, .inl (K, 41, .inl lk)), (mfd, .inl (K, 9, .inl fd))] H := hP
  have hD : va_D A [(mo, .inr (8, [.ref ms, .int sv, .ref mb, .int ty, .int th, .ref mk, .int (nI lm), .ref mfd, .int ((nI lm - 5) / 4), .int sp, .int on, .int tw])), (mk, .inl (K, 41, .inl lk)), (mfd, .inl (K, 9, .inl fd))] := hD
  refine lv_aload_n hx hb dX8_fails_12 rfl (lv_at hl 0 rfl) ?_
  refine va_get (D := D) (ci := 8) (v := .int (nI lm)) (C := RX8) (T := TX8) (N := 12) hx hb ht inA_X8 hown hK hP 0 rfl rfl 6 (by decide) (ht _ lf_X8_78) (fun _ h9 => h9) rfl dX8_fails_13 ?_
  refine lv_bipush (v := 13) hx hb dX8_fails_16 (by decide) ?_
  refine lv_bipush (v := 41) hx hb dX8_fails_18 (by decide) ?_
  have ct := k_cut_of (wc := []) (wr := [(mo, .inr (8, [.ref ms, .int sv, .ref mb, .int ty, .int th, .ref mk, .int (nI lm), .ref mfd, .int ((nI lm - 5) / 4), .int sp, .int on, .int tw])), (mk, .inl (K, 41, .inl lk)), (mfd, .inl (K, 9, .inl fd))]) (tc := []) hG hS hA hK hP hD [] [0, 1, 2] [] rfl rfl (by decide) (by decide) (by decide) rfl
  refine k_endi (As := [.int (nI lm), .int 13, .int 41]) ct (k_runS (As := [.int (nI lm), .int 13, .int 41]) (rest := []) S0 Ls_X8_46 ct (c_M_in l D (nI lm) 13 41 H.size) hl.1 rfl (Nat.le_of_ble_eq_true rfl) rfl dX8_fails_20 ⟨⟨Nat.le_of_ble_eq_true rfl, Nat.le_of_ble_eq_true rfl⟩, Nat.le_of_ble_eq_true rfl, Nat.le_of_ble_eq_true rfl⟩) rfl rfl (fun r_1 _ H locs hw_2 hP hD hK hS => ?_)
  have hK : va_K D vwCl [(K, .int)] s := hK
  have hP : va_P D vwCl [(mo, .inr (8, [.ref ms, .int sv, .ref mb, .int ty, .int th, .ref mk, .int (nI lm), .ref mfd, .int ((nI lm - 5) / 4), .int sp, .int on, .int tw])), (mk, .inl (K, 41, .inl lk)), (mfd, .inl (K, 9, .inl fd))] H := hP
  have hD : va_D A [(mo, .inr (8, [.ref ms, .int sv, .ref mb, .int ty, .int th, .ref mk, .int (nI lm), .ref mfd, .int ((nI lm - 5) / 4), .int sp, .int on, .int tw])), (mk, .inl (K, 41, .inl lk)), (mfd, .inl (K, 9, .inl fd))] := hD
  rcases hw_2 with ⟨hr9, c_3, c_4⟩ | ⟨hr9, c_5⟩
  · subst hr9
    refine lv_if_eq (tgt := 36) hx hb dX8_fails_23 (by decide) (fun c9 => absurd c9 (by decide)) (fun _ => ?_)
    refine lv_aload_n hx hb dX8_fails_26 rfl (lv_at hl 0 rfl) ?_
    refine va_get (D := D) (ci := 8) (v := .int (nI lm)) (C := RX8) (T := TX8) (N := 12) hx hb ht inA_X8 hown hK hP 0 rfl rfl 6 (by decide) (ht _ lf_X8_78) (fun _ h9 => h9) rfl dX8_fails_27 ?_
    refine lv_iconst (v := 4) hx hb dX8_fails_30 (by decide) ?_
    refine lv_irem hx hb dX8_fails_31 (by decide) ?_
    refine k_nrm (y := (nI (lm % 4))) (pk_rem (d := 4) (by omega) (by decide) (by decide)) ?_
    refine lv_iconst (v := 1) hx hb dX8_fails_32 (by decide) ?_
    refine lv_icmp_eq (tgt := 38) hx hb dX8_fails_33 (by decide) (fun c_6 => ?_) (fun c_6 => ?_)
    · have hc9 := c_6
      have hdg : ¬ dgc lm = 0 := dg_y hlm c_3 c_6
      obtain ⟨hg2, hg9, hgl⟩ := dgc_pos hdg
      have hf_7 : (((nI lm - 5) / 4) : Int32) = (nI (dgc lm)) := dg_n5 hdg
      have hP : va_P D vwCl [(mo, .inr (8, [.ref ms, .int sv, .ref mb, .int ty, .int th, .ref mk, .int (nI lm), .ref mfd, .int (nI (dgc lm)), .int sp, .int on, .int tw])), (mk, .inl (K, 41, .inl lk)), (mfd, .inl (K, 9, .inl fd))] H := (congrArg (fun z9 : Int32 => va_P D vwCl [(mo, .inr (8, [.ref ms, .int sv, .ref mb, .int ty, .int th, .ref mk, .int (nI lm), .ref mfd, .int z9, .int sp, .int on, .int tw])), (mk, .inl (K, 41, .inl lk)), (mfd, .inl (K, 9, .inl fd))] H) hf_7).mp hP
      have hD : va_D A [(mo, .inr (8, [.ref ms, .int sv, .ref mb, .int ty, .int th, .ref mk, .int (nI lm), .ref mfd, .int (nI (dgc lm)), .int sp, .int on, .int tw])), (mk, .inl (K, 41, .inl lk)), (mfd, .inl (K, 9, .inl fd))] := (congrArg (fun z9 : Int32 => va_D A [(mo, .inr (8, [.ref ms, .int sv, .ref mb, .int ty, .int th, .ref mk, .int (nI lm), .ref mfd, .int z9, .int sp, .int on, .int tw])), (mk, .inl (K, 41, .inl lk)), (mfd, .inl (K, 9, .inl fd))]) hf_7).mp hD
      refine lv_aload_n hx hb dX8_fails_38 rfl (lv_at hl 0 rfl) ?_
      refine lv_iload_n hx hb dX8_fails_39 rfl (lv_at hl 1 rfl) ?_
      have ct := k_cut_of (wc := [(mo, .inr (8, [.ref ms, .int sv, .ref mb, .int ty, .int th, .ref mk, .int (nI lm), .ref mfd, .int (nI (dgc lm)), .int sp, .int on, .int tw])), (mk, .inl (K, 41, .inl lk))]) (wr := [(mfd, .inl (K, 9, .inl fd))]) (tc := [(K, .int)]) hG hS hA hK hP hD [0, 1] [2] [0] rfl rfl (by decide) (by decide) (by decide) rfl
      refine k_endi (As := [.ref mo, .int b]) ct (k_runV (As := [.int b]) (rest := []) S0 Lv_X8_101 rfl (ci := 8) (q0 := 0) rfl rfl ct (c_M_leftG l D mo ms sv mb ty th mk lm mfd (nI (dgc lm)) sp on tw K lk b (by first | assumption | omega) (by first | assumption | omega) H.size) hl.1 rfl (Nat.le_of_ble_eq_true rfl) rfl dX8_fails_40 ⟨⟨Nat.le_of_ble_eq_true rfl, Nat.le_of_ble_eq_true rfl⟩, Nat.le_of_ble_eq_true rfl, Nat.le_of_ble_eq_true rfl⟩) rfl rfl (fun r_8 _ H locs hw_9 hP hD hK hS => ?_)
      have hK : va_K D vwCl [(K, .int)] s := hK
      have hP : va_P D vwCl [(mfd, .inl (K, 9, .inl fd)), (mo, .inr (8, [.ref ms, .int sv, .ref mb, .int ty, .int th, .ref mk, .int (nI lm), .ref mfd, .int (nI (dgc lm)), .int sp, .int on, .int tw])), (mk, .inl (K, 41, .inl lk))] H := hP
      have hD : va_D A [(mfd, .inl (K, 9, .inl fd)), (mo, .inr (8, [.ref ms, .int sv, .ref mb, .int ty, .int th, .ref mk, .int (nI lm), .ref mfd, .int (nI (dgc lm)), .int sp, .int on, .int tw])), (mk, .inl (K, 41, .inl lk))] := hD
      have hw_9 : r_8 = (lgF (lnF lm lk b 0) (lnF lm lk b 1) (lnF lm lk b 2)) := hw_9
      have hw_9 := hw_9.symm
      subst hw_9
      refine k_nrm (y := (lgF (lnF lm lk b 0) (lnF lm lk b 1) (lnF lm lk b 2))) rfl ?_
      refine k_nrm (y := lgG lm (lnF lm lk b)) (lg_G (by omega) hlm) ?_
      refine lv_if_ne (tgt := 48) hx hb dX8_fails_43 (by decide) (fun c_10 => ?_) (fun c_10 => ?_)
      · have hc9 := c_10
        refine lv_iconst (v := 0) hx hb dX8_fails_48 (by decide) ?_
        refine lv_istore_n (lv' := [(3, .int 0), (0, .ref mo), (1, .int b), (2, .int to)]) hx hb dX8_fails_49 rfl hl (by decide) rfl (fun ls hl => ?_)
        have hl : lv_has ls 4 [(3, .int (nI 0)), (0, .ref mo), (1, .int b), (2, .int to)] := hl
        refine k_loop (ι := Nat × (Nat → Int32)) (fun (x9 : Nat × (Nat → Int32)) H9 locs9 ls9 => match x9 with | (k, fg) => (k ≤ dgc lm) ∧ (∀ m9, m9 < k → okD lm (lnF lm lk b) to m9 ∧ fg m9 = nrD lm (lnF lm lk b) m9) ∧ va_P D vwCl [(mo, .inr (8, [.ref ms, .int sv, .ref mb, .int ty, .int th, .ref mk, .int (nI lm), .ref mfd, .int (nI (dgc lm)), .int sp, .int on, .int tw])), (mk, .inl (K, 41, .inl lk)), (mfd, .inl (K, 9, .inl fg))] H9 ∧ va_D A [(mo, .inr (8, [.ref ms, .int sv, .ref mb, .int ty, .int th, .ref mk, .int (nI lm), .ref mfd, .int (nI (dgc lm)), .int sp, .int on, .int tw])), (mk, .inl (K, 41, .inl lk)), (mfd, .inl (K, 9, .inl fg))] ∧ va_S A s.heap H9 locs9 ∧ lv_has ls9 4 [(3, .int (nI k)), (0, .ref mo), (1, .int b), (2, .int to)]) (fun (x9 : Nat × (Nat → Int32)) => match x9 with | (k, fg) => dgc lm - k) ?_ ((0, fd)) ⟨(Nat.zero_le _), (fun m9 h9 => absurd h9 (Nat.not_lt_zero m9)), hP.sub [1, 2, 0] rfl, hD.sub [1, 2, 0] (by decide) rfl, hS, lv_sub hl [0, 1, 2, 3] rfl⟩
        intro x9 H locs ls hF9 ih9
        obtain ⟨k, fg⟩ := x9
        obtain ⟨hk, hall, hP, hD, hS, hl⟩ := hF9
        try dsimp only at ih9
        have hP : va_P D vwCl [(mo, .inr (8, [.ref ms, .int sv, .ref mb, .int ty, .int th, .ref mk, .int (nI lm), .ref mfd, .int (nI (dgc lm)), .int sp, .int on, .int tw])), (mk, .inl (K, 41, .inl lk)), (mfd, .inl (K, 9, .inl fg))] H := hP
        have hD : va_D A [(mo, .inr (8, [.ref ms, .int sv, .ref mb, .int ty, .int th, .ref mk, .int (nI lm), .ref mfd, .int (nI (dgc lm)), .int sp, .int on, .int tw])), (mk, .inl (K, 41, .inl lk)), (mfd, .inl (K, 9, .inl fg))] := hD
        have hl : lv_has ls 4 [(3, .int (nI k)), (0, .ref mo), (1, .int b), (2, .int to)] := hl
        refine lv_iload_n hx hb dX8_fails_50 rfl (lv_at hl 0 rfl) ?_
        refine lv_aload_n hx hb dX8_fails_51 rfl (lv_at hl 1 rfl) ?_
        refine va_get (D := D) (ci := 8) (v := .int (nI (dgc lm))) (C := RX8) (T := TX8) (N := 12) hx hb ht inA_X8 hown hK hP 0 rfl rfl 8 (by decide) (ht _ lf_X8_98) (fun _ h9 => h9) rfl dX8_fails_52 ?_
        refine lv_icmp_ge (tgt := 93) hx hb dX8_fails_55 (by decide) (fun c_11 => ?_) (fun c_11 => ?_)
        · have hc9 := c_11
          obtain rfl : (dgc lm) = k := by rcases Nat.lt_or_ge k (dgc lm) with q9 | q9; exact absurd c_11 (nI_ge q9 (by omega)); omega
          refine lv_aload_n hx hb dX8_fails_93 rfl (lv_at hl 1 rfl) ?_
          refine lv_iload_n hx hb dX8_fails_94 rfl (lv_at hl 2 rfl) ?_
          have ct := k_cut_of (wc := [(mo, .inr (8, [.ref ms, .int sv, .ref mb, .int ty, .int th, .ref mk, .int (nI lm), .ref mfd, .int (nI (dgc lm)), .int sp, .int on, .int tw])), (mk, .inl (K, 41, .inl lk))]) (wr := [(mfd, .inl (K, 9, .inl fg))]) (tc := [(K, .int)]) hG hS hA hK hP hD [0, 1] [2] [0] rfl rfl (by decide) (by decide) (by decide) rfl
          refine k_endi (As := [.ref mo, .int b]) ct (k_runV (As := [.int b]) (rest := []) S0 Lv_X8_109 rfl (ci := 8) (q0 := 0) rfl rfl ct (c_M_rightG l D mo ms sv mb ty th mk lm mfd (nI (dgc lm)) sp on tw K lk b (by first | assumption | omega) (by first | assumption | omega) H.size) hl.1 rfl (Nat.le_of_ble_eq_true rfl) rfl dX8_fails_95 ⟨⟨Nat.le_of_ble_eq_true rfl, Nat.le_of_ble_eq_true rfl⟩, Nat.le_of_ble_eq_true rfl, Nat.le_of_ble_eq_true rfl⟩) rfl rfl (fun r_12 _ H locs hw_13 hP hD hK hS => ?_)
          have hK : va_K D vwCl [(K, .int)] s := hK
          have hP : va_P D vwCl [(mfd, .inl (K, 9, .inl fg)), (mo, .inr (8, [.ref ms, .int sv, .ref mb, .int ty, .int th, .ref mk, .int (nI lm), .ref mfd, .int (nI (dgc lm)), .int sp, .int on, .int tw])), (mk, .inl (K, 41, .inl lk))] H := hP
          have hD : va_D A [(mfd, .inl (K, 9, .inl fg)), (mo, .inr (8, [.ref ms, .int sv, .ref mb, .int ty, .int th, .ref mk, .int (nI lm), .ref mfd, .int (nI (dgc lm)), .int sp, .int on, .int tw])), (mk, .inl (K, 41, .inl lk))] := hD
          have hw_13 : r_12 = (rgF (lnF lm lk b (lm - 2)) (lnF lm lk b (lm - 1))) := hw_13
          have hw_13 := hw_13.symm
          subst hw_13
          refine k_nrm (y := (rgF (lnF lm lk b (lm - 2)) (lnF lm lk b (lm - 1)))) rfl ?_
          refine k_nrm (y := rgG lm (lnF lm lk b)) (rg_G (by omega) hlm) ?_
          refine lv_if_ne (tgt := 103) hx hb dX8_fails_98 (by decide) (fun c_14 => ?_) (fun c_14 => ?_)
          · have hc9 := c_14
            refine lv_aload_n hx hb dX8_fails_103 rfl (lv_at hl 1 rfl) ?_
            refine va_get (D := D) (ci := 8) (v := .ref mfd) (C := RX8) (T := TX8) (N := 12) hx hb ht inA_X8 hown hK hP 1 rfl rfl 7 (by decide) (ht _ lf_X8_20) (fun _ h9 => h9) rfl dX8_fails_104 ?_
            refine lv_aload_n hx hb dX8_fails_107 rfl (lv_at hl 1 rfl) ?_
            refine va_get (D := D) (ci := 8) (v := .int (nI (dgc lm))) (C := RX8) (T := TX8) (N := 12) hx hb ht inA_X8 hown hK hP 1 rfl rfl 8 (by decide) (ht _ lf_X8_98) (fun _ h9 => h9) rfl dX8_fails_108 ?_
            refine lv_iconst (v := 1) hx hb dX8_fails_111 (by decide) ?_
            refine lv_isub hx hb dX8_fails_112 ?_
            refine k_nrm (y := (nI (dgc lm - 1))) (pk_sub (b := 1) (by omega)) ?_
            refine va_iald hx hb hK hP 0 0 rfl rfl (vp_in_nI (by omega) (by decide)) dX8_fails_113 ?_
            refine k_nrm (y := (nrD lm (lnF lm lk b) (dgc lm - 1))) (by rw [nI_clamp (by omega)]; exact (hall _ (by omega)).2) ?_
            refine lv_aload_n hx hb dX8_fails_114 rfl (lv_at hl 1 rfl) ?_
            refine va_get (D := D) (ci := 8) (v := .ref mfd) (C := RX8) (T := TX8) (N := 12) hx hb ht inA_X8 hown hK hP 1 rfl rfl 7 (by decide) (ht _ lf_X8_20) (fun _ h9 => h9) rfl dX8_fails_115 ?_
            refine lv_iconst (v := 0) hx hb dX8_fails_118 (by decide) ?_
            refine lv_aload_n hx hb dX8_fails_119 rfl (lv_at hl 1 rfl) ?_
            refine va_get (D := D) (ci := 8) (v := .int (nI (dgc lm))) (C := RX8) (T := TX8) (N := 12) hx hb ht inA_X8 hown hK hP 1 rfl rfl 8 (by decide) (ht _ lf_X8_98) (fun _ h9 => h9) rfl dX8_fails_120 ?_
            refine lv_iconst (v := 1) hx hb dX8_fails_123 (by decide) ?_
            refine lv_isub hx hb dX8_fails_124 ?_
            refine k_nrm (y := (nI (dgc lm - 1))) (pk_sub (b := 1) (by omega)) ?_
            have ct := k_cut_of (wc := [(mfd, .inl (K, 9, .inl fg))]) (wr := [(mo, .inr (8, [.ref ms, .int sv, .ref mb, .int ty, .int th, .ref mk, .int (nI lm), .ref mfd, .int (nI (dgc lm)), .int sp, .int on, .int tw])), (mk, .inl (K, 41, .inl lk))]) (tc := [(K, .int)]) hG hS hA hK hP hD [0] [1, 2] [0] rfl rfl (by decide) (by decide) (by decide) rfl
            refine k_endi (As := [.ref mfd, .int 0, .int (nI (dgc lm - 1))]) ct (k_runS (As := [.ref mfd, .int 0, .int (nI (dgc lm - 1))]) (rest := [.int (nrD lm (lnF lm lk b) (dgc lm - 1))]) S0 Ls_X8_50 ct (c_M_checkF l D mfd K fg (dgc lm - 1) (by first | assumption | omega) H.size) hl.1 rfl (Nat.le_of_ble_eq_true rfl) rfl dX8_fails_125 ⟨⟨Nat.le_of_ble_eq_true rfl, Nat.le_of_ble_eq_true rfl⟩, Nat.le_of_ble_eq_true rfl, Nat.le_of_ble_eq_true rfl⟩) rfl rfl (fun r_15 _ H locs hw_16 hP hD hK hS => ?_)
            have hK : va_K D vwCl [(K, .int)] s := hK
            have hP : va_P D vwCl [(mo, .inr (8, [.ref ms, .int sv, .ref mb, .int ty, .int th, .ref mk, .int (nI lm), .ref mfd, .int (nI (dgc lm)), .int sp, .int on, .int tw])), (mk, .inl (K, 41, .inl lk)), (mfd, .inl (K, 9, .inl fg))] H := hP
            have hD : va_D A [(mo, .inr (8, [.ref ms, .int sv, .ref mb, .int ty, .int th, .ref mk, .int (nI lm), .ref mfd, .int (nI (dgc lm)), .int sp, .int on, .int tw])), (mk, .inl (K, 41, .inl lk)), (mfd, .inl (K, 9, .inl fg))] := hD
            have hw_16 : r_15 = (chkd (csum (fun q9 => fg (q9)) (dgc lm - 1) (dgc lm - 1))) := hw_16
            have hw_16 := hw_16.symm
            subst hw_16
            refine k_nrm (y := (chkd (csum (fun q9 => fg (q9)) (dgc lm - 1) (dgc lm - 1)))) rfl ?_
            refine k_nrm (y := (chkd (csum (nrD lm (lnF lm lk b)) (dgc lm - 1) (dgc lm - 1)))) (by rw [csum_congr (g := nrD lm (lnF lm lk b)) (fun m9 h9 => (hall m9 (by omega)).2) _ (Nat.le_refl _)]) ?_
            refine lv_icmp_ne (tgt := 135) hx hb dX8_fails_128 (by decide) (fun c_17 => ?_) (fun c_17 => ?_)
            · have hc9 := c_17
              refine lv_iconst (v := 5) hx hb dX8_fails_135 (by decide) ?_
              have hP9 : va_P D vwCl [(mo, .inr (8, [.ref ms, .int sv, .ref mb, .int ty, .int th, .ref mk, .int (nI lm), .ref mfd, .int (nI (dgc lm)), .int sp, .int on, .int tw])), (mk, .inl (K, 41, .inl lk)), (mfd, .inl (K, 9, .inl fg))] H := hP.sub [0, 1, 2] rfl
              have hD9 : va_D A [(mo, .inr (8, [.ref ms, .int sv, .ref mb, .int ty, .int th, .ref mk, .int (nI lm), .ref mfd, .int (nI (dgc lm)), .int sp, .int on, .int tw])), (mk, .inl (K, 41, .inl lk)), (mfd, .inl (K, 9, .inl fg))] := hD.sub [0, 1, 2] (by decide) rfl
              have hK9 : va_K D vwCl [] s := hK.sub [] rfl
              exact W.iret (v := 5) hx hb hr (fun t ht9 hW9 => ⟨⟨5, ((nI (dgc lm)), fg), rfl, by (exact ⟨(failF_5 hdg c_10 (fun m9 h9 => (hall m9 h9).1) c_14 c_17).symm, fun q9 => absurd q9 (by decide)⟩), ⟨by rw [ht9]; exact hP9, va_K.moved hW9.alike hK9, hD9⟩⟩, hS.F ht9⟩) hS.2.2 dX8_fails_136
            · have hc9 := c_17
              refine lv_iconst (v := 0) hx hb dX8_fails_131 (by decide) ?_
              refine lv_goto (tgt := 136) hx hb dX8_fails_132 (by decide) ?_
              have hP9 : va_P D vwCl [(mo, .inr (8, [.ref ms, .int sv, .ref mb, .int ty, .int th, .ref mk, .int (nI lm), .ref mfd, .int (nI (dgc lm)), .int sp, .int on, .int tw])), (mk, .inl (K, 41, .inl lk)), (mfd, .inl (K, 9, .inl fg))] H := hP.sub [0, 1, 2] rfl
              have hD9 : va_D A [(mo, .inr (8, [.ref ms, .int sv, .ref mb, .int ty, .int th, .ref mk, .int (nI lm), .ref mfd, .int (nI (dgc lm)), .int sp, .int on, .int tw])), (mk, .inl (K, 41, .inl lk)), (mfd, .inl (K, 9, .inl fg))] := hD.sub [0, 1, 2] (by decide) rfl
              have hK9 : va_K D vwCl [] s := hK.sub [] rfl
              exact W.iret (v := 0) hx hb hr (fun t ht9 hW9 => ⟨⟨0, ((nI (dgc lm)), fg), rfl, by (exact ⟨(failF_0 hdg c_10 (fun m9 h9 => (hall m9 h9).1) c_14 c_17).symm, fun _ => ⟨rfl, hdg, fun m9 h9 => (hall m9 h9).2⟩⟩), ⟨by rw [ht9]; exact hP9, va_K.moved hW9.alike hK9, hD9⟩⟩, hS.F ht9⟩) hS.2.2 dX8_fails_136
          · have hc9 := c_14
            refine lv_iconst (v := 4) hx hb dX8_fails_101 (by decide) ?_
            have hP9 : va_P D vwCl [(mo, .inr (8, [.ref ms, .int sv, .ref mb, .int ty, .int th, .ref mk, .int (nI lm), .ref mfd, .int (nI (dgc lm)), .int sp, .int on, .int tw])), (mk, .inl (K, 41, .inl lk)), (mfd, .inl (K, 9, .inl fg))] H := hP.sub [1, 2, 0] rfl
            have hD9 : va_D A [(mo, .inr (8, [.ref ms, .int sv, .ref mb, .int ty, .int th, .ref mk, .int (nI lm), .ref mfd, .int (nI (dgc lm)), .int sp, .int on, .int tw])), (mk, .inl (K, 41, .inl lk)), (mfd, .inl (K, 9, .inl fg))] := hD.sub [1, 2, 0] (by decide) rfl
            have hK9 : va_K D vwCl [] s := hK.sub [] rfl
            exact W.iret (v := 4) hx hb hr (fun t ht9 hW9 => ⟨⟨4, ((nI (dgc lm)), fg), rfl, by (exact ⟨(failF_4 hdg c_10 (fun m9 h9 => (hall m9 h9).1) c_14).symm, fun q9 => absurd q9 (by decide)⟩), ⟨by rw [ht9]; exact hP9, va_K.moved hW9.alike hK9, hD9⟩⟩, hS.F ht9⟩) hS.2.2 dX8_fails_102
        · have hc9 := c_11
          have hik : k + 1 ≤ (dgc lm) := by rcases Nat.lt_or_ge k (dgc lm) with q9 | q9; exact q9; exact absurd (nI_le q9 (by omega)) c_11
          refine lv_aload_n hx hb dX8_fails_58 rfl (lv_at hl 1 rfl) ?_
          refine va_get (D := D) (ci := 8) (v := .ref mfd) (C := RX8) (T := TX8) (N := 12) hx hb ht inA_X8 hown hK hP 0 rfl rfl 7 (by decide) (ht _ lf_X8_20) (fun _ h9 => h9) rfl dX8_fails_59 ?_
          refine lv_iload_n hx hb dX8_fails_62 rfl (lv_at hl 0 rfl) ?_
          refine lv_aload_n hx hb dX8_fails_63 rfl (lv_at hl 1 rfl) ?_
          refine lv_iconst (v := 3) hx hb dX8_fails_64 (by decide) ?_
          refine lv_iconst (v := 4) hx hb dX8_fails_65 (by decide) ?_
          refine lv_iload_n hx hb dX8_fails_66 rfl (lv_at hl 0 rfl) ?_
          refine lv_imul hx hb dX8_fails_67 ?_
          refine k_nrm (y := (nI (4 * k))) (pk_mul 4 k) ?_
          refine lv_iadd hx hb dX8_fails_68 ?_
          refine k_nrm (y := (nI (3 + 4 * k))) (nI_add 3 (4 * k)) ?_
          refine lv_iload_n hx hb dX8_fails_69 rfl (lv_at hl 2 rfl) ?_
          refine lv_iload_n hx hb dX8_fails_70 rfl (lv_at hl 3 rfl) ?_
          have ct := k_cut_of (wc := [(mo, .inr (8, [.ref ms, .int sv, .ref mb, .int ty, .int th, .ref mk, .int (nI lm), .ref mfd, .int (nI (dgc lm)), .int sp, .int on, .int tw])), (mk, .inl (K, 41, .inl lk))]) (wr := [(mfd, .inl (K, 9, .inl fg))]) (tc := [(K, .int)]) hG hS hA hK hP hD [0, 1] [2] [0] rfl rfl (by decide) (by decide) (by decide) rfl
          refine k_endi (As := [.ref mo, .int (nI (3 + 4 * k)), .int b, .int to]) ct (k_runV (As := [.int (nI (3 + 4 * k)), .int b, .int to]) (rest := [.int (nI k), .ref mfd]) S0 Lv_X8_105 rfl (ci := 8) (q0 := 0) rfl rfl ct (c_M_digitAt l D mo ms sv mb ty th mk lm mfd (nI (dgc lm)) sp on tw K lk (3 + 4 * k) b to (by first | assumption | omega) (by first | assumption | omega) H.size) hl.1 rfl (Nat.le_of_ble_eq_true rfl) rfl dX8_fails_71 ⟨⟨Nat.le_of_ble_eq_true rfl, Nat.le_of_ble_eq_true rfl⟩, Nat.le_of_ble_eq_true rfl, Nat.le_of_ble_eq_true rfl⟩) rfl rfl (fun r_18 _ H locs hw_19 hP hD hK hS => ?_)
          have hK : va_K D vwCl [(K, .int)] s := hK
          have hP : va_P D vwCl [(mfd, .inl (K, 9, .inl fg)), (mo, .inr (8, [.ref ms, .int sv, .ref mb, .int ty, .int th, .ref mk, .int (nI lm), .ref mfd, .int (nI (dgc lm)), .int sp, .int on, .int tw])), (mk, .inl (K, 41, .inl lk))] H := hP
          have hD : va_D A [(mfd, .inl (K, 9, .inl fg)), (mo, .inr (8, [.ref ms, .int sv, .ref mb, .int ty, .int th, .ref mk, .int (nI lm), .ref mfd, .int (nI (dgc lm)), .int sp, .int on, .int tw])), (mk, .inl (K, 41, .inl lk))] := hD
          have hw_19 : r_18 = (dgA (dsM lm lk b (3 + 4 * k)) (sm4 (lnF lm lk b) (3 + 4 * k)) to) := hw_19
          have hw_19 := hw_19.symm
          subst hw_19
          refine k_nrm (y := (dgA (dsM lm lk b (3 + 4 * k)) (sm4 (lnF lm lk b) (3 + 4 * k)) to)) rfl ?_
          refine k_nrm (y := dgK lm (lnF lm lk b) to k) (dk_eq (by omega) hlm) ?_
          refine va_iast hx hb hK hP hD hS 0 0 rfl rfl (vp_in_nI (by omega) (by decide)) dX8_fails_74 (fun H locs hP hD hS => ?_)
          have hP : va_P D vwCl [(mfd, .inl (K, 9, .inl (upd fg ((nI k).toNatClampNeg) (dgK lm (lnF lm lk b) to k)))), (mo, .inr (8, [.ref ms, .int sv, .ref mb, .int ty, .int th, .ref mk, .int (nI lm), .ref mfd, .int (nI (dgc lm)), .int sp, .int on, .int tw])), (mk, .inl (K, 41, .inl lk))] H := hP
          have hD : va_D A [(mfd, .inl (K, 9, .inl (upd fg ((nI k).toNatClampNeg) (dgK lm (lnF lm lk b) to k)))), (mo, .inr (8, [.ref ms, .int sv, .ref mb, .int ty, .int th, .ref mk, .int (nI lm), .ref mfd, .int (nI (dgc lm)), .int sp, .int on, .int tw])), (mk, .inl (K, 41, .inl lk))] := hD
          have hf9 : upd fg ((nI k).toNatClampNeg) (dgK lm (lnF lm lk b) to k) = (upd fg k (dgK lm (lnF lm lk b) to k)) := by rw [nI_clamp (by omega)]
          rw [hf9] at hP hD
          have hP : va_P D vwCl [(mfd, .inl (K, 9, .inl (upd fg k (dgK lm (lnF lm lk b) to k)))), (mo, .inr (8, [.ref ms, .int sv, .ref mb, .int ty, .int th, .ref mk, .int (nI lm), .ref mfd, .int (nI (dgc lm)), .int sp, .int on, .int tw])), (mk, .inl (K, 41, .inl lk))] H := hP
          have hD : va_D A [(mfd, .inl (K, 9, .inl (upd fg k (dgK lm (lnF lm lk b) to k)))), (mo, .inr (8, [.ref ms, .int sv, .ref mb, .int ty, .int th, .ref mk, .int (nI lm), .ref mfd, .int (nI (dgc lm)), .int sp, .int on, .int tw])), (mk, .inl (K, 41, .inl lk))] := hD
          refine lv_aload_n hx hb dX8_fails_75 rfl (lv_at hl 1 rfl) ?_
          refine va_get (D := D) (ci := 8) (v := .ref mfd) (C := RX8) (T := TX8) (N := 12) hx hb ht inA_X8 hown hK hP 1 rfl rfl 7 (by decide) (ht _ lf_X8_20) (fun _ h9 => h9) rfl dX8_fails_76 ?_
          refine lv_iload_n hx hb dX8_fails_79 rfl (lv_at hl 0 rfl) ?_
          refine va_iald hx hb hK hP 0 0 rfl rfl (vp_in_nI (by omega) (by decide)) dX8_fails_80 ?_
          refine k_nrm (y := (dgK lm (lnF lm lk b) to k)) (by rw [nI_clamp (by omega)]; exact pk_us) ?_
          refine lv_iconst (v := (-1)) hx hb dX8_fails_81 (by decide) ?_
          refine lv_icmp_ne (tgt := 87) hx hb dX8_fails_82 (by decide) (fun c_20 => ?_) (fun c_20 => ?_)
          · have hc9 := c_20
            obtain ⟨x_21, ex_21⟩ : ∃ z : Int32, z = (nI k) + 1 := ⟨_, rfl⟩
            refine lv_iinc (v := x_21) (lv' := [(3, .int x_21), (0, .ref mo), (1, .int b), (2, .int to)]) hx hb dX8_fails_87 hl (k := 0) rfl (by rw [ex_21]; rfl) (by decide) rfl (fun ls hl => ?_)
            refine lv_goto (tgt := 50) hx hb dX8_fails_90 (by decide) ?_
            have he9 : x_21 = (nI (k + 1)) := by rw [ex_21]; exact nI_1 k
            rw [he9] at hl
            have hl : lv_has ls 4 [(3, .int (nI (k + 1))), (0, .ref mo), (1, .int b), (2, .int to)] := hl
            exact ih9 ((k + 1, (upd fg k (dgK lm (lnF lm lk b) to k)))) H locs ls (by omega) ⟨hik, (fl_s hall (dgK_y c_20)), hP.sub [1, 2, 0] rfl, hD.sub [1, 2, 0] (by decide) rfl, hS, lv_sub hl [0, 1, 2, 3] rfl⟩
          · have hc9 := c_20
            refine lv_iconst (v := 3) hx hb dX8_fails_85 (by decide) ?_
            have hP9 : va_P D vwCl [(mo, .inr (8, [.ref ms, .int sv, .ref mb, .int ty, .int th, .ref mk, .int (nI lm), .ref mfd, .int (nI (dgc lm)), .int sp, .int on, .int tw])), (mk, .inl (K, 41, .inl lk)), (mfd, .inl (K, 9, .inl (upd fg k (dgK lm (lnF lm lk b) to k))))] H := hP.sub [1, 2, 0] rfl
            have hD9 : va_D A [(mo, .inr (8, [.ref ms, .int sv, .ref mb, .int ty, .int th, .ref mk, .int (nI lm), .ref mfd, .int (nI (dgc lm)), .int sp, .int on, .int tw])), (mk, .inl (K, 41, .inl lk)), (mfd, .inl (K, 9, .inl (upd fg k (dgK lm (lnF lm lk b) to k))))] := hD.sub [1, 2, 0] (by decide) rfl
            have hK9 : va_K D vwCl [] s := hK.sub [] rfl
            exact W.iret (v := 3) hx hb hr (fun t ht9 hW9 => ⟨⟨3, ((nI (dgc lm)), (upd fg k (dgK lm (lnF lm lk b) to k))), rfl, by (exact ⟨(failF_3 hdg c_10 (fun q9 => dgK_n c_20 (q9 k hik))).symm, fun q9 => absurd q9 (by decide)⟩), ⟨by rw [ht9]; exact hP9, va_K.moved hW9.alike hK9, hD9⟩⟩, hS.F ht9⟩) hS.2.2 dX8_fails_86
      · have hc9 := c_10
        refine lv_iconst (v := 2) hx hb dX8_fails_46 (by decide) ?_
        have hP9 : va_P D vwCl [(mo, .inr (8, [.ref ms, .int sv, .ref mb, .int ty, .int th, .ref mk, .int (nI lm), .ref mfd, .int (nI (dgc lm)), .int sp, .int on, .int tw])), (mk, .inl (K, 41, .inl lk)), (mfd, .inl (K, 9, .inl fd))] H := hP.sub [1, 2, 0] rfl
        have hD9 : va_D A [(mo, .inr (8, [.ref ms, .int sv, .ref mb, .int ty, .int th, .ref mk, .int (nI lm), .ref mfd, .int (nI (dgc lm)), .int sp, .int on, .int tw])), (mk, .inl (K, 41, .inl lk)), (mfd, .inl (K, 9, .inl fd))] := hD.sub [1, 2, 0] (by decide) rfl
        have hK9 : va_K D vwCl [] s := hK.sub [] rfl
        exact W.iret (v := 2) hx hb hr (fun t ht9 hW9 => ⟨⟨2, ((nI (dgc lm)), fd), rfl, by (exact ⟨(failF_2 hdg c_10).symm, fun q9 => absurd q9 (by decide)⟩), ⟨by rw [ht9]; exact hP9, va_K.moved hW9.alike hK9, hD9⟩⟩, hS.F ht9⟩) hS.2.2 dX8_fails_47
    · have hc9 := c_6
      refine lv_iconst (v := 1) hx hb dX8_fails_36 (by decide) ?_
      have hP9 : va_P D vwCl [(mo, .inr (8, [.ref ms, .int sv, .ref mb, .int ty, .int th, .ref mk, .int (nI lm), .ref mfd, .int ((nI lm - 5) / 4), .int sp, .int on, .int tw])), (mk, .inl (K, 41, .inl lk)), (mfd, .inl (K, 9, .inl fd))] H := hP.sub [0, 1, 2] rfl
      have hD9 : va_D A [(mo, .inr (8, [.ref ms, .int sv, .ref mb, .int ty, .int th, .ref mk, .int (nI lm), .ref mfd, .int ((nI lm - 5) / 4), .int sp, .int on, .int tw])), (mk, .inl (K, 41, .inl lk)), (mfd, .inl (K, 9, .inl fd))] := hD.sub [0, 1, 2] (by decide) rfl
      have hK9 : va_K D vwCl [] s := hK.sub [] rfl
      exact W.iret (v := 1) hx hb hr (fun t ht9 hW9 => ⟨⟨1, (((nI lm - 5) / 4), fd), rfl, by (exact ⟨(failF_1 (dg_z2 c_6)).symm, fun q9 => absurd q9 (by decide)⟩), ⟨by rw [ht9]; exact hP9, va_K.moved hW9.alike hK9, hD9⟩⟩, hS.F ht9⟩) hS.2.2 dX8_fails_37
  · subst hr9
    refine lv_if_eq (tgt := 36) hx hb dX8_fails_23 (by decide) (fun _ => ?_) (fun c9 => absurd (by decide) c9)
    refine lv_iconst (v := 1) hx hb dX8_fails_36 (by decide) ?_
    have hP9 : va_P D vwCl [(mo, .inr (8, [.ref ms, .int sv, .ref mb, .int ty, .int th, .ref mk, .int (nI lm), .ref mfd, .int ((nI lm - 5) / 4), .int sp, .int on, .int tw])), (mk, .inl (K, 41, .inl lk)), (mfd, .inl (K, 9, .inl fd))] H := hP.sub [0, 1, 2] rfl
    have hD9 : va_D A [(mo, .inr (8, [.ref ms, .int sv, .ref mb, .int ty, .int th, .ref mk, .int (nI lm), .ref mfd, .int ((nI lm - 5) / 4), .int sp, .int on, .int tw])), (mk, .inl (K, 41, .inl lk)), (mfd, .inl (K, 9, .inl fd))] := hD.sub [0, 1, 2] (by decide) rfl
    have hK9 : va_K D vwCl [] s := hK.sub [] rfl
    exact W.iret (v := 1) hx hb hr (fun t ht9 hW9 => ⟨⟨1, (((nI lm - 5) / 4), fd), rfl, by (exact ⟨(failF_1 (dg_z1 hlm c_5)).symm, fun q9 => absurd q9 (by decide)⟩), ⟨by rw [ht9]; exact hP9, va_K.moved hW9.alike hK9, hD9⟩⟩, hS.F ht9⟩) hS.2.2 dX8_fails_37
set_option maxHeartbeats 4000000 in
set_option maxRecDepth 100000 in
theorem c_M_reads (l : Launch) (D : va_G) (mo : Nat) (ms : Nat) (sv : Int32) (mb : Nat) (ty : Int32) (th : Int32) (mk : Nat) (lm : Nat) (mfd : Nat) (mf : Int32) (sp : Int32) (on : Int32) (tw : Int32) (K : ClassId) (lk : Nat → Int32) (fd : Nat → Int32) (to : Int32) (hlm : lm ≤ 41) (sz : Nat) : k_Mi (S := Int32 × (Nat → Int32)) l D yX8_reads cX8_reads 4 (some .int) 6 0 0 146 [.ref mo, .int to] [(mo, .inr (8, [.ref ms, .int sv, .ref mb, .int ty, .int th, .ref mk, .int (nI lm), .ref mfd, .int mf, .int sp, .int on, .int tw])), (mk, .inl (K, 41, .inl lk)), (mfd, .inl (K, 9, .inl fd))] [(K, .int)] (fun (r : Int32) (u : Int32 × (Nat → Int32)) => match u with | (mf1, fd1) => r = resF lm lk to ∧ RFD lm lk r mf1 fd1) (fun u => match u with | (mf1, fd1) => [(mo, .inr (8, [.ref ms, .int sv, .ref mb, .int ty, .int th, .ref mk, .int (nI lm), .ref mfd, .int mf1, .int sp, .int on, .int tw])), (mk, .inl (K, 41, .inl lk)), (mfd, .inl (K, 9, .inl fd1))]) (fun u => match u with | (mf1, fd1) => []) sz := by
  refine Met.ofW (cc := cX8_reads) (maxL := 4) (ret := (some .int)) (by decide) rfl ?_
  intro p e s m args below meth c s₁ B hml hv
  obtain ⟨rfl, hsz, hP, hK, hD0, hG⟩ := hv
  have hx := B.exec
  have hb := B.bytes
  have hr := B.returns
  have ht : ∀ v9 ∈ wsA, v9.before ([.ref mo, .int to] : List Value).toArray s = true := fun v9 h9 => atoms_spec (ws := k_ws yX8_reads cX8_reads 4 (some .int)) B.pre v9 (List.mem_cons_of_mem _ h9)
  have hown : s.vm.findClass RX8 = some m.cls := findClass_of_methodNamed B.named
  have S0 : k_C p s m ([.ref mo, .int to] : List Value).toArray c cX8_reads 4 RX8 := ⟨hx, hb, hml, hown, ht⟩
  have hlocks := B.notSynchronized
  subst hsz
  have hD := hD0.self (sz := s.heap.size)
  generalize hAe : va_A [(mo, .inr (8, [.ref ms, .int sv, .ref mb, .int ty, .int th, .ref mk, .int (nI lm), .ref mfd, .int mf, .int sp, .int on, .int tw])), (mk, .inl (K, 41, .inl lk)), (mfd, .inl (K, 9, .inl fd))] s.heap.size = A at hD hG ⊢
  have hA : ∀ q : Nat, s.heap.size ≤ q → A q := fun q h => by rw [← hAe]; exact Or.inr h
  have hS : va_S A s.heap s.heap [] := va_S.rf
  have hl := lv_entry ([.ref mo, .int to]) (n := 4) (Nat.le_of_ble_eq_true rfl)
  rw [lg_entry_eq]
  generalize (lg_sl ([.ref mo, .int to]) ++ List.replicate (4 - (lg_sl ([.ref mo, .int to])).length) Slot.unset).toArray = ls at hl ⊢
  have hl : lv_has ls 4 [(0, .ref mo), (1, .int to)] := hl
  have hP : va_P D vwCl [(mo, .inr (8, [.ref ms, .int sv, .ref mb, .int ty, .int th, .ref mk, .int (nI lm), .ref mfd, .int mf, .int sp, .int on, .int tw])), (mk, .inl (K, 41, .inl lk)), (mfd, .inl (K, 9, .inl fd))] s.heap := hP
  refine lv_aload_n hx hb dX8_reads_0 rfl (lv_at hl 0 rfl) ?_
  refine lv_iconst (v := 0) hx hb dX8_reads_1 (by decide) ?_
  refine lv_iload_n hx hb dX8_reads_2 rfl (lv_at hl 1 rfl) ?_
  have ct := k_cut_of (wc := [(mo, .inr (8, [.ref ms, .int sv, .ref mb, .int ty, .int th, .ref mk, .int (nI lm), .ref mfd, .int mf, .int sp, .int on, .int tw])), (mk, .inl (K, 41, .inl lk)), (mfd, .inl (K, 9, .inl fd))]) (wr := []) (tc := [(K, .int)]) hG hS hA hK hP hD [0, 1, 2] [] [0] rfl rfl (by decide) (by decide) (by decide) rfl
  refine k_endi (As := [.ref mo, .int 0, .int to]) ct (k_runV (As := [.int 0, .int to]) (rest := []) S0 Lv_X8_112 rfl (ci := 8) (q0 := 0) rfl rfl ct (c_M_fails l D mo ms sv mb ty th mk lm mfd mf sp on tw K lk fd 0 to (by first | assumption | omega) s.heap.size) hl.1 rfl (Nat.le_of_ble_eq_true rfl) rfl dX8_reads_3 ⟨⟨Nat.le_of_ble_eq_true rfl, Nat.le_of_ble_eq_true rfl⟩, Nat.le_of_ble_eq_true rfl, Nat.le_of_ble_eq_true rfl⟩) rfl rfl (fun ra u H locs hw_3 hP hD hK hS => ?_)
  obtain ⟨mf1v_1, fd1v_2⟩ := u
  have hK : va_K D vwCl [(K, .int)] s := hK
  have hP : va_P D vwCl [(mo, .inr (8, [.ref ms, .int sv, .ref mb, .int ty, .int th, .ref mk, .int (nI lm), .ref mfd, .int mf1v_1, .int sp, .int on, .int tw])), (mk, .inl (K, 41, .inl lk)), (mfd, .inl (K, 9, .inl fd1v_2))] H := hP
  have hD : va_D A [(mo, .inr (8, [.ref ms, .int sv, .ref mb, .int ty, .int th, .ref mk, .int (nI lm), .ref mfd, .int mf1v_1, .int sp, .int on, .int tw])), (mk, .inl (K, 41, .inl lk)), (mfd, .inl (K, 9, .inl fd1v_2))] := hD
  have hw_3 : ra = failF lm (lnF lm lk 0) to ∧ (ra = 0 → mf1v_1 = nI (dgc lm) ∧ ¬ dgc lm = 0 ∧ ∀ m9, m9 < dgc lm → fd1v_2 m9 = nrD lm (lnF lm lk 0) m9) := hw_3
  refine lv_istore_n (lv' := [(2, .int ra), (0, .ref mo), (1, .int to)]) hx hb dX8_reads_6 rfl hl (by decide) rfl (fun ls hl => ?_)
  refine lv_iload_n hx hb dX8_reads_7 rfl (lv_at hl 0 rfl) ?_
  refine lv_if_ne (tgt := 13) hx hb dX8_reads_8 (by decide) (fun c_4 => ?_) (fun c_4 => ?_)
  · have hc9 := c_4
    refine lv_aload_n hx hb dX8_reads_13 rfl (lv_at hl 1 rfl) ?_
    refine lv_iconst (v := 1) hx hb dX8_reads_14 (by decide) ?_
    refine lv_iload_n hx hb dX8_reads_15 rfl (lv_at hl 2 rfl) ?_
    have ct := k_cut_of (wc := [(mo, .inr (8, [.ref ms, .int sv, .ref mb, .int ty, .int th, .ref mk, .int (nI lm), .ref mfd, .int mf1v_1, .int sp, .int on, .int tw])), (mk, .inl (K, 41, .inl lk)), (mfd, .inl (K, 9, .inl fd1v_2))]) (wr := []) (tc := [(K, .int)]) hG hS hA hK hP hD [0, 1, 2] [] [0] rfl rfl (by decide) (by decide) (by decide) rfl
    refine k_endi (As := [.ref mo, .int 1, .int to]) ct (k_runV (As := [.int 1, .int to]) (rest := []) S0 Lv_X8_112 rfl (ci := 8) (q0 := 0) rfl rfl ct (c_M_fails l D mo ms sv mb ty th mk lm mfd mf1v_1 sp on tw K lk fd1v_2 1 to (by first | assumption | omega) H.size) hl.1 rfl (Nat.le_of_ble_eq_true rfl) rfl dX8_reads_16 ⟨⟨Nat.le_of_ble_eq_true rfl, Nat.le_of_ble_eq_true rfl⟩, Nat.le_of_ble_eq_true rfl, Nat.le_of_ble_eq_true rfl⟩) rfl rfl (fun rb u H locs hw_7 hP hD hK hS => ?_)
    obtain ⟨mf1v_5, fd1v_6⟩ := u
    have hK : va_K D vwCl [(K, .int)] s := hK
    have hP : va_P D vwCl [(mo, .inr (8, [.ref ms, .int sv, .ref mb, .int ty, .int th, .ref mk, .int (nI lm), .ref mfd, .int mf1v_5, .int sp, .int on, .int tw])), (mk, .inl (K, 41, .inl lk)), (mfd, .inl (K, 9, .inl fd1v_6))] H := hP
    have hD : va_D A [(mo, .inr (8, [.ref ms, .int sv, .ref mb, .int ty, .int th, .ref mk, .int (nI lm), .ref mfd, .int mf1v_5, .int sp, .int on, .int tw])), (mk, .inl (K, 41, .inl lk)), (mfd, .inl (K, 9, .inl fd1v_6))] := hD
    have hw_7 : rb = failF lm (lnF lm lk 1) to ∧ (rb = 0 → mf1v_5 = nI (dgc lm) ∧ ¬ dgc lm = 0 ∧ ∀ m9, m9 < dgc lm → fd1v_6 m9 = nrD lm (lnF lm lk 1) m9) := hw_7
    refine lv_istore_n (lv' := [(3, .int rb), (2, .int ra), (0, .ref mo), (1, .int to)]) hx hb dX8_reads_19 rfl hl (by decide) rfl (fun ls hl => ?_)
    refine lv_iload_n hx hb dX8_reads_20 rfl (lv_at hl 0 rfl) ?_
    refine lv_if_ne (tgt := 28) hx hb dX8_reads_21 (by decide) (fun c_8 => ?_) (fun c_8 => ?_)
    · have hc9 := c_8
      refine lv_iload_n hx hb dX8_reads_28 rfl (lv_at hl 1 rfl) ?_
      refine lv_iload_n hx hb dX8_reads_29 rfl (lv_at hl 0 rfl) ?_
      refine lv_icmp_le (tgt := 37) hx hb dX8_reads_30 (by decide) (fun c_9 => ?_) (fun c_9 => ?_)
      · have hc9 := c_9
        refine lv_iload_n hx hb dX8_reads_37 rfl (lv_at hl 0 rfl) ?_
        have hP9 : va_P D vwCl [(mo, .inr (8, [.ref ms, .int sv, .ref mb, .int ty, .int th, .ref mk, .int (nI lm), .ref mfd, .int mf1v_5, .int sp, .int on, .int tw])), (mk, .inl (K, 41, .inl lk)), (mfd, .inl (K, 9, .inl fd1v_6))] H := hP.sub [0, 1, 2] rfl
        have hD9 : va_D A [(mo, .inr (8, [.ref ms, .int sv, .ref mb, .int ty, .int th, .ref mk, .int (nI lm), .ref mfd, .int mf1v_5, .int sp, .int on, .int tw])), (mk, .inl (K, 41, .inl lk)), (mfd, .inl (K, 9, .inl fd1v_6))] := hD.sub [0, 1, 2] (by decide) rfl
        have hK9 : va_K D vwCl [] s := hK.sub [] rfl
        exact W.iret (v := rb) hx hb hr (fun t ht9 hW9 => ⟨⟨rb, (mf1v_5, fd1v_6), rfl, by (have q8 : mxI ra rb = rb := mx_le c_9; have q7 : resF lm lk to = mxI ra rb := (by rw [hw_3.1, hw_7.1]; exact res_2 (fun q8 => c_4 (hw_3.1.trans q8)) (fun q8 => c_8 (hw_7.1.trans q8))); have q6 := mx_pos2 (fun q8 => c_4 (hw_3.1.trans q8)) (fun q8 => c_8 (hw_7.1.trans q8)); exact ⟨(q7.trans q8).symm, rfd_n (fun q5 => q6.1 ((q7.trans q8).trans q5)) (fun q5 => q6.2 ((q7.trans q8).trans q5))⟩), ⟨by rw [ht9]; exact hP9, va_K.moved hW9.alike hK9, hD9⟩⟩, hS.F ht9⟩) hS.2.2 dX8_reads_38
      · have hc9 := c_9
        refine lv_iload_n hx hb dX8_reads_33 rfl (lv_at hl 1 rfl) ?_
        refine lv_goto (tgt := 38) hx hb dX8_reads_34 (by decide) ?_
        have hP9 : va_P D vwCl [(mo, .inr (8, [.ref ms, .int sv, .ref mb, .int ty, .int th, .ref mk, .int (nI lm), .ref mfd, .int mf1v_5, .int sp, .int on, .int tw])), (mk, .inl (K, 41, .inl lk)), (mfd, .inl (K, 9, .inl fd1v_6))] H := hP.sub [0, 1, 2] rfl
        have hD9 : va_D A [(mo, .inr (8, [.ref ms, .int sv, .ref mb, .int ty, .int th, .ref mk, .int (nI lm), .ref mfd, .int mf1v_5, .int sp, .int on, .int tw])), (mk, .inl (K, 41, .inl lk)), (mfd, .inl (K, 9, .inl fd1v_6))] := hD.sub [0, 1, 2] (by decide) rfl
        have hK9 : va_K D vwCl [] s := hK.sub [] rfl
        exact W.iret (v := ra) hx hb hr (fun t ht9 hW9 => ⟨⟨ra, (mf1v_5, fd1v_6), rfl, by (have q8 : mxI ra rb = ra := mx_nle c_9; have q7 : resF lm lk to = mxI ra rb := (by rw [hw_3.1, hw_7.1]; exact res_2 (fun q8 => c_4 (hw_3.1.trans q8)) (fun q8 => c_8 (hw_7.1.trans q8))); have q6 := mx_pos2 (fun q8 => c_4 (hw_3.1.trans q8)) (fun q8 => c_8 (hw_7.1.trans q8)); exact ⟨(q7.trans q8).symm, rfd_n (fun q5 => q6.1 ((q7.trans q8).trans q5)) (fun q5 => q6.2 ((q7.trans q8).trans q5))⟩), ⟨by rw [ht9]; exact hP9, va_K.moved hW9.alike hK9, hD9⟩⟩, hS.F ht9⟩) hS.2.2 dX8_reads_38
    · have hc9 := c_8
      refine lv_iconst (v := (-1)) hx hb dX8_reads_24 (by decide) ?_
      refine lv_goto (tgt := 38) hx hb dX8_reads_25 (by decide) ?_
      have hP9 : va_P D vwCl [(mo, .inr (8, [.ref ms, .int sv, .ref mb, .int ty, .int th, .ref mk, .int (nI lm), .ref mfd, .int mf1v_5, .int sp, .int on, .int tw])), (mk, .inl (K, 41, .inl lk)), (mfd, .inl (K, 9, .inl fd1v_6))] H := hP.sub [0, 1, 2] rfl
      have hD9 : va_D A [(mo, .inr (8, [.ref ms, .int sv, .ref mb, .int ty, .int th, .ref mk, .int (nI lm), .ref mfd, .int mf1v_5, .int sp, .int on, .int tw])), (mk, .inl (K, 41, .inl lk)), (mfd, .inl (K, 9, .inl fd1v_6))] := hD.sub [0, 1, 2] (by decide) rfl
      have hK9 : va_K D vwCl [] s := hK.sub [] rfl
      exact W.iret (v := (-1)) hx hb hr (fun t ht9 hW9 => ⟨⟨(-1), (mf1v_5, fd1v_6), rfl, by (exact ⟨(res_1 (fun q8 => c_4 (hw_3.1.trans q8)) (hw_7.1.symm.trans c_8)).symm, rfd_1 c_8 hw_7.2⟩), ⟨by rw [ht9]; exact hP9, va_K.moved hW9.alike hK9, hD9⟩⟩, hS.F ht9⟩) hS.2.2 dX8_reads_38
  · have hc9 := c_4
    refine lv_iconst (v := 0) hx hb dX8_reads_11 (by decide) ?_
    have hP9 : va_P D vwCl [(mo, .inr (8, [.ref ms, .int sv, .ref mb, .int ty, .int th, .ref mk, .int (nI lm), .ref mfd, .int mf1v_1, .int sp, .int on, .int tw])), (mk, .inl (K, 41, .inl lk)), (mfd, .inl (K, 9, .inl fd1v_2))] H := hP.sub [0, 1, 2] rfl
    have hD9 : va_D A [(mo, .inr (8, [.ref ms, .int sv, .ref mb, .int ty, .int th, .ref mk, .int (nI lm), .ref mfd, .int mf1v_1, .int sp, .int on, .int tw])), (mk, .inl (K, 41, .inl lk)), (mfd, .inl (K, 9, .inl fd1v_2))] := hD.sub [0, 1, 2] (by decide) rfl
    have hK9 : va_K D vwCl [] s := hK.sub [] rfl
    exact W.iret (v := 0) hx hb hr (fun t ht9 hW9 => ⟨⟨0, (mf1v_1, fd1v_2), rfl, by (have q8 := hw_3.1.symm.trans c_4; exact ⟨(res_0 q8).symm, rfd_0 rfl c_4 hw_3.2⟩), ⟨by rw [ht9]; exact hP9, va_K.moved hW9.alike hK9, hD9⟩⟩, hS.F ht9⟩) hS.2.2 dX8_reads_12
set_option maxHeartbeats 4000000 in
set_option maxRecDepth 100000 in
theorem c_M_number (l : Launch) (D : va_G) (mo : Nat) (ms : Nat) (sv : Int32) (mb : Nat) (ty : Int32) (th : Int32) (mk : Nat) (ml : Int32) (mfd : Nat) (n : Nat) (sp : Int32) (on : Int32) (tw : Int32) (K : ClassId) (fd : Nat → Int32) (hn : n ≤ 9) (sz : Nat) : k_Mi (S := Unit) l D yX8_number cX8_number 3 (some .int) 0 0 0 0 [.ref mo] [(mo, .inr (8, [.ref ms, .int sv, .ref mb, .int ty, .int th, .ref mk, .int ml, .ref mfd, .int (nI n), .int sp, .int on, .int tw])), (mfd, .inl (K, 9, .inl fd))] [(K, .int)] (fun (r : Int32) (_ : Unit) => r = (numF fd n)) (fun _ => [(mo, .inr (8, [.ref ms, .int sv, .ref mb, .int ty, .int th, .ref mk, .int ml, .ref mfd, .int (nI n), .int sp, .int on, .int tw])), (mfd, .inl (K, 9, .inl fd))]) (fun _ => []) sz := by
  refine Met.ofW (cc := cX8_number) (maxL := 3) (ret := (some .int)) (by decide) rfl ?_
  intro p e s m args below meth c s₁ B hml hv
  obtain ⟨rfl, hsz, hP, hK, hD0, hG⟩ := hv
  have hx := B.exec
  have hb := B.bytes
  have hr := B.returns
  have ht : ∀ v9 ∈ wsA, v9.before ([.ref mo] : List Value).toArray s = true := fun v9 h9 => atoms_spec (ws := k_ws yX8_number cX8_number 3 (some .int)) B.pre v9 (List.mem_cons_of_mem _ h9)
  have hown : s.vm.findClass RX8 = some m.cls := findClass_of_methodNamed B.named
  have S0 : k_C p s m ([.ref mo] : List Value).toArray c cX8_number 3 RX8 := ⟨hx, hb, hml, hown, ht⟩
  have hlocks := B.notSynchronized
  subst hsz
  have hD := hD0.self (sz := s.heap.size)
  generalize hAe : va_A [(mo, .inr (8, [.ref ms, .int sv, .ref mb, .int ty, .int th, .ref mk, .int ml, .ref mfd, .int (nI n), .int sp, .int on, .int tw])), (mfd, .inl (K, 9, .inl fd))] s.heap.size = A at hD hG ⊢
  have hA : ∀ q : Nat, s.heap.size ≤ q → A q := fun q h => by rw [← hAe]; exact Or.inr h
  have hS : va_S A s.heap s.heap [] := va_S.rf
  have hl := lv_entry ([.ref mo]) (n := 3) (Nat.le_of_ble_eq_true rfl)
  rw [lg_entry_eq]
  generalize (lg_sl ([.ref mo]) ++ List.replicate (3 - (lg_sl ([.ref mo])).length) Slot.unset).toArray = ls at hl ⊢
  have hl : lv_has ls 3 [(0, .ref mo)] := hl
  have hP : va_P D vwCl [(mo, .inr (8, [.ref ms, .int sv, .ref mb, .int ty, .int th, .ref mk, .int ml, .ref mfd, .int (nI n), .int sp, .int on, .int tw])), (mfd, .inl (K, 9, .inl fd))] s.heap := hP
  refine lv_iconst (v := 0) hx hb dX8_number_0 (by decide) ?_
  refine lv_istore_n (lv' := [(1, .int 0), (0, .ref mo)]) hx hb dX8_number_1 rfl hl (by decide) rfl (fun ls hl => ?_)
  refine lv_iconst (v := 0) hx hb dX8_number_2 (by decide) ?_
  refine lv_istore_n (lv' := [(2, .int 0), (1, .int 0), (0, .ref mo)]) hx hb dX8_number_3 rfl hl (by decide) rfl (fun ls hl => ?_)
  have hl : lv_has ls 3 [(2, .int 0), (1, .int (numF fd 0)), (0, .ref mo)] := hl
  have hl : lv_has ls 3 [(2, .int (nI 0)), (1, .int (numF fd 0)), (0, .ref mo)] := hl
  refine k_loop (ι := Nat) (fun (i : Nat) H9 locs9 ls9 => (i ≤ n) ∧ va_P D vwCl [(mo, .inr (8, [.ref ms, .int sv, .ref mb, .int ty, .int th, .ref mk, .int ml, .ref mfd, .int (nI n), .int sp, .int on, .int tw])), (mfd, .inl (K, 9, .inl fd))] H9 ∧ va_D A [(mo, .inr (8, [.ref ms, .int sv, .ref mb, .int ty, .int th, .ref mk, .int ml, .ref mfd, .int (nI n), .int sp, .int on, .int tw])), (mfd, .inl (K, 9, .inl fd))] ∧ va_S A s.heap H9 locs9 ∧ lv_has ls9 3 [(1, .int (numF fd i)), (2, .int (nI i)), (0, .ref mo)]) (fun (i : Nat) => n - i) ?_ (0) ⟨(Nat.zero_le _), hP.sub [0, 1] rfl, hD.sub [0, 1] (by decide) rfl, hS, lv_sub hl [1, 0, 2] rfl⟩
  intro x9 H locs ls hF9 ih9
  obtain ⟨i, hv9⟩ : ∃ z, z = x9 := ⟨_, rfl⟩
  subst hv9
  obtain ⟨hi, hP, hD, hS, hl⟩ := hF9
  try dsimp only at ih9
  have hP : va_P D vwCl [(mo, .inr (8, [.ref ms, .int sv, .ref mb, .int ty, .int th, .ref mk, .int ml, .ref mfd, .int (nI n), .int sp, .int on, .int tw])), (mfd, .inl (K, 9, .inl fd))] H := hP
  have hD : va_D A [(mo, .inr (8, [.ref ms, .int sv, .ref mb, .int ty, .int th, .ref mk, .int ml, .ref mfd, .int (nI n), .int sp, .int on, .int tw])), (mfd, .inl (K, 9, .inl fd))] := hD
  have hl : lv_has ls 3 [(1, .int (numF fd i)), (2, .int (nI i)), (0, .ref mo)] := hl
  refine lv_iload_n hx hb dX8_number_4 rfl (lv_at hl 1 rfl) ?_
  refine lv_aload_n hx hb dX8_number_5 rfl (lv_at hl 2 rfl) ?_
  refine va_get (D := D) (ci := 8) (v := .int (nI n)) (C := RX8) (T := TX8) (N := 12) hx hb ht inA_X8 hown hK hP 0 rfl rfl 8 (by decide) (ht _ lf_X8_98) (fun _ h9 => h9) rfl dX8_number_6 ?_
  refine lv_icmp_ge (tgt := 30) hx hb dX8_number_9 (by decide) (fun c_1 => ?_) (fun c_1 => ?_)
  · have hc9 := c_1
    obtain rfl : n = i := by rcases Nat.lt_or_ge i n with q9 | q9; exact absurd c_1 (nI_ge q9 (by omega)); omega
    refine lv_iload_n hx hb dX8_number_30 rfl (lv_at hl 0 rfl) ?_
    have hP9 : va_P D vwCl [(mo, .inr (8, [.ref ms, .int sv, .ref mb, .int ty, .int th, .ref mk, .int ml, .ref mfd, .int (nI n), .int sp, .int on, .int tw])), (mfd, .inl (K, 9, .inl fd))] H := hP.sub [0, 1] rfl
    have hD9 : va_D A [(mo, .inr (8, [.ref ms, .int sv, .ref mb, .int ty, .int th, .ref mk, .int ml, .ref mfd, .int (nI n), .int sp, .int on, .int tw])), (mfd, .inl (K, 9, .inl fd))] := hD.sub [0, 1] (by decide) rfl
    have hK9 : va_K D vwCl [] s := hK.sub [] rfl
    exact W.iret (v := (numF fd n)) hx hb hr (fun t ht9 hW9 => ⟨⟨(numF fd n), (), rfl, by first | rfl | trivial | (simp only [hi, c_1, if_true, if_false, reduceIte, and_self]; done) | simp_all, ⟨by rw [ht9]; exact hP9, va_K.moved hW9.alike hK9, hD9⟩⟩, hS.F ht9⟩) hS.2.2 dX8_number_31
  · have hc9 := c_1
    have hik : i + 1 ≤ n := by rcases Nat.lt_or_ge i n with q9 | q9; exact q9; exact absurd (nI_le q9 (by omega)) c_1
    refine lv_bipush (v := 10) hx hb dX8_number_12 (by decide) ?_
    refine lv_iload_n hx hb dX8_number_14 rfl (lv_at hl 0 rfl) ?_
    refine lv_imul hx hb dX8_number_15 ?_
    refine k_nrm (y := (10 * numF fd i)) (rfl) ?_
    refine lv_aload_n hx hb dX8_number_16 rfl (lv_at hl 2 rfl) ?_
    refine va_get (D := D) (ci := 8) (v := .ref mfd) (C := RX8) (T := TX8) (N := 12) hx hb ht inA_X8 hown hK hP 0 rfl rfl 7 (by decide) (ht _ lf_X8_20) (fun _ h9 => h9) rfl dX8_number_17 ?_
    refine lv_iload_n hx hb dX8_number_20 rfl (lv_at hl 1 rfl) ?_
    refine va_iald hx hb hK hP 1 0 rfl rfl (vp_in_nI (by omega) (by decide)) dX8_number_21 ?_
    refine k_nrm (y := (fd i)) (by rw [nI_clamp (by omega)]) ?_
    refine lv_iadd hx hb dX8_number_22 ?_
    refine k_nrm (y := (numF fd (i + 1))) (rfl) ?_
    refine lv_istore_n (lv' := [(1, .int (numF fd (i + 1))), (2, .int (nI i)), (0, .ref mo)]) hx hb dX8_number_23 rfl hl (by decide) rfl (fun ls hl => ?_)
    obtain ⟨x_2, ex_2⟩ : ∃ z : Int32, z = (nI i) + 1 := ⟨_, rfl⟩
    refine lv_iinc (v := x_2) (lv' := [(2, .int x_2), (1, .int (numF fd (i + 1))), (0, .ref mo)]) hx hb dX8_number_24 hl (k := 1) rfl (by rw [ex_2]; rfl) (by decide) rfl (fun ls hl => ?_)
    refine lv_goto (tgt := 4) hx hb dX8_number_27 (by decide) ?_
    have he9 : x_2 = (nI (i + 1)) := by rw [ex_2]; exact nI_1 i
    rw [he9] at hl
    have hl : lv_has ls 3 [(2, .int (nI (i + 1))), (1, .int (numF fd (i + 1))), (0, .ref mo)] := hl
    exact ih9 (i + 1) H locs ls (by omega) ⟨hik, hP.sub [0, 1] rfl, hD.sub [0, 1] (by decide) rfl, hS, lv_sub hl [1, 0, 2] rfl⟩
