theorem lo_X4_1 : Cond.methodLink RX4 1 objectInit ∈ wsA := mA 42 rfl rfl
theorem lo_inst : Cond.instanceMethod objectInit ∈ wsA := mA 23 rfl rfl
theorem lo_code : Cond.code objectInit ⟨#[0xb1]⟩ 1 none ∈ wsA := mA 24 rfl rfl
theorem lM_X4_7 : Cond.methodLink RX4 7 Lib.Math.max.name ∈ wsA := mA 43 rfl rfl
theorem lM_st_max : Cond.static Lib.Math.max.name ∈ wsA := mA 44 rfl rfl
theorem li_java_lang_Math : Cond.initialized "java/lang/Math" ∈ wsA := mA 5 rfl rfl
theorem lM_code_max : Cond.code Lib.Math.max.name Lib.Math.max.code 2 (some .int) ∈ wsA := mA 45 rfl rfl
theorem la_int : Cond.arrayClass .int ∈ wsA := mA 53 rfl rfl
theorem inA_X4 : ∀ w ∈ u_ws RX4 TX4 2, w ∈ wsA := by
  show ∀ w ∈ ([u_lay RX4 TX4 0, u_lay RX4 TX4 1] : List Cond), w ∈ wsA
  exact List.forall_mem_cons.mpr ⟨mA 48 rfl rfl, List.forall_mem_cons.mpr ⟨mA 50 rfl rfl, fun _ h => absurd h List.not_mem_nil⟩⟩
theorem lf_X4_13 : Cond.fieldLink RX4 13 "BarcodeWand$Row" "cells" "[I" ∈ wsA := mA 46 rfl rfl
theorem lf_X4_19 : Cond.fieldLink RX4 19 "BarcodeWand$Row" "length" "I" ∈ wsA := mA 47 rfl rfl
theorem li_BarcodeWand_Row : Cond.initialized "BarcodeWand$Row" ∈ wsA := mA 4 rfl rfl
theorem lk_X4_clear : Cond.code yX4_clear cX4_clear 1 none ∈ wsA := mA 257 rfl rfl
theorem ly_X4_clear : k_y yX4_clear 0 := ⟨by decide +kernel, by decide +kernel, by decide +kernel⟩
theorem lm_X4_clear : Cond.instanceMethod yX4_clear ∈ wsA := mA 255 rfl rfl
theorem le_X4_clear : Cond.selects (yX4_clear).cls yX4_clear yX4_clear ∈ wsA := mA 256 rfl rfl
theorem Lv_X4_23 : k_LV RX4 23 yX4_clear cX4_clear 1 none 0 := ⟨mA 254 rfl rfl, lm_X4_clear, le_X4_clear, li_BarcodeWand_Row, lk_X4_clear, ly_X4_clear⟩
theorem lk_X4_add : Cond.code yX4_add cX4_add 2 none ∈ wsA := mA 265 rfl rfl
theorem ly_X4_add : k_y yX4_add 1 := ⟨by decide +kernel, by decide +kernel, by decide +kernel⟩
theorem lm_X4_add : Cond.instanceMethod yX4_add ∈ wsA := mA 263 rfl rfl
theorem le_X4_add : Cond.selects (yX4_add).cls yX4_add yX4_add ∈ wsA := mA 264 rfl rfl
theorem Lv_X4_26 : k_LV RX4 26 yX4_add cX4_add 2 none 1 := ⟨mA 262 rfl rfl, lm_X4_add, le_X4_add, li_BarcodeWand_Row, lk_X4_add, ly_X4_add⟩
theorem lk_X4_at : Cond.code yX4_at cX4_at 2 (some .int) ∈ wsA := mA 261 rfl rfl
theorem ly_X4_at : k_y yX4_at 1 := ⟨by decide +kernel, by decide +kernel, by decide +kernel⟩
theorem lm_X4_at : Cond.instanceMethod yX4_at ∈ wsA := mA 259 rfl rfl
theorem le_X4_at : Cond.selects (yX4_at).cls yX4_at yX4_at ∈ wsA := mA 260 rfl rfl
theorem Lv_X4_30 : k_LV RX4 30 yX4_at cX4_at 2 (some .int) 1 := ⟨mA 258 rfl rfl, lm_X4_at, le_X4_at, li_BarcodeWand_Row, lk_X4_at, ly_X4_at⟩
set_option maxRecDepth 20000 in
theorem lk_X4_put : Cond.code yX4_put cX4_put 3 none ∈ wsA := mA 347 rfl rfl
theorem ly_X4_put : k_y yX4_put 2 := ⟨by decide +kernel, by decide +kernel, by decide +kernel⟩
set_option maxRecDepth 20000 in
theorem lm_X4_put : Cond.instanceMethod yX4_put ∈ wsA := mA 345 rfl rfl
set_option maxRecDepth 20000 in
theorem le_X4_put : Cond.selects (yX4_put).cls yX4_put yX4_put ∈ wsA := mA 346 rfl rfl
set_option maxRecDepth 20000 in
theorem Lv_X4_34 : k_LV RX4 34 yX4_put cX4_put 3 none 2 := ⟨mA 356 rfl rfl, lm_X4_put, le_X4_put, li_BarcodeWand_Row, lk_X4_put, ly_X4_put⟩
theorem dX4_init_0 : decode cX4_init 0 = .ok (.aload_n 0, 1) := by decide +kernel
theorem dX4_init_1 : decode cX4_init 1 = .ok (.invokespecial 1, 3) := by decide +kernel
theorem dX4_init_4 : decode cX4_init 4 = .ok (.aload_n 0, 1) := by decide +kernel
theorem dX4_init_5 : decode cX4_init 5 = .ok (.iload_n 1, 1) := by decide +kernel
theorem dX4_init_6 : decode cX4_init 6 = .ok (.iconst 0, 1) := by decide +kernel
theorem dX4_init_7 : decode cX4_init 7 = .ok (.invokestatic 7, 3) := by decide +kernel
theorem dX4_init_10 : decode cX4_init 10 = .ok (.newarray .int, 2) := by decide +kernel
theorem dX4_init_12 : decode cX4_init 12 = .ok (.putfield 13, 3) := by decide +kernel
theorem dX4_init_15 : decode cX4_init 15 = .ok (.return_, 1) := by decide +kernel
theorem dX4_size_0 : decode cX4_size 0 = .ok (.aload_n 0, 1) := by decide +kernel
theorem dX4_size_1 : decode cX4_size 1 = .ok (.getfield 19, 3) := by decide +kernel
theorem dX4_size_4 : decode cX4_size 4 = .ok (.ireturn, 1) := by decide +kernel
theorem dX4_isFull_0 : decode cX4_isFull 0 = .ok (.aload_n 0, 1) := by decide +kernel
theorem dX4_isFull_1 : decode cX4_isFull 1 = .ok (.getfield 19, 3) := by decide +kernel
theorem dX4_isFull_4 : decode cX4_isFull 4 = .ok (.aload_n 0, 1) := by decide +kernel
theorem dX4_isFull_5 : decode cX4_isFull 5 = .ok (.getfield 13, 3) := by decide +kernel
theorem dX4_isFull_8 : decode cX4_isFull 8 = .ok (.arraylength, 1) := by decide +kernel
theorem dX4_isFull_9 : decode cX4_isFull 9 = .ok (.if_icmp .lt 7, 3) := by decide +kernel
theorem dX4_isFull_12 : decode cX4_isFull 12 = .ok (.iconst 1, 1) := by decide +kernel
theorem dX4_isFull_13 : decode cX4_isFull 13 = .ok (.goto 4, 3) := by decide +kernel
theorem dX4_isFull_16 : decode cX4_isFull 16 = .ok (.iconst 0, 1) := by decide +kernel
theorem dX4_isFull_17 : decode cX4_isFull 17 = .ok (.ireturn, 1) := by decide +kernel
theorem dX4_has_0 : decode cX4_has 0 = .ok (.iload_n 1, 1) := by decide +kernel
theorem dX4_has_1 : decode cX4_has 1 = .ok (.ifCond .lt 15, 3) := by decide +kernel
theorem dX4_has_4 : decode cX4_has 4 = .ok (.iload_n 1, 1) := by decide +kernel
theorem dX4_has_5 : decode cX4_has 5 = .ok (.aload_n 0, 1) := by decide +kernel
theorem dX4_has_6 : decode cX4_has 6 = .ok (.getfield 19, 3) := by decide +kernel
theorem dX4_has_9 : decode cX4_has 9 = .ok (.if_icmp .ge 7, 3) := by decide +kernel
theorem dX4_has_12 : decode cX4_has 12 = .ok (.iconst 1, 1) := by decide +kernel
theorem dX4_has_13 : decode cX4_has 13 = .ok (.goto 4, 3) := by decide +kernel
theorem dX4_has_16 : decode cX4_has 16 = .ok (.iconst 0, 1) := by decide +kernel
theorem dX4_has_17 : decode cX4_has 17 = .ok (.ireturn, 1) := by decide +kernel
theorem dX4_at_0 : decode cX4_at 0 = .ok (.iload_n 1, 1) := by decide +kernel
theorem dX4_at_1 : decode cX4_at 1 = .ok (.ifCond .lt 29, 3) := by decide +kernel
theorem dX4_at_4 : decode cX4_at 4 = .ok (.iload_n 1, 1) := by decide +kernel
theorem dX4_at_5 : decode cX4_at 5 = .ok (.aload_n 0, 1) := by decide +kernel
theorem dX4_at_6 : decode cX4_at 6 = .ok (.getfield 19, 3) := by decide +kernel
theorem dX4_at_9 : decode cX4_at 9 = .ok (.if_icmp .ge 21, 3) := by decide +kernel
theorem dX4_at_12 : decode cX4_at 12 = .ok (.iload_n 1, 1) := by decide +kernel
theorem dX4_at_13 : decode cX4_at 13 = .ok (.aload_n 0, 1) := by decide +kernel
theorem dX4_at_14 : decode cX4_at 14 = .ok (.getfield 13, 3) := by decide +kernel
theorem dX4_at_17 : decode cX4_at 17 = .ok (.arraylength, 1) := by decide +kernel
theorem dX4_at_18 : decode cX4_at 18 = .ok (.if_icmp .ge 12, 3) := by decide +kernel
theorem dX4_at_21 : decode cX4_at 21 = .ok (.aload_n 0, 1) := by decide +kernel
theorem dX4_at_22 : decode cX4_at 22 = .ok (.getfield 13, 3) := by decide +kernel
theorem dX4_at_25 : decode cX4_at 25 = .ok (.iload_n 1, 1) := by decide +kernel
theorem dX4_at_26 : decode cX4_at 26 = .ok (.iaload, 1) := by decide +kernel
theorem dX4_at_27 : decode cX4_at 27 = .ok (.goto 4, 3) := by decide +kernel
theorem dX4_at_30 : decode cX4_at 30 = .ok (.iconst 0, 1) := by decide +kernel
theorem dX4_at_31 : decode cX4_at 31 = .ok (.ireturn, 1) := by decide +kernel
theorem dX4_put_0 : decode cX4_put 0 = .ok (.iload_n 1, 1) := by decide +kernel
theorem dX4_put_1 : decode cX4_put 1 = .ok (.ifCond .lt 27, 3) := by decide +kernel
theorem dX4_put_4 : decode cX4_put 4 = .ok (.iload_n 1, 1) := by decide +kernel
theorem dX4_put_5 : decode cX4_put 5 = .ok (.aload_n 0, 1) := by decide +kernel
theorem dX4_put_6 : decode cX4_put 6 = .ok (.getfield 19, 3) := by decide +kernel
theorem dX4_put_9 : decode cX4_put 9 = .ok (.if_icmp .ge 19, 3) := by decide +kernel
theorem dX4_put_12 : decode cX4_put 12 = .ok (.iload_n 1, 1) := by decide +kernel
theorem dX4_put_13 : decode cX4_put 13 = .ok (.aload_n 0, 1) := by decide +kernel
theorem dX4_put_14 : decode cX4_put 14 = .ok (.getfield 13, 3) := by decide +kernel
theorem dX4_put_17 : decode cX4_put 17 = .ok (.arraylength, 1) := by decide +kernel
theorem dX4_put_18 : decode cX4_put 18 = .ok (.if_icmp .ge 10, 3) := by decide +kernel
theorem dX4_put_21 : decode cX4_put 21 = .ok (.aload_n 0, 1) := by decide +kernel
theorem dX4_put_22 : decode cX4_put 22 = .ok (.getfield 13, 3) := by decide +kernel
theorem dX4_put_25 : decode cX4_put 25 = .ok (.iload_n 1, 1) := by decide +kernel
theorem dX4_put_26 : decode cX4_put 26 = .ok (.iload_n 2, 1) := by decide +kernel
theorem dX4_put_27 : decode cX4_put 27 = .ok (.iastore, 1) := by decide +kernel
theorem dX4_put_28 : decode cX4_put 28 = .ok (.return_, 1) := by decide +kernel
theorem dX4_add_0 : decode cX4_add 0 = .ok (.aload_n 0, 1) := by decide +kernel
theorem dX4_add_1 : decode cX4_add 1 = .ok (.getfield 19, 3) := by decide +kernel
theorem dX4_add_4 : decode cX4_add 4 = .ok (.ifCond .lt 35, 3) := by decide +kernel
theorem dX4_add_7 : decode cX4_add 7 = .ok (.aload_n 0, 1) := by decide +kernel
theorem dX4_add_8 : decode cX4_add 8 = .ok (.getfield 19, 3) := by decide +kernel
theorem dX4_add_11 : decode cX4_add 11 = .ok (.aload_n 0, 1) := by decide +kernel
theorem dX4_add_12 : decode cX4_add 12 = .ok (.getfield 13, 3) := by decide +kernel
theorem dX4_add_15 : decode cX4_add 15 = .ok (.arraylength, 1) := by decide +kernel
theorem dX4_add_16 : decode cX4_add 16 = .ok (.if_icmp .ge 23, 3) := by decide +kernel
theorem dX4_add_19 : decode cX4_add 19 = .ok (.aload_n 0, 1) := by decide +kernel
theorem dX4_add_20 : decode cX4_add 20 = .ok (.getfield 13, 3) := by decide +kernel
theorem dX4_add_23 : decode cX4_add 23 = .ok (.aload_n 0, 1) := by decide +kernel
theorem dX4_add_24 : decode cX4_add 24 = .ok (.getfield 19, 3) := by decide +kernel
theorem dX4_add_27 : decode cX4_add 27 = .ok (.iload_n 1, 1) := by decide +kernel
theorem dX4_add_28 : decode cX4_add 28 = .ok (.iastore, 1) := by decide +kernel
theorem dX4_add_29 : decode cX4_add 29 = .ok (.aload_n 0, 1) := by decide +kernel
theorem dX4_add_30 : decode cX4_add 30 = .ok (.dup, 1) := by decide +kernel
theorem dX4_add_31 : decode cX4_add 31 = .ok (.getfield 19, 3) := by decide +kernel
theorem dX4_add_34 : decode cX4_add 34 = .ok (.iconst 1, 1) := by decide +kernel
theorem dX4_add_35 : decode cX4_add 35 = .ok (.iadd, 1) := by decide +kernel
theorem dX4_add_36 : decode cX4_add 36 = .ok (.putfield 19, 3) := by decide +kernel
theorem dX4_add_39 : decode cX4_add 39 = .ok (.return_, 1) := by decide +kernel
theorem dX4_clear_0 : decode cX4_clear 0 = .ok (.aload_n 0, 1) := by decide +kernel
theorem dX4_clear_1 : decode cX4_clear 1 = .ok (.iconst 0, 1) := by decide +kernel
theorem dX4_clear_2 : decode cX4_clear 2 = .ok (.putfield 19, 3) := by decide +kernel
theorem dX4_clear_5 : decode cX4_clear 5 = .ok (.return_, 1) := by decide +kernel
theorem dX4_fillWithZeros_0 : decode cX4_fillWithZeros 0 = .ok (.aload_n 0, 1) := by decide +kernel
theorem dX4_fillWithZeros_1 : decode cX4_fillWithZeros 1 = .ok (.invokevirtual 23, 3) := by decide +kernel
theorem dX4_fillWithZeros_4 : decode cX4_fillWithZeros 4 = .ok (.iconst 0, 1) := by decide +kernel
theorem dX4_fillWithZeros_5 : decode cX4_fillWithZeros 5 = .ok (.istore_n 2, 1) := by decide +kernel
theorem dX4_fillWithZeros_6 : decode cX4_fillWithZeros 6 = .ok (.iload_n 2, 1) := by decide +kernel
theorem dX4_fillWithZeros_7 : decode cX4_fillWithZeros 7 = .ok (.iload_n 1, 1) := by decide +kernel
theorem dX4_fillWithZeros_8 : decode cX4_fillWithZeros 8 = .ok (.if_icmp .ge 14, 3) := by decide +kernel
theorem dX4_fillWithZeros_11 : decode cX4_fillWithZeros 11 = .ok (.aload_n 0, 1) := by decide +kernel
theorem dX4_fillWithZeros_12 : decode cX4_fillWithZeros 12 = .ok (.iconst 0, 1) := by decide +kernel
theorem dX4_fillWithZeros_13 : decode cX4_fillWithZeros 13 = .ok (.invokevirtual 26, 3) := by decide +kernel
theorem dX4_fillWithZeros_16 : decode cX4_fillWithZeros 16 = .ok (.iinc 2 1, 3) := by decide +kernel
theorem dX4_fillWithZeros_19 : decode cX4_fillWithZeros 19 = .ok (.goto (-13), 3) := by decide +kernel
theorem dX4_fillWithZeros_22 : decode cX4_fillWithZeros 22 = .ok (.return_, 1) := by decide +kernel
theorem dX4_removeFirst_0 : decode cX4_removeFirst 0 = .ok (.iconst 1, 1) := by decide +kernel
theorem dX4_removeFirst_1 : decode cX4_removeFirst 1 = .ok (.istore_n 1, 1) := by decide +kernel
theorem dX4_removeFirst_2 : decode cX4_removeFirst 2 = .ok (.iload_n 1, 1) := by decide +kernel
theorem dX4_removeFirst_3 : decode cX4_removeFirst 3 = .ok (.aload_n 0, 1) := by decide +kernel
theorem dX4_removeFirst_4 : decode cX4_removeFirst 4 = .ok (.getfield 19, 3) := by decide +kernel
theorem dX4_removeFirst_7 : decode cX4_removeFirst 7 = .ok (.if_icmp .ge 21, 3) := by decide +kernel
theorem dX4_removeFirst_10 : decode cX4_removeFirst 10 = .ok (.aload_n 0, 1) := by decide +kernel
theorem dX4_removeFirst_11 : decode cX4_removeFirst 11 = .ok (.iload_n 1, 1) := by decide +kernel
theorem dX4_removeFirst_12 : decode cX4_removeFirst 12 = .ok (.iconst 1, 1) := by decide +kernel
theorem dX4_removeFirst_13 : decode cX4_removeFirst 13 = .ok (.isub, 1) := by decide +kernel
theorem dX4_removeFirst_14 : decode cX4_removeFirst 14 = .ok (.aload_n 0, 1) := by decide +kernel
theorem dX4_removeFirst_15 : decode cX4_removeFirst 15 = .ok (.iload_n 1, 1) := by decide +kernel
theorem dX4_removeFirst_16 : decode cX4_removeFirst 16 = .ok (.invokevirtual 30, 3) := by decide +kernel
theorem dX4_removeFirst_19 : decode cX4_removeFirst 19 = .ok (.invokevirtual 34, 3) := by decide +kernel
theorem dX4_removeFirst_22 : decode cX4_removeFirst 22 = .ok (.iinc 1 1, 3) := by decide +kernel
theorem dX4_removeFirst_25 : decode cX4_removeFirst 25 = .ok (.goto (-23), 3) := by decide +kernel
theorem dX4_removeFirst_28 : decode cX4_removeFirst 28 = .ok (.aload_n 0, 1) := by decide +kernel
theorem dX4_removeFirst_29 : decode cX4_removeFirst 29 = .ok (.aload_n 0, 1) := by decide +kernel
theorem dX4_removeFirst_30 : decode cX4_removeFirst 30 = .ok (.getfield 19, 3) := by decide +kernel
theorem dX4_removeFirst_33 : decode cX4_removeFirst 33 = .ok (.iconst 1, 1) := by decide +kernel
theorem dX4_removeFirst_34 : decode cX4_removeFirst 34 = .ok (.isub, 1) := by decide +kernel
theorem dX4_removeFirst_35 : decode cX4_removeFirst 35 = .ok (.iconst 0, 1) := by decide +kernel
theorem dX4_removeFirst_36 : decode cX4_removeFirst 36 = .ok (.invokestatic 7, 3) := by decide +kernel
theorem dX4_removeFirst_39 : decode cX4_removeFirst 39 = .ok (.putfield 19, 3) := by decide +kernel
theorem dX4_removeFirst_42 : decode cX4_removeFirst 42 = .ok (.return_, 1) := by decide +kernel
theorem dX4_copyFrom_0 : decode cX4_copyFrom 0 = .ok (.aload_n 0, 1) := by decide +kernel
theorem dX4_copyFrom_1 : decode cX4_copyFrom 1 = .ok (.invokevirtual 23, 3) := by decide +kernel
theorem dX4_copyFrom_4 : decode cX4_copyFrom 4 = .ok (.iconst 0, 1) := by decide +kernel
theorem dX4_copyFrom_5 : decode cX4_copyFrom 5 = .ok (.istore_n 2, 1) := by decide +kernel
theorem dX4_copyFrom_6 : decode cX4_copyFrom 6 = .ok (.iload_n 2, 1) := by decide +kernel
theorem dX4_copyFrom_7 : decode cX4_copyFrom 7 = .ok (.aload_n 1, 1) := by decide +kernel
theorem dX4_copyFrom_8 : decode cX4_copyFrom 8 = .ok (.getfield 19, 3) := by decide +kernel
theorem dX4_copyFrom_11 : decode cX4_copyFrom 11 = .ok (.if_icmp .ge 18, 3) := by decide +kernel
theorem dX4_copyFrom_14 : decode cX4_copyFrom 14 = .ok (.aload_n 0, 1) := by decide +kernel
theorem dX4_copyFrom_15 : decode cX4_copyFrom 15 = .ok (.aload_n 1, 1) := by decide +kernel
theorem dX4_copyFrom_16 : decode cX4_copyFrom 16 = .ok (.iload_n 2, 1) := by decide +kernel
theorem dX4_copyFrom_17 : decode cX4_copyFrom 17 = .ok (.invokevirtual 30, 3) := by decide +kernel
theorem dX4_copyFrom_20 : decode cX4_copyFrom 20 = .ok (.invokevirtual 26, 3) := by decide +kernel
theorem dX4_copyFrom_23 : decode cX4_copyFrom 23 = .ok (.iinc 2 1, 3) := by decide +kernel
theorem dX4_copyFrom_26 : decode cX4_copyFrom 26 = .ok (.goto (-20), 3) := by decide +kernel
theorem dX4_copyFrom_29 : decode cX4_copyFrom 29 = .ok (.return_, 1) := by decide +kernel
set_option maxHeartbeats 4000000 in
set_option maxRecDepth 100000 in
theorem c_Row_init_9 (l : Launch) (D : va_G) (o : Nat) (sz : Nat) : k_Mv (S := Nat × ClassId) l D yX4_init cX4_init 2 none 1 1 9 14 [.ref o, .int 9] [(o, .inr (4, [.null, .int 0]))] [] (fun (u : Nat × ClassId) => match u with | (a, K) => True) (fun u => match u with | (a, K) => [(o, .inr (4, [.ref a, .int 0])), (a, .inl (K, 9, .inl (fun _ => 0)))]) (fun u => match u with | (a, K) => [(K, .int)]) sz := by
  refine Met.ofW (cc := cX4_init) (maxL := 2) (ret := none) (by decide) rfl ?_
  intro p e s m args below meth c s₁ B hml hv
  obtain ⟨rfl, hsz, hP, hK, hD0, hG⟩ := hv
  have hx := B.exec
  have hb := B.bytes
  have hr := B.returns
  have ht : ∀ v9 ∈ wsA, v9.before ([.ref o, .int 9] : List Value).toArray s = true := fun v9 h9 => atoms_spec (ws := k_ws yX4_init cX4_init 2 none) B.pre v9 (List.mem_cons_of_mem _ h9)
  have hown : s.vm.findClass RX4 = some m.cls := findClass_of_methodNamed B.named
  have S0 : k_C p s m ([.ref o, .int 9] : List Value).toArray c cX4_init 2 RX4 := ⟨hx, hb, hml, hown, ht⟩
  have hlocks := B.notSynchronized
  have hin : meth.name = "<init>" := (name_of_methodNamed B.named B.method).1
  subst hsz
  have hD := hD0.self (sz := s.heap.size)
  generalize hAe : va_A [(o, .inr (4, [.null, .int 0]))] s.heap.size = A at hD hG ⊢
  have hA : ∀ q : Nat, s.heap.size ≤ q → A q := fun q h => by rw [← hAe]; exact Or.inr h
  have hS : va_S A s.heap s.heap [] := va_S.rf
  have hl := lv_entry ([.ref o, .int 9]) (n := 2) (Nat.le_of_ble_eq_true rfl)
  rw [lg_entry_eq]
  generalize (lg_sl ([.ref o, .int 9]) ++ List.replicate (2 - (lg_sl ([.ref o, .int 9])).length) Slot.unset).toArray = ls at hl ⊢
  have hl : lv_has ls 2 [(0, .ref o), (1, .int 9)] := hl
  have hP : va_P D vwCl [(o, .inr (4, [.null, .int 0]))] s.heap := hP
  refine lv_aload_n hx hb dX4_init_0 rfl (lv_at hl 0 rfl) ?_
  refine W.objInit hx hb hown (ht _ lo_X4_1) (ht _ lo_inst) (ht _ lo_code) rfl (by rw [hml]; exact hl.1) rfl dX4_init_1 (Nat.le_of_ble_eq_true rfl) (Nat.le_of_ble_eq_true rfl) ?_
  refine W.eq (g2 := F0 m 4 ls []) rfl ?_
  refine lv_aload_n hx hb dX4_init_4 rfl (lv_at hl 0 rfl) ?_
  refine lv_iload_n hx hb dX4_init_5 rfl (lv_at hl 1 rfl) ?_
  refine lv_iconst (v := 0) hx hb dX4_init_6 (by decide) ?_
  refine va_mmax hx hb (by rw [hml]; exact hl.1.symm) hown (ht _ lM_X4_7) (ht _ lM_st_max) (ht _ li_java_lang_Math) (ht _ lM_code_max) (Nat.le_of_ble_eq_true rfl) (Nat.le_of_ble_eq_true rfl) (Nat.le_of_ble_eq_true rfl) (Nat.le_of_ble_eq_true rfl) dX4_init_7 ?_
  refine k_nrm (y := 9) (by decide) ?_
  refine va_newa (atype := .int) (ty := .int) hx hb (ht _ la_int) rfl hK hP hD hS hA (N' := 9) (a0 := (9, .inl (fun _ => 0))) (fun cA => rfl) (by decide) (by decide) (Nat.le_of_ble_eq_true rfl) (Nat.le_of_ble_eq_true rfl) (Nat.le_of_ble_eq_true rfl) dX4_init_10 (fun q_1 K_2 H hK hP hD hS => ?_)
  have hK : va_K D vwCl [(K_2, .int)] s := hK
  have hP : va_P D vwCl [(o, .inr (4, [.null, .int 0])), (q_1, .inl (K_2, 9, .inl (fun _ => 0)))] H := hP
  have hD : va_D A [(o, .inr (4, [.null, .int 0])), (q_1, .inl (K_2, 9, .inl (fun _ => 0)))] := hD
  refine W.widen (k := 1) (n := 9) (Nat.le_of_ble_eq_true rfl) (Nat.le_of_ble_eq_true rfl) ?_
  refine va_putF (D := D) (ci := 4) (v := .ref q_1) (ty := tyX4 0) (C := RX4) (T := TX4) (N := 2) hx hb ht inA_X4 tyX4 tyX4_ok nmX4 hown hK hP hD hS 0 rfl rfl 0 (by decide) (ht _ lf_X4_13) (fun _ h9 => h9) rfl hin rfl (tyX4_ok 0 (by decide)) rfl rfl (Nat.le_of_ble_eq_true rfl) dX4_init_12 (fun H locs hP hD hS => ?_)
  have hP : va_P D vwCl [(o, .inr (4, [.ref q_1, .int 0])), (q_1, .inl (K_2, 9, .inl (fun _ => 0)))] H := hP
  have hD : va_D A [(o, .inr (4, [.ref q_1, .int 0])), (q_1, .inl (K_2, 9, .inl (fun _ => 0)))] := hD
  have hP9 : va_P D vwCl [(o, .inr (4, [.ref q_1, .int 0])), (q_1, .inl (K_2, 9, .inl (fun _ => 0)))] H := hP.sub [0, 1] rfl
  have hD9 : va_D A [(o, .inr (4, [.ref q_1, .int 0])), (q_1, .inl (K_2, 9, .inl (fun _ => 0)))] := hD.sub [0, 1] (by decide) rfl
  have hK9 : va_K D vwCl [(K_2, .int)] s := hK.sub [0] rfl
  exact W.vret hx hb hr (fun t ht9 hW9 => ⟨⟨(q_1, K_2), rfl, by first | rfl | trivial | (simp only [if_true, if_false, reduceIte, and_self]; done) | simp_all, ⟨by rw [ht9]; exact hP9, va_K.moved hW9.alike hK9, hD9⟩⟩, hS.F ht9⟩) hS.2.2 dX4_init_15
set_option maxHeartbeats 4000000 in
set_option maxRecDepth 100000 in
theorem c_Row_init_41 (l : Launch) (D : va_G) (o : Nat) (sz : Nat) : k_Mv (S := Nat × ClassId) l D yX4_init cX4_init 2 none 1 1 41 14 [.ref o, .int 41] [(o, .inr (4, [.null, .int 0]))] [] (fun (u : Nat × ClassId) => match u with | (a, K) => True) (fun u => match u with | (a, K) => [(o, .inr (4, [.ref a, .int 0])), (a, .inl (K, 41, .inl (fun _ => 0)))]) (fun u => match u with | (a, K) => [(K, .int)]) sz := by
  refine Met.ofW (cc := cX4_init) (maxL := 2) (ret := none) (by decide) rfl ?_
  intro p e s m args below meth c s₁ B hml hv
  obtain ⟨rfl, hsz, hP, hK, hD0, hG⟩ := hv
  have hx := B.exec
  have hb := B.bytes
  have hr := B.returns
  have ht : ∀ v9 ∈ wsA, v9.before ([.ref o, .int 41] : List Value).toArray s = true := fun v9 h9 => atoms_spec (ws := k_ws yX4_init cX4_init 2 none) B.pre v9 (List.mem_cons_of_mem _ h9)
  have hown : s.vm.findClass RX4 = some m.cls := findClass_of_methodNamed B.named
  have S0 : k_C p s m ([.ref o, .int 41] : List Value).toArray c cX4_init 2 RX4 := ⟨hx, hb, hml, hown, ht⟩
  have hlocks := B.notSynchronized
  have hin : meth.name = "<init>" := (name_of_methodNamed B.named B.method).1
  subst hsz
  have hD := hD0.self (sz := s.heap.size)
  generalize hAe : va_A [(o, .inr (4, [.null, .int 0]))] s.heap.size = A at hD hG ⊢
  have hA : ∀ q : Nat, s.heap.size ≤ q → A q := fun q h => by rw [← hAe]; exact Or.inr h
  have hS : va_S A s.heap s.heap [] := va_S.rf
  have hl := lv_entry ([.ref o, .int 41]) (n := 2) (Nat.le_of_ble_eq_true rfl)
  rw [lg_entry_eq]
  generalize (lg_sl ([.ref o, .int 41]) ++ List.replicate (2 - (lg_sl ([.ref o, .int 41])).length) Slot.unset).toArray = ls at hl ⊢
  have hl : lv_has ls 2 [(0, .ref o), (1, .int 41)] := hl
  have hP : va_P D vwCl [(o, .inr (4, [.null, .int 0]))] s.heap := hP
  refine lv_aload_n hx hb dX4_init_0 rfl (lv_at hl 0 rfl) ?_
  refine W.objInit hx hb hown (ht _ lo_X4_1) (ht _ lo_inst) (ht _ lo_code) rfl (by rw [hml]; exact hl.1) rfl dX4_init_1 (Nat.le_of_ble_eq_true rfl) (Nat.le_of_ble_eq_true rfl) ?_
  refine W.eq (g2 := F0 m 4 ls []) rfl ?_
  refine lv_aload_n hx hb dX4_init_4 rfl (lv_at hl 0 rfl) ?_
  refine lv_iload_n hx hb dX4_init_5 rfl (lv_at hl 1 rfl) ?_
  refine lv_iconst (v := 0) hx hb dX4_init_6 (by decide) ?_
  refine va_mmax hx hb (by rw [hml]; exact hl.1.symm) hown (ht _ lM_X4_7) (ht _ lM_st_max) (ht _ li_java_lang_Math) (ht _ lM_code_max) (Nat.le_of_ble_eq_true rfl) (Nat.le_of_ble_eq_true rfl) (Nat.le_of_ble_eq_true rfl) (Nat.le_of_ble_eq_true rfl) dX4_init_7 ?_
  refine k_nrm (y := 41) (by decide) ?_
  refine va_newa (atype := .int) (ty := .int) hx hb (ht _ la_int) rfl hK hP hD hS hA (N' := 41) (a0 := (41, .inl (fun _ => 0))) (fun cA => rfl) (by decide) (by decide) (Nat.le_of_ble_eq_true rfl) (Nat.le_of_ble_eq_true rfl) (Nat.le_of_ble_eq_true rfl) dX4_init_10 (fun q_1 K_2 H hK hP hD hS => ?_)
  have hK : va_K D vwCl [(K_2, .int)] s := hK
  have hP : va_P D vwCl [(o, .inr (4, [.null, .int 0])), (q_1, .inl (K_2, 41, .inl (fun _ => 0)))] H := hP
  have hD : va_D A [(o, .inr (4, [.null, .int 0])), (q_1, .inl (K_2, 41, .inl (fun _ => 0)))] := hD
  refine W.widen (k := 1) (n := 41) (Nat.le_of_ble_eq_true rfl) (Nat.le_of_ble_eq_true rfl) ?_
  refine va_putF (D := D) (ci := 4) (v := .ref q_1) (ty := tyX4 0) (C := RX4) (T := TX4) (N := 2) hx hb ht inA_X4 tyX4 tyX4_ok nmX4 hown hK hP hD hS 0 rfl rfl 0 (by decide) (ht _ lf_X4_13) (fun _ h9 => h9) rfl hin rfl (tyX4_ok 0 (by decide)) rfl rfl (Nat.le_of_ble_eq_true rfl) dX4_init_12 (fun H locs hP hD hS => ?_)
  have hP : va_P D vwCl [(o, .inr (4, [.ref q_1, .int 0])), (q_1, .inl (K_2, 41, .inl (fun _ => 0)))] H := hP
  have hD : va_D A [(o, .inr (4, [.ref q_1, .int 0])), (q_1, .inl (K_2, 41, .inl (fun _ => 0)))] := hD
  have hP9 : va_P D vwCl [(o, .inr (4, [.ref q_1, .int 0])), (q_1, .inl (K_2, 41, .inl (fun _ => 0)))] H := hP.sub [0, 1] rfl
  have hD9 : va_D A [(o, .inr (4, [.ref q_1, .int 0])), (q_1, .inl (K_2, 41, .inl (fun _ => 0)))] := hD.sub [0, 1] (by decide) rfl
  have hK9 : va_K D vwCl [(K_2, .int)] s := hK.sub [0] rfl
  exact W.vret hx hb hr (fun t ht9 hW9 => ⟨⟨(q_1, K_2), rfl, by first | rfl | trivial | (simp only [if_true, if_false, reduceIte, and_self]; done) | simp_all, ⟨by rw [ht9]; exact hP9, va_K.moved hW9.alike hK9, hD9⟩⟩, hS.F ht9⟩) hS.2.2 dX4_init_15
set_option maxHeartbeats 4000000 in
set_option maxRecDepth 100000 in
theorem c_Row_init_10 (l : Launch) (D : va_G) (o : Nat) (sz : Nat) : k_Mv (S := Nat × ClassId) l D yX4_init cX4_init 2 none 1 1 10 14 [.ref o, .int 10] [(o, .inr (4, [.null, .int 0]))] [] (fun (u : Nat × ClassId) => match u with | (a, K) => True) (fun u => match u with | (a, K) => [(o, .inr (4, [.ref a, .int 0])), (a, .inl (K, 10, .inl (fun _ => 0)))]) (fun u => match u with | (a, K) => [(K, .int)]) sz := by
  refine Met.ofW (cc := cX4_init) (maxL := 2) (ret := none) (by decide) rfl ?_
  intro p e s m args below meth c s₁ B hml hv
  obtain ⟨rfl, hsz, hP, hK, hD0, hG⟩ := hv
  have hx := B.exec
  have hb := B.bytes
  have hr := B.returns
  have ht : ∀ v9 ∈ wsA, v9.before ([.ref o, .int 10] : List Value).toArray s = true := fun v9 h9 => atoms_spec (ws := k_ws yX4_init cX4_init 2 none) B.pre v9 (List.mem_cons_of_mem _ h9)
  have hown : s.vm.findClass RX4 = some m.cls := findClass_of_methodNamed B.named
  have S0 : k_C p s m ([.ref o, .int 10] : List Value).toArray c cX4_init 2 RX4 := ⟨hx, hb, hml, hown, ht⟩
  have hlocks := B.notSynchronized
  have hin : meth.name = "<init>" := (name_of_methodNamed B.named B.method).1
  subst hsz
  have hD := hD0.self (sz := s.heap.size)
  generalize hAe : va_A [(o, .inr (4, [.null, .int 0]))] s.heap.size = A at hD hG ⊢
  have hA : ∀ q : Nat, s.heap.size ≤ q → A q := fun q h => by rw [← hAe]; exact Or.inr h
  have hS : va_S A s.heap s.heap [] := va_S.rf
  have hl := lv_entry ([.ref o, .int 10]) (n := 2) (Nat.le_of_ble_eq_true rfl)
  rw [lg_entry_eq]
  generalize (lg_sl ([.ref o, .int 10]) ++ List.replicate (2 - (lg_sl ([.ref o, .int 10])).length) Slot.unset).toArray = ls at hl ⊢
  have hl : lv_has ls 2 [(0, .ref o), (1, .int 10)] := hl
  have hP : va_P D vwCl [(o, .inr (4, [.null, .int 0]))] s.heap := hP
  refine lv_aload_n hx hb dX4_init_0 rfl (lv_at hl 0 rfl) ?_
  refine W.objInit hx hb hown (ht _ lo_X4_1) (ht _ lo_inst) (ht _ lo_code) rfl (by rw [hml]; exact hl.1) rfl dX4_init_1 (Nat.le_of_ble_eq_true rfl) (Nat.le_of_ble_eq_true rfl) ?_
  refine W.eq (g2 := F0 m 4 ls []) rfl ?_
  refine lv_aload_n hx hb dX4_init_4 rfl (lv_at hl 0 rfl) ?_
  refine lv_iload_n hx hb dX4_init_5 rfl (lv_at hl 1 rfl) ?_
  refine lv_iconst (v := 0) hx hb dX4_init_6 (by decide) ?_
  refine va_mmax hx hb (by rw [hml]; exact hl.1.symm) hown (ht _ lM_X4_7) (ht _ lM_st_max) (ht _ li_java_lang_Math) (ht _ lM_code_max) (Nat.le_of_ble_eq_true rfl) (Nat.le_of_ble_eq_true rfl) (Nat.le_of_ble_eq_true rfl) (Nat.le_of_ble_eq_true rfl) dX4_init_7 ?_
  refine k_nrm (y := 10) (by decide) ?_
  refine va_newa (atype := .int) (ty := .int) hx hb (ht _ la_int) rfl hK hP hD hS hA (N' := 10) (a0 := (10, .inl (fun _ => 0))) (fun cA => rfl) (by decide) (by decide) (Nat.le_of_ble_eq_true rfl) (Nat.le_of_ble_eq_true rfl) (Nat.le_of_ble_eq_true rfl) dX4_init_10 (fun q_1 K_2 H hK hP hD hS => ?_)
  have hK : va_K D vwCl [(K_2, .int)] s := hK
  have hP : va_P D vwCl [(o, .inr (4, [.null, .int 0])), (q_1, .inl (K_2, 10, .inl (fun _ => 0)))] H := hP
  have hD : va_D A [(o, .inr (4, [.null, .int 0])), (q_1, .inl (K_2, 10, .inl (fun _ => 0)))] := hD
  refine W.widen (k := 1) (n := 10) (Nat.le_of_ble_eq_true rfl) (Nat.le_of_ble_eq_true rfl) ?_
  refine va_putF (D := D) (ci := 4) (v := .ref q_1) (ty := tyX4 0) (C := RX4) (T := TX4) (N := 2) hx hb ht inA_X4 tyX4 tyX4_ok nmX4 hown hK hP hD hS 0 rfl rfl 0 (by decide) (ht _ lf_X4_13) (fun _ h9 => h9) rfl hin rfl (tyX4_ok 0 (by decide)) rfl rfl (Nat.le_of_ble_eq_true rfl) dX4_init_12 (fun H locs hP hD hS => ?_)
  have hP : va_P D vwCl [(o, .inr (4, [.ref q_1, .int 0])), (q_1, .inl (K_2, 10, .inl (fun _ => 0)))] H := hP
  have hD : va_D A [(o, .inr (4, [.ref q_1, .int 0])), (q_1, .inl (K_2, 10, .inl (fun _ => 0)))] := hD
  have hP9 : va_P D vwCl [(o, .inr (4, [.ref q_1, .int 0])), (q_1, .inl (K_2, 10, .inl (fun _ => 0)))] H := hP.sub [0, 1] rfl
  have hD9 : va_D A [(o, .inr (4, [.ref q_1, .int 0])), (q_1, .inl (K_2, 10, .inl (fun _ => 0)))] := hD.sub [0, 1] (by decide) rfl
  have hK9 : va_K D vwCl [(K_2, .int)] s := hK.sub [0] rfl
  exact W.vret hx hb hr (fun t ht9 hW9 => ⟨⟨(q_1, K_2), rfl, by first | rfl | trivial | (simp only [if_true, if_false, reduceIte, and_self]; done) | simp_all, ⟨by rw [ht9]; exact hP9, va_K.moved hW9.alike hK9, hD9⟩⟩, hS.F ht9⟩) hS.2.2 dX4_init_15
set_option maxHeartbeats 4000000 in
set_option maxRecDepth 100000 in
theorem c_Row_init_60 (l : Launch) (D : va_G) (o : Nat) (sz : Nat) : k_Mv (S := Nat × ClassId) l D yX4_init cX4_init 2 none 1 1 60 14 [.ref o, .int 60] [(o, .inr (4, [.null, .int 0]))] [] (fun (u : Nat × ClassId) => match u with | (a, K) => True) (fun u => match u with | (a, K) => [(o, .inr (4, [.ref a, .int 0])), (a, .inl (K, 60, .inl (fun _ => 0)))]) (fun u => match u with | (a, K) => [(K, .int)]) sz := by
  refine Met.ofW (cc := cX4_init) (maxL := 2) (ret := none) (by decide) rfl ?_
  intro p e s m args below meth c s₁ B hml hv
  obtain ⟨rfl, hsz, hP, hK, hD0, hG⟩ := hv
  have hx := B.exec
  have hb := B.bytes
  have hr := B.returns
  have ht : ∀ v9 ∈ wsA, v9.before ([.ref o, .int 60] : List Value).toArray s = true := fun v9 h9 => atoms_spec (ws := k_ws yX4_init cX4_init 2 none) B.pre v9 (List.mem_cons_of_mem _ h9)
  have hown : s.vm.findClass RX4 = some m.cls := findClass_of_methodNamed B.named
  have S0 : k_C p s m ([.ref o, .int 60] : List Value).toArray c cX4_init 2 RX4 := ⟨hx, hb, hml, hown, ht⟩
  have hlocks := B.notSynchronized
  have hin : meth.name = "<init>" := (name_of_methodNamed B.named B.method).1
  subst hsz
  have hD := hD0.self (sz := s.heap.size)
  generalize hAe : va_A [(o, .inr (4, [.null, .int 0]))] s.heap.size = A at hD hG ⊢
  have hA : ∀ q : Nat, s.heap.size ≤ q → A q := fun q h => by rw [← hAe]; exact Or.inr h
  have hS : va_S A s.heap s.heap [] := va_S.rf
  have hl := lv_entry ([.ref o, .int 60]) (n := 2) (Nat.le_of_ble_eq_true rfl)
  rw [lg_entry_eq]
  generalize (lg_sl ([.ref o, .int 60]) ++ List.replicate (2 - (lg_sl ([.ref o, .int 60])).length) Slot.unset).toArray = ls at hl ⊢
  have hl : lv_has ls 2 [(0, .ref o), (1, .int 60)] := hl
  have hP : va_P D vwCl [(o, .inr (4, [.null, .int 0]))] s.heap := hP
  refine lv_aload_n hx hb dX4_init_0 rfl (lv_at hl 0 rfl) ?_
  refine W.objInit hx hb hown (ht _ lo_X4_1) (ht _ lo_inst) (ht _ lo_code) rfl (by rw [hml]; exact hl.1) rfl dX4_init_1 (Nat.le_of_ble_eq_true rfl) (Nat.le_of_ble_eq_true rfl) ?_
  refine W.eq (g2 := F0 m 4 ls []) rfl ?_
  refine lv_aload_n hx hb dX4_init_4 rfl (lv_at hl 0 rfl) ?_
  refine lv_iload_n hx hb dX4_init_5 rfl (lv_at hl 1 rfl) ?_
  refine lv_iconst (v := 0) hx hb dX4_init_6 (by decide) ?_
  refine va_mmax hx hb (by rw [hml]; exact hl.1.symm) hown (ht _ lM_X4_7) (ht _ lM_st_max) (ht _ li_java_lang_Math) (ht _ lM_code_max) (Nat.le_of_ble_eq_true rfl) (Nat.le_of_ble_eq_true rfl) (Nat.le_of_ble_eq_true rfl) (Nat.le_of_ble_eq_true rfl) dX4_init_7 ?_
  refine k_nrm (y := 60) (by decide) ?_
  refine va_newa (atype := .int) (ty := .int) hx hb (ht _ la_int) rfl hK hP hD hS hA (N' := 60) (a0 := (60, .inl (fun _ => 0))) (fun cA => rfl) (by decide) (by decide) (Nat.le_of_ble_eq_true rfl) (Nat.le_of_ble_eq_true rfl) (Nat.le_of_ble_eq_true rfl) dX4_init_10 (fun q_1 K_2 H hK hP hD hS => ?_)
  have hK : va_K D vwCl [(K_2, .int)] s := hK
  have hP : va_P D vwCl [(o, .inr (4, [.null, .int 0])), (q_1, .inl (K_2, 60, .inl (fun _ => 0)))] H := hP
  have hD : va_D A [(o, .inr (4, [.null, .int 0])), (q_1, .inl (K_2, 60, .inl (fun _ => 0)))] := hD
  refine W.widen (k := 1) (n := 60) (Nat.le_of_ble_eq_true rfl) (Nat.le_of_ble_eq_true rfl) ?_
  refine va_putF (D := D) (ci := 4) (v := .ref q_1) (ty := tyX4 0) (C := RX4) (T := TX4) (N := 2) hx hb ht inA_X4 tyX4 tyX4_ok nmX4 hown hK hP hD hS 0 rfl rfl 0 (by decide) (ht _ lf_X4_13) (fun _ h9 => h9) rfl hin rfl (tyX4_ok 0 (by decide)) rfl rfl (Nat.le_of_ble_eq_true rfl) dX4_init_12 (fun H locs hP hD hS => ?_)
  have hP : va_P D vwCl [(o, .inr (4, [.ref q_1, .int 0])), (q_1, .inl (K_2, 60, .inl (fun _ => 0)))] H := hP
  have hD : va_D A [(o, .inr (4, [.ref q_1, .int 0])), (q_1, .inl (K_2, 60, .inl (fun _ => 0)))] := hD
  have hP9 : va_P D vwCl [(o, .inr (4, [.ref q_1, .int 0])), (q_1, .inl (K_2, 60, .inl (fun _ => 0)))] H := hP.sub [0, 1] rfl
  have hD9 : va_D A [(o, .inr (4, [.ref q_1, .int 0])), (q_1, .inl (K_2, 60, .inl (fun _ => 0)))] := hD.sub [0, 1] (by decide) rfl
  have hK9 : va_K D vwCl [(K_2, .int)] s := hK.sub [0] rfl
  exact W.vret hx hb hr (fun t ht9 hW9 => ⟨⟨(q_1, K_2), rfl, by first | rfl | trivial | (simp only [if_true, if_false, reduceIte, and_self]; done) | simp_all, ⟨by rw [ht9]; exact hP9, va_K.moved hW9.alike hK9, hD9⟩⟩, hS.F ht9⟩) hS.2.2 dX4_init_15
set_option maxHeartbeats 4000000 in
set_option maxRecDepth 100000 in
theorem c_Row_size (l : Launch) (D : va_G) (o : Nat) (oA : Nat) (n : Int32) (sz : Nat) : k_Mi (S := Unit) l D yX4_size cX4_size 1 (some .int) 0 0 0 0 [.ref o] [(o, .inr (4, [.ref oA, .int n]))] [] (fun (r : Int32) (_ : Unit) => r = n) (fun _ => [(o, .inr (4, [.ref oA, .int n]))]) (fun _ => []) sz := by
  refine Met.ofW (cc := cX4_size) (maxL := 1) (ret := (some .int)) (by decide) rfl ?_
  intro p e s m args below meth c s₁ B hml hv
  obtain ⟨rfl, hsz, hP, hK, hD0, hG⟩ := hv
  have hx := B.exec
  have hb := B.bytes
  have hr := B.returns
  have ht : ∀ v9 ∈ wsA, v9.before ([.ref o] : List Value).toArray s = true := fun v9 h9 => atoms_spec (ws := k_ws yX4_size cX4_size 1 (some .int)) B.pre v9 (List.mem_cons_of_mem _ h9)
  have hown : s.vm.findClass RX4 = some m.cls := findClass_of_methodNamed B.named
  have S0 : k_C p s m ([.ref o] : List Value).toArray c cX4_size 1 RX4 := ⟨hx, hb, hml, hown, ht⟩
  have hlocks := B.notSynchronized
  subst hsz
  have hD := hD0.self (sz := s.heap.size)
  generalize hAe : va_A [(o, .inr (4, [.ref oA, .int n]))] s.heap.size = A at hD hG ⊢
  have hA : ∀ q : Nat, s.heap.size ≤ q → A q := fun q h => by rw [← hAe]; exact Or.inr h
  have hS : va_S A s.heap s.heap [] := va_S.rf
  have hl := lv_entry ([.ref o]) (n := 1) (Nat.le_of_ble_eq_true rfl)
  rw [lg_entry_eq]
  generalize (lg_sl ([.ref o]) ++ List.replicate (1 - (lg_sl ([.ref o])).length) Slot.unset).toArray = ls at hl ⊢
  have hl : lv_has ls 1 [(0, .ref o)] := hl
  have hP : va_P D vwCl [(o, .inr (4, [.ref oA, .int n]))] s.heap := hP
  refine lv_aload_n hx hb dX4_size_0 rfl (lv_at hl 0 rfl) ?_
  refine va_get (D := D) (ci := 4) (v := .int n) (C := RX4) (T := TX4) (N := 2) hx hb ht inA_X4 hown hK hP 0 rfl rfl 1 (by decide) (ht _ lf_X4_19) (fun _ h9 => h9) rfl dX4_size_1 ?_
  have hP9 : va_P D vwCl [(o, .inr (4, [.ref oA, .int n]))] s.heap := hP.sub [0] rfl
  have hD9 : va_D A [(o, .inr (4, [.ref oA, .int n]))] := hD.sub [0] (by decide) rfl
  have hK9 : va_K D vwCl [] s := hK.sub [] rfl
  exact W.iret (v := n) hx hb hr (fun t ht9 hW9 => ⟨⟨n, (), rfl, by first | rfl | trivial | (simp only [if_true, if_false, reduceIte, and_self]; done) | simp_all, ⟨by rw [ht9]; exact hP9, va_K.moved hW9.alike hK9, hD9⟩⟩, hS.F ht9⟩) hS.2.2 dX4_size_4
set_option maxHeartbeats 4000000 in
set_option maxRecDepth 100000 in
theorem c_Row_isFull (l : Launch) (D : va_G) (o : Nat) (oA : Nat) (n : Int32) (K : ClassId) (cap : Nat) (f : Nat → Int32) (sz : Nat) : k_Mi (S := Unit) l D yX4_isFull cX4_isFull 1 (some .boolean) 0 0 0 0 [.ref o] [(o, .inr (4, [.ref oA, .int n])), (oA, .inl (K, cap, .inl f))] [(K, .int)] (fun (r : Int32) (_ : Unit) => r = (if nI cap ≤ n then 1 else 0)) (fun _ => [(o, .inr (4, [.ref oA, .int n])), (oA, .inl (K, cap, .inl f))]) (fun _ => []) sz := by
  refine Met.ofW (cc := cX4_isFull) (maxL := 1) (ret := (some .boolean)) (by decide) rfl ?_
  intro p e s m args below meth c s₁ B hml hv
  obtain ⟨rfl, hsz, hP, hK, hD0, hG⟩ := hv
  have hx := B.exec
  have hb := B.bytes
  have hr := B.returns
  have ht : ∀ v9 ∈ wsA, v9.before ([.ref o] : List Value).toArray s = true := fun v9 h9 => atoms_spec (ws := k_ws yX4_isFull cX4_isFull 1 (some .boolean)) B.pre v9 (List.mem_cons_of_mem _ h9)
  have hown : s.vm.findClass RX4 = some m.cls := findClass_of_methodNamed B.named
  have S0 : k_C p s m ([.ref o] : List Value).toArray c cX4_isFull 1 RX4 := ⟨hx, hb, hml, hown, ht⟩
  have hlocks := B.notSynchronized
  subst hsz
  have hD := hD0.self (sz := s.heap.size)
  generalize hAe : va_A [(o, .inr (4, [.ref oA, .int n])), (oA, .inl (K, cap, .inl f))] s.heap.size = A at hD hG ⊢
  have hA : ∀ q : Nat, s.heap.size ≤ q → A q := fun q h => by rw [← hAe]; exact Or.inr h
  have hS : va_S A s.heap s.heap [] := va_S.rf
  have hl := lv_entry ([.ref o]) (n := 1) (Nat.le_of_ble_eq_true rfl)
  rw [lg_entry_eq]
  generalize (lg_sl ([.ref o]) ++ List.replicate (1 - (lg_sl ([.ref o])).length) Slot.unset).toArray = ls at hl ⊢
  have hl : lv_has ls 1 [(0, .ref o)] := hl
  have hP : va_P D vwCl [(o, .inr (4, [.ref oA, .int n])), (oA, .inl (K, cap, .inl f))] s.heap := hP
  refine lv_aload_n hx hb dX4_isFull_0 rfl (lv_at hl 0 rfl) ?_
  refine va_get (D := D) (ci := 4) (v := .int n) (C := RX4) (T := TX4) (N := 2) hx hb ht inA_X4 hown hK hP 0 rfl rfl 1 (by decide) (ht _ lf_X4_19) (fun _ h9 => h9) rfl dX4_isFull_1 ?_
  refine lv_aload_n hx hb dX4_isFull_4 rfl (lv_at hl 0 rfl) ?_
  refine va_get (D := D) (ci := 4) (v := .ref oA) (C := RX4) (T := TX4) (N := 2) hx hb ht inA_X4 hown hK hP 0 rfl rfl 0 (by decide) (ht _ lf_X4_13) (fun _ h9 => h9) rfl dX4_isFull_5 ?_
  refine va_alen (v := nI cap) hx hb hK hP 1 0 rfl rfl rfl dX4_isFull_8 ?_
  refine lv_icmp_lt (tgt := 16) hx hb dX4_isFull_9 (by decide) (fun c_1 => ?_) (fun c_1 => ?_)
  · have hc9 := c_1
    refine lv_iconst (v := 0) hx hb dX4_isFull_16 (by decide) ?_
    have hP9 : va_P D vwCl [(o, .inr (4, [.ref oA, .int n])), (oA, .inl (K, cap, .inl f))] s.heap := hP.sub [0, 1] rfl
    have hD9 : va_D A [(o, .inr (4, [.ref oA, .int n])), (oA, .inl (K, cap, .inl f))] := hD.sub [0, 1] (by decide) rfl
    have hK9 : va_K D vwCl [] s := hK.sub [] rfl
    exact W.zret (v := 0) hx hb hr (rfl) (fun t ht9 hW9 => ⟨⟨0, (), rfl, by first | rfl | trivial | (simp only [c_1, if_true, if_false, reduceIte, and_self]; done) | simp_all, ⟨by rw [ht9]; exact hP9, va_K.moved hW9.alike hK9, hD9⟩⟩, hS.F ht9⟩) hS.2.2 dX4_isFull_17
  · have hc9 := c_1
    refine lv_iconst (v := 1) hx hb dX4_isFull_12 (by decide) ?_
    refine lv_goto (tgt := 17) hx hb dX4_isFull_13 (by decide) ?_
    have hP9 : va_P D vwCl [(o, .inr (4, [.ref oA, .int n])), (oA, .inl (K, cap, .inl f))] s.heap := hP.sub [0, 1] rfl
    have hD9 : va_D A [(o, .inr (4, [.ref oA, .int n])), (oA, .inl (K, cap, .inl f))] := hD.sub [0, 1] (by decide) rfl
    have hK9 : va_K D vwCl [] s := hK.sub [] rfl
    exact W.zret (v := 1) hx hb hr (rfl) (fun t ht9 hW9 => ⟨⟨1, (), rfl, by first | rfl | trivial | (simp only [c_1, if_true, if_false, reduceIte, and_self]; done) | simp_all, ⟨by rw [ht9]; exact hP9, va_K.moved hW9.alike hK9, hD9⟩⟩, hS.F ht9⟩) hS.2.2 dX4_isFull_17
set_option maxHeartbeats 4000000 in
set_option maxRecDepth 100000 in
theorem c_Row_has (l : Launch) (D : va_G) (o : Nat) (oA : Nat) (n : Int32) (i : Int32) (sz : Nat) : k_Mi (S := Unit) l D yX4_has cX4_has 2 (some .boolean) 0 0 0 0 [.ref o, .int i] [(o, .inr (4, [.ref oA, .int n]))] [] (fun (r : Int32) (_ : Unit) => r = (if i < 0 then 0 else if n ≤ i then 0 else 1)) (fun _ => [(o, .inr (4, [.ref oA, .int n]))]) (fun _ => []) sz := by
  refine Met.ofW (cc := cX4_has) (maxL := 2) (ret := (some .boolean)) (by decide) rfl ?_
  intro p e s m args below meth c s₁ B hml hv
  obtain ⟨rfl, hsz, hP, hK, hD0, hG⟩ := hv
  have hx := B.exec
  have hb := B.bytes
  have hr := B.returns
  have ht : ∀ v9 ∈ wsA, v9.before ([.ref o, .int i] : List Value).toArray s = true := fun v9 h9 => atoms_spec (ws := k_ws yX4_has cX4_has 2 (some .boolean)) B.pre v9 (List.mem_cons_of_mem _ h9)
  have hown : s.vm.findClass RX4 = some m.cls := findClass_of_methodNamed B.named
  have S0 : k_C p s m ([.ref o, .int i] : List Value).toArray c cX4_has 2 RX4 := ⟨hx, hb, hml, hown, ht⟩
  have hlocks := B.notSynchronized
  subst hsz
  have hD := hD0.self (sz := s.heap.size)
  generalize hAe : va_A [(o, .inr (4, [.ref oA, .int n]))] s.heap.size = A at hD hG ⊢
  have hA : ∀ q : Nat, s.heap.size ≤ q → A q := fun q h => by rw [← hAe]; exact Or.inr h
  have hS : va_S A s.heap s.heap [] := va_S.rf
  have hl := lv_entry ([.ref o, .int i]) (n := 2) (Nat.le_of_ble_eq_true rfl)
  rw [lg_entry_eq]
  generalize (lg_sl ([.ref o, .int i]) ++ List.replicate (2 - (lg_sl ([.ref o, .int i])).length) Slot.unset).toArray = ls at hl ⊢
  have hl : lv_has ls 2 [(0, .ref o), (1, .int i)] := hl
  have hP : va_P D vwCl [(o, .inr (4, [.ref oA, .int n]))] s.heap := hP
  refine lv_iload_n hx hb dX4_has_0 rfl (lv_at hl 1 rfl) ?_
  refine lv_if_lt (tgt := 16) hx hb dX4_has_1 (by decide) (fun c_1 => ?_) (fun c_1 => ?_)
  · have hc9 := c_1
    refine lv_iconst (v := 0) hx hb dX4_has_16 (by decide) ?_
    have hP9 : va_P D vwCl [(o, .inr (4, [.ref oA, .int n]))] s.heap := hP.sub [0] rfl
    have hD9 : va_D A [(o, .inr (4, [.ref oA, .int n]))] := hD.sub [0] (by decide) rfl
    have hK9 : va_K D vwCl [] s := hK.sub [] rfl
    exact W.zret (v := 0) hx hb hr (rfl) (fun t ht9 hW9 => ⟨⟨0, (), rfl, by first | rfl | trivial | (simp only [c_1, if_true, if_false, reduceIte, and_self]; done) | simp_all, ⟨by rw [ht9]; exact hP9, va_K.moved hW9.alike hK9, hD9⟩⟩, hS.F ht9⟩) hS.2.2 dX4_has_17
  · have hc9 := c_1
    refine lv_iload_n hx hb dX4_has_4 rfl (lv_at hl 1 rfl) ?_
    refine lv_aload_n hx hb dX4_has_5 rfl (lv_at hl 0 rfl) ?_
    refine va_get (D := D) (ci := 4) (v := .int n) (C := RX4) (T := TX4) (N := 2) hx hb ht inA_X4 hown hK hP 0 rfl rfl 1 (by decide) (ht _ lf_X4_19) (fun _ h9 => h9) rfl dX4_has_6 ?_
    refine lv_icmp_ge (tgt := 16) hx hb dX4_has_9 (by decide) (fun c_2 => ?_) (fun c_2 => ?_)
    · have hc9 := c_2
      refine lv_iconst (v := 0) hx hb dX4_has_16 (by decide) ?_
      have hP9 : va_P D vwCl [(o, .inr (4, [.ref oA, .int n]))] s.heap := hP.sub [0] rfl
      have hD9 : va_D A [(o, .inr (4, [.ref oA, .int n]))] := hD.sub [0] (by decide) rfl
      have hK9 : va_K D vwCl [] s := hK.sub [] rfl
      exact W.zret (v := 0) hx hb hr (rfl) (fun t ht9 hW9 => ⟨⟨0, (), rfl, by first | rfl | trivial | (simp only [c_1, c_2, if_true, if_false, reduceIte, and_self]; done) | simp_all, ⟨by rw [ht9]; exact hP9, va_K.moved hW9.alike hK9, hD9⟩⟩, hS.F ht9⟩) hS.2.2 dX4_has_17
    · have hc9 := c_2
      refine lv_iconst (v := 1) hx hb dX4_has_12 (by decide) ?_
      refine lv_goto (tgt := 17) hx hb dX4_has_13 (by decide) ?_
      have hP9 : va_P D vwCl [(o, .inr (4, [.ref oA, .int n]))] s.heap := hP.sub [0] rfl
      have hD9 : va_D A [(o, .inr (4, [.ref oA, .int n]))] := hD.sub [0] (by decide) rfl
      have hK9 : va_K D vwCl [] s := hK.sub [] rfl
      exact W.zret (v := 1) hx hb hr (rfl) (fun t ht9 hW9 => ⟨⟨1, (), rfl, by first | rfl | trivial | (simp only [c_1, c_2, if_true, if_false, reduceIte, and_self]; done) | simp_all, ⟨by rw [ht9]; exact hP9, va_K.moved hW9.alike hK9, hD9⟩⟩, hS.F ht9⟩) hS.2.2 dX4_has_17
/-- a row's cell; 0 where there is none -/
def rowAt (cap : Nat) (n : Int32) (f : Nat → Int32) (i : Int32) : Int32 := if i < 0 then 0 else if n ≤ i then 0 else if nI cap ≤ i then 0 else f i.toNatClampNeg
theorem vp_in_row {cap : Nat} {i : Int32} (hc : cap < 2 ^ 31) (h0 : ¬ i < 0) (h1 : ¬ nI cap ≤ i) : vp_in i cap := by
  rcases pk_ix i hc with h | h | ⟨j, hj, rfl⟩
  · exact absurd h h0
  · exact absurd h h1
  · exact vp_in_nI hj hc
def rowPut (cap : Nat) (n : Int32) (f : Nat → Int32) (i v : Int32) : Nat → Int32 := if i < 0 then f else if n ≤ i then f else if nI cap ≤ i then f else upd f i.toNatClampNeg v
theorem rowAt_lt {cap i n : Nat} {f : Nat → Int32} (h : i < n) (h2 : n ≤ cap) (hc : cap < 2 ^ 31) : rowAt cap (nI n) f (nI i) = f i := by
  unfold rowAt
  rw [if_neg (nI_pos (by omega)), if_neg (nI_ge h (by omega)), if_neg (nI_ge (by omega) hc), nI_clamp (by omega)]
theorem rowPut_lt {cap i n : Nat} {f : Nat → Int32} {v : Int32} (h : i < n) (h2 : n ≤ cap) (hc : cap < 2 ^ 31) : rowPut cap (nI n) f (nI i) v = upd f i v := by
  unfold rowPut
  rw [if_neg (nI_pos (by omega)), if_neg (nI_ge h (by omega)), if_neg (nI_ge (by omega) hc), nI_clamp (by omega)]
def zrf (f : Nat → Int32) (i : Nat) : Nat → Int32 := fun j => if j < i then 0 else f j
theorem zrf_0 (f : Nat → Int32) : zrf f 0 = f := rfl
theorem zrf_s (f : Nat → Int32) (i : Nat) : upd (zrf f i) i 0 = zrf f (i + 1) := by
  funext j
  unfold upd zrf
  by_cases h : j = i
  · subst h; simp
  · by_cases h2 : j < i
    · have h3 : j < i + 1 := by omega
      simp [h, h2, h3]
    · have h3 : ¬ j < i + 1 := by omega
      simp [h, h2, h3]
/-- the first i out of g, the others out of f -/
def cpy (g f : Nat → Int32) (i : Nat) : Nat → Int32 := fun j => if j < i then g j else f j
theorem cpy_0 (g f : Nat → Int32) : cpy g f 0 = f := by
  funext j
  unfold cpy
  rw [if_neg (by omega)]
theorem cpy_s (g f : Nat → Int32) (i : Nat) : upd (cpy g f i) i (g i) = cpy g f (i + 1) := by
  funext j
  unfold upd cpy
  by_cases h : j = i
  · rw [if_pos h, if_pos (by omega), h]
  · rw [if_neg h]
    by_cases h2 : j < i
    · rw [if_pos h2, if_pos (by omega)]
    · rw [if_neg h2, if_neg (by omega)]
theorem cpy_lt {g f : Nat → Int32} {i j : Nat} (h : j < i) : cpy g f i j = g j := if_pos h
/-- moved up by one, as far as i -/
def shl (f : Nat → Int32) (i : Nat) : Nat → Int32 := fun j => if j + 1 < i then f (j + 1) else f j
theorem shl_1 (f : Nat → Int32) : shl f 1 = f := by
  funext j
  unfold shl
  rw [if_neg (by omega)]
theorem shl_at (f : Nat → Int32) (i : Nat) : shl f i i = f i := by
  unfold shl
  rw [if_neg (by omega)]
theorem shl_s {f : Nat → Int32} {i : Nat} (h : 1 ≤ i) : upd (shl f i) (i - 1) (f i) = shl f (i + 1) := by
  funext j
  unfold upd shl
  by_cases hj : j = i - 1
  · rw [if_pos hj, if_pos (by omega), show j + 1 = i from by omega]
  · rw [if_neg hj]
    by_cases h2 : j + 1 < i
    · rw [if_pos h2, if_pos (by omega)]
    · rw [if_neg h2, if_neg (by omega)]
set_option maxHeartbeats 4000000 in
set_option maxRecDepth 100000 in
theorem c_Row_at (l : Launch) (D : va_G) (o : Nat) (oA : Nat) (n : Int32) (K : ClassId) (cap : Nat) (f : Nat → Int32) (i : Int32) (hcap : cap < 2 ^ 31) (sz : Nat) : k_Mi (S := Unit) l D yX4_at cX4_at 2 (some .int) 0 0 0 0 [.ref o, .int i] [(o, .inr (4, [.ref oA, .int n])), (oA, .inl (K, cap, .inl f))] [(K, .int)] (fun (r : Int32) (_ : Unit) => r = (rowAt cap n f i)) (fun _ => [(o, .inr (4, [.ref oA, .int n])), (oA, .inl (K, cap, .inl f))]) (fun _ => []) sz := by
  refine Met.ofW (cc := cX4_at) (maxL := 2) (ret := (some .int)) (by decide) rfl ?_
  intro p e s m args below meth c s₁ B hml hv
  obtain ⟨rfl, hsz, hP, hK, hD0, hG⟩ := hv
  have hx := B.exec
  have hb := B.bytes
  have hr := B.returns
  have ht : ∀ v9 ∈ wsA, v9.before ([.ref o, .int i] : List Value).toArray s = true := fun v9 h9 => atoms_spec (ws := k_ws yX4_at cX4_at 2 (some .int)) B.pre v9 (List.mem_cons_of_mem _ h9)
  have hown : s.vm.findClass RX4 = some m.cls := findClass_of_methodNamed B.named
  have S0 : k_C p s m ([.ref o, .int i] : List Value).toArray c cX4_at 2 RX4 := ⟨hx, hb, hml, hown, ht⟩
  have hlocks := B.notSynchronized
  subst hsz
  have hD := hD0.self (sz := s.heap.size)
  generalize hAe : va_A [(o, .inr (4, [.ref oA, .int n])), (oA, .inl (K, cap, .inl f))] s.heap.size = A at hD hG ⊢
  have hA : ∀ q : Nat, s.heap.size ≤ q → A q := fun q h => by rw [← hAe]; exact Or.inr h
  have hS : va_S A s.heap s.heap [] := va_S.rf
  have hl := lv_entry ([.ref o, .int i]) (n := 2) (Nat.le_of_ble_eq_true rfl)
  rw [lg_entry_eq]
  generalize (lg_sl ([.ref o, .int i]) ++ List.replicate (2 - (lg_sl ([.ref o, .int i])).length) Slot.unset).toArray = ls at hl ⊢
  have hl : lv_has ls 2 [(0, .ref o), (1, .int i)] := hl
  have hP : va_P D vwCl [(o, .inr (4, [.ref oA, .int n])), (oA, .inl (K, cap, .inl f))] s.heap := hP
  refine lv_iload_n hx hb dX4_at_0 rfl (lv_at hl 1 rfl) ?_
  refine lv_if_lt (tgt := 30) hx hb dX4_at_1 (by decide) (fun c_1 => ?_) (fun c_1 => ?_)
  · have hc9 := c_1
    refine lv_iconst (v := 0) hx hb dX4_at_30 (by decide) ?_
    have hP9 : va_P D vwCl [(o, .inr (4, [.ref oA, .int n])), (oA, .inl (K, cap, .inl f))] s.heap := hP.sub [0, 1] rfl
    have hD9 : va_D A [(o, .inr (4, [.ref oA, .int n])), (oA, .inl (K, cap, .inl f))] := hD.sub [0, 1] (by decide) rfl
    have hK9 : va_K D vwCl [] s := hK.sub [] rfl
    exact W.iret (v := 0) hx hb hr (fun t ht9 hW9 => ⟨⟨0, (), rfl, by first | rfl | trivial | (simp only [rowAt, c_1, if_true, if_false, reduceIte, and_self]; done) | simp_all, ⟨by rw [ht9]; exact hP9, va_K.moved hW9.alike hK9, hD9⟩⟩, hS.F ht9⟩) hS.2.2 dX4_at_31
  · have hc9 := c_1
    refine lv_iload_n hx hb dX4_at_4 rfl (lv_at hl 1 rfl) ?_
    refine lv_aload_n hx hb dX4_at_5 rfl (lv_at hl 0 rfl) ?_
    refine va_get (D := D) (ci := 4) (v := .int n) (C := RX4) (T := TX4) (N := 2) hx hb ht inA_X4 hown hK hP 0 rfl rfl 1 (by decide) (ht _ lf_X4_19) (fun _ h9 => h9) rfl dX4_at_6 ?_
    refine lv_icmp_ge (tgt := 30) hx hb dX4_at_9 (by decide) (fun c_2 => ?_) (fun c_2 => ?_)
    · have hc9 := c_2
      refine lv_iconst (v := 0) hx hb dX4_at_30 (by decide) ?_
      have hP9 : va_P D vwCl [(o, .inr (4, [.ref oA, .int n])), (oA, .inl (K, cap, .inl f))] s.heap := hP.sub [0, 1] rfl
      have hD9 : va_D A [(o, .inr (4, [.ref oA, .int n])), (oA, .inl (K, cap, .inl f))] := hD.sub [0, 1] (by decide) rfl
      have hK9 : va_K D vwCl [] s := hK.sub [] rfl
      exact W.iret (v := 0) hx hb hr (fun t ht9 hW9 => ⟨⟨0, (), rfl, by first | rfl | trivial | (simp only [rowAt, c_1, c_2, if_true, if_false, reduceIte, and_self]; done) | simp_all, ⟨by rw [ht9]; exact hP9, va_K.moved hW9.alike hK9, hD9⟩⟩, hS.F ht9⟩) hS.2.2 dX4_at_31
    · have hc9 := c_2
      refine lv_iload_n hx hb dX4_at_12 rfl (lv_at hl 1 rfl) ?_
      refine lv_aload_n hx hb dX4_at_13 rfl (lv_at hl 0 rfl) ?_
      refine va_get (D := D) (ci := 4) (v := .ref oA) (C := RX4) (T := TX4) (N := 2) hx hb ht inA_X4 hown hK hP 0 rfl rfl 0 (by decide) (ht _ lf_X4_13) (fun _ h9 => h9) rfl dX4_at_14 ?_
      refine va_alen (v := nI cap) hx hb hK hP 1 0 rfl rfl rfl dX4_at_17 ?_
      refine lv_icmp_ge (tgt := 30) hx hb dX4_at_18 (by decide) (fun c_3 => ?_) (fun c_3 => ?_)
      · have hc9 := c_3
        refine lv_iconst (v := 0) hx hb dX4_at_30 (by decide) ?_
        have hP9 : va_P D vwCl [(o, .inr (4, [.ref oA, .int n])), (oA, .inl (K, cap, .inl f))] s.heap := hP.sub [0, 1] rfl
        have hD9 : va_D A [(o, .inr (4, [.ref oA, .int n])), (oA, .inl (K, cap, .inl f))] := hD.sub [0, 1] (by decide) rfl
        have hK9 : va_K D vwCl [] s := hK.sub [] rfl
        exact W.iret (v := 0) hx hb hr (fun t ht9 hW9 => ⟨⟨0, (), rfl, by first | rfl | trivial | (simp only [rowAt, c_1, c_2, c_3, if_true, if_false, reduceIte, and_self]; done) | simp_all, ⟨by rw [ht9]; exact hP9, va_K.moved hW9.alike hK9, hD9⟩⟩, hS.F ht9⟩) hS.2.2 dX4_at_31
      · have hc9 := c_3
        refine lv_aload_n hx hb dX4_at_21 rfl (lv_at hl 0 rfl) ?_
        refine va_get (D := D) (ci := 4) (v := .ref oA) (C := RX4) (T := TX4) (N := 2) hx hb ht inA_X4 hown hK hP 0 rfl rfl 0 (by decide) (ht _ lf_X4_13) (fun _ h9 => h9) rfl dX4_at_22 ?_
        refine lv_iload_n hx hb dX4_at_25 rfl (lv_at hl 1 rfl) ?_
        refine va_iald hx hb hK hP 1 0 rfl rfl (vp_in_row hcap c_1 c_3) dX4_at_26 ?_
        refine lv_goto (tgt := 31) hx hb dX4_at_27 (by decide) ?_
        have hP9 : va_P D vwCl [(o, .inr (4, [.ref oA, .int n])), (oA, .inl (K, cap, .inl f))] s.heap := hP.sub [0, 1] rfl
        have hD9 : va_D A [(o, .inr (4, [.ref oA, .int n])), (oA, .inl (K, cap, .inl f))] := hD.sub [0, 1] (by decide) rfl
        have hK9 : va_K D vwCl [] s := hK.sub [] rfl
        exact W.iret (v := f i.toNatClampNeg) hx hb hr (fun t ht9 hW9 => ⟨⟨f i.toNatClampNeg, (), rfl, by first | rfl | trivial | (simp only [rowAt, c_1, c_2, c_3, if_true, if_false, reduceIte, and_self]; done) | simp_all, ⟨by rw [ht9]; exact hP9, va_K.moved hW9.alike hK9, hD9⟩⟩, hS.F ht9⟩) hS.2.2 dX4_at_31
set_option maxHeartbeats 4000000 in
set_option maxRecDepth 100000 in
theorem c_Row_put (l : Launch) (D : va_G) (o : Nat) (oA : Nat) (n : Int32) (K : ClassId) (cap : Nat) (f : Nat → Int32) (i : Int32) (v : Int32) (hcap : cap < 2 ^ 31) (sz : Nat) : k_Mv (S := Unit) l D yX4_put cX4_put 3 none 0 0 0 0 [.ref o, .int i, .int v] [(o, .inr (4, [.ref oA, .int n])), (oA, .inl (K, cap, .inl f))] [(K, .int)] (fun (_ : Unit) => True) (fun _ => [(o, .inr (4, [.ref oA, .int n])), (oA, .inl (K, cap, .inl (rowPut cap n f i v)))]) (fun _ => []) sz := by
  refine Met.ofW (cc := cX4_put) (maxL := 3) (ret := none) (by decide) rfl ?_
  intro p e s m args below meth c s₁ B hml hv
  obtain ⟨rfl, hsz, hP, hK, hD0, hG⟩ := hv
  have hx := B.exec
  have hb := B.bytes
  have hr := B.returns
  have ht : ∀ v9 ∈ wsA, v9.before ([.ref o, .int i, .int v] : List Value).toArray s = true := fun v9 h9 => atoms_spec (ws := k_ws yX4_put cX4_put 3 none) B.pre v9 (List.mem_cons_of_mem _ h9)
  have hown : s.vm.findClass RX4 = some m.cls := findClass_of_methodNamed B.named
  have S0 : k_C p s m ([.ref o, .int i, .int v] : List Value).toArray c cX4_put 3 RX4 := ⟨hx, hb, hml, hown, ht⟩
  have hlocks := B.notSynchronized
  subst hsz
  have hD := hD0.self (sz := s.heap.size)
  generalize hAe : va_A [(o, .inr (4, [.ref oA, .int n])), (oA, .inl (K, cap, .inl f))] s.heap.size = A at hD hG ⊢
  have hA : ∀ q : Nat, s.heap.size ≤ q → A q := fun q h => by rw [← hAe]; exact Or.inr h
  have hS : va_S A s.heap s.heap [] := va_S.rf
  have hl := lv_entry ([.ref o, .int i, .int v]) (n := 3) (Nat.le_of_ble_eq_true rfl)
  rw [lg_entry_eq]
  generalize (lg_sl ([.ref o, .int i, .int v]) ++ List.replicate (3 - (lg_sl ([.ref o, .int i, .int v])).length) Slot.unset).toArray = ls at hl ⊢
  have hl : lv_has ls 3 [(0, .ref o), (1, .int i), (2, .int v)] := hl
  have hP : va_P D vwCl [(o, .inr (4, [.ref oA, .int n])), (oA, .inl (K, cap, .inl f))] s.heap := hP
  refine lv_iload_n hx hb dX4_put_0 rfl (lv_at hl 1 rfl) ?_
  refine lv_if_lt (tgt := 28) hx hb dX4_put_1 (by decide) (fun c_1 => ?_) (fun c_1 => ?_)
  · have hc9 := c_1
    have hf_2 : (f : Nat → Int32) = (rowPut cap n f i v) := by first | rfl | (simp only [rowPut, c_1, if_true, if_false, reduceIte]; done)
    have hP : va_P D vwCl [(o, .inr (4, [.ref oA, .int n])), (oA, .inl (K, cap, .inl (rowPut cap n f i v)))] s.heap := (congrArg (fun z9 : Nat → Int32 => va_P D vwCl [(o, .inr (4, [.ref oA, .int n])), (oA, .inl (K, cap, .inl z9))] s.heap) hf_2).mp hP
    have hD : va_D A [(o, .inr (4, [.ref oA, .int n])), (oA, .inl (K, cap, .inl (rowPut cap n f i v)))] := (congrArg (fun z9 : Nat → Int32 => va_D A [(o, .inr (4, [.ref oA, .int n])), (oA, .inl (K, cap, .inl z9))]) hf_2).mp hD
    have hP9 : va_P D vwCl [(o, .inr (4, [.ref oA, .int n])), (oA, .inl (K, cap, .inl (rowPut cap n f i v)))] s.heap := hP.sub [0, 1] rfl
    have hD9 : va_D A [(o, .inr (4, [.ref oA, .int n])), (oA, .inl (K, cap, .inl (rowPut cap n f i v)))] := hD.sub [0, 1] (by decide) rfl
    have hK9 : va_K D vwCl [] s := hK.sub [] rfl
    exact W.vret hx hb hr (fun t ht9 hW9 => ⟨⟨(), rfl, by first | rfl | trivial | (simp only [rowPut, c_1, if_true, if_false, reduceIte, and_self]; done) | simp_all, ⟨by rw [ht9]; exact hP9, va_K.moved hW9.alike hK9, hD9⟩⟩, hS.F ht9⟩) hS.2.2 dX4_put_28
  · have hc9 := c_1
    refine lv_iload_n hx hb dX4_put_4 rfl (lv_at hl 1 rfl) ?_
    refine lv_aload_n hx hb dX4_put_5 rfl (lv_at hl 0 rfl) ?_
    refine va_get (D := D) (ci := 4) (v := .int n) (C := RX4) (T := TX4) (N := 2) hx hb ht inA_X4 hown hK hP 0 rfl rfl 1 (by decide) (ht _ lf_X4_19) (fun _ h9 => h9) rfl dX4_put_6 ?_
    refine lv_icmp_ge (tgt := 28) hx hb dX4_put_9 (by decide) (fun c_3 => ?_) (fun c_3 => ?_)
    · have hc9 := c_3
      have hf_4 : (f : Nat → Int32) = (rowPut cap n f i v) := by first | rfl | (simp only [rowPut, c_1, c_3, if_true, if_false, reduceIte]; done)
      have hP : va_P D vwCl [(o, .inr (4, [.ref oA, .int n])), (oA, .inl (K, cap, .inl (rowPut cap n f i v)))] s.heap := (congrArg (fun z9 : Nat → Int32 => va_P D vwCl [(o, .inr (4, [.ref oA, .int n])), (oA, .inl (K, cap, .inl z9))] s.heap) hf_4).mp hP
      have hD : va_D A [(o, .inr (4, [.ref oA, .int n])), (oA, .inl (K, cap, .inl (rowPut cap n f i v)))] := (congrArg (fun z9 : Nat → Int32 => va_D A [(o, .inr (4, [.ref oA, .int n])), (oA, .inl (K, cap, .inl z9))]) hf_4).mp hD
      have hP9 : va_P D vwCl [(o, .inr (4, [.ref oA, .int n])), (oA, .inl (K, cap, .inl (rowPut cap n f i v)))] s.heap := hP.sub [0, 1] rfl
      have hD9 : va_D A [(o, .inr (4, [.ref oA, .int n])), (oA, .inl (K, cap, .inl (rowPut cap n f i v)))] := hD.sub [0, 1] (by decide) rfl
      have hK9 : va_K D vwCl [] s := hK.sub [] rfl
      exact W.vret hx hb hr (fun t ht9 hW9 => ⟨⟨(), rfl, by first | rfl | trivial | (simp only [rowPut, c_1, c_3, if_true, if_false, reduceIte, and_self]; done) | simp_all, ⟨by rw [ht9]; exact hP9, va_K.moved hW9.alike hK9, hD9⟩⟩, hS.F ht9⟩) hS.2.2 dX4_put_28
    · have hc9 := c_3
      refine lv_iload_n hx hb dX4_put_12 rfl (lv_at hl 1 rfl) ?_
      refine lv_aload_n hx hb dX4_put_13 rfl (lv_at hl 0 rfl) ?_
      refine va_get (D := D) (ci := 4) (v := .ref oA) (C := RX4) (T := TX4) (N := 2) hx hb ht inA_X4 hown hK hP 0 rfl rfl 0 (by decide) (ht _ lf_X4_13) (fun _ h9 => h9) rfl dX4_put_14 ?_
      refine va_alen (v := nI cap) hx hb hK hP 1 0 rfl rfl rfl dX4_put_17 ?_
      refine lv_icmp_ge (tgt := 28) hx hb dX4_put_18 (by decide) (fun c_5 => ?_) (fun c_5 => ?_)
      · have hc9 := c_5
        have hf_6 : (f : Nat → Int32) = (rowPut cap n f i v) := by first | rfl | (simp only [rowPut, c_1, c_3, c_5, if_true, if_false, reduceIte]; done)
        have hP : va_P D vwCl [(o, .inr (4, [.ref oA, .int n])), (oA, .inl (K, cap, .inl (rowPut cap n f i v)))] s.heap := (congrArg (fun z9 : Nat → Int32 => va_P D vwCl [(o, .inr (4, [.ref oA, .int n])), (oA, .inl (K, cap, .inl z9))] s.heap) hf_6).mp hP
        have hD : va_D A [(o, .inr (4, [.ref oA, .int n])), (oA, .inl (K, cap, .inl (rowPut cap n f i v)))] := (congrArg (fun z9 : Nat → Int32 => va_D A [(o, .inr (4, [.ref oA, .int n])), (oA, .inl (K, cap, .inl z9))]) hf_6).mp hD
        have hP9 : va_P D vwCl [(o, .inr (4, [.ref oA, .int n])), (oA, .inl (K, cap, .inl (rowPut cap n f i v)))] s.heap := hP.sub [0, 1] rfl
        have hD9 : va_D A [(o, .inr (4, [.ref oA, .int n])), (oA, .inl (K, cap, .inl (rowPut cap n f i v)))] := hD.sub [0, 1] (by decide) rfl
        have hK9 : va_K D vwCl [] s := hK.sub [] rfl
        exact W.vret hx hb hr (fun t ht9 hW9 => ⟨⟨(), rfl, by first | rfl | trivial | (simp only [rowPut, c_1, c_3, c_5, if_true, if_false, reduceIte, and_self]; done) | simp_all, ⟨by rw [ht9]; exact hP9, va_K.moved hW9.alike hK9, hD9⟩⟩, hS.F ht9⟩) hS.2.2 dX4_put_28
      · have hc9 := c_5
        refine lv_aload_n hx hb dX4_put_21 rfl (lv_at hl 0 rfl) ?_
        refine va_get (D := D) (ci := 4) (v := .ref oA) (C := RX4) (T := TX4) (N := 2) hx hb ht inA_X4 hown hK hP 0 rfl rfl 0 (by decide) (ht _ lf_X4_13) (fun _ h9 => h9) rfl dX4_put_22 ?_
        refine lv_iload_n hx hb dX4_put_25 rfl (lv_at hl 1 rfl) ?_
        refine lv_iload_n hx hb dX4_put_26 rfl (lv_at hl 2 rfl) ?_
        refine va_iast hx hb hK hP hD hS 1 0 rfl rfl (vp_in_row hcap c_1 c_5) dX4_put_27 (fun H locs hP hD hS => ?_)
        have hP : va_P D vwCl [(o, .inr (4, [.ref oA, .int n])), (oA, .inl (K, cap, .inl (upd f i.toNatClampNeg v)))] H := hP
        have hD : va_D A [(o, .inr (4, [.ref oA, .int n])), (oA, .inl (K, cap, .inl (upd f i.toNatClampNeg v)))] := hD
        have hf_7 : (upd f i.toNatClampNeg v : Nat → Int32) = (rowPut cap n f i v) := by first | rfl | (simp only [rowPut, c_1, c_3, c_5, if_true, if_false, reduceIte]; done)
        have hP : va_P D vwCl [(o, .inr (4, [.ref oA, .int n])), (oA, .inl (K, cap, .inl (rowPut cap n f i v)))] H := (congrArg (fun z9 : Nat → Int32 => va_P D vwCl [(o, .inr (4, [.ref oA, .int n])), (oA, .inl (K, cap, .inl z9))] H) hf_7).mp hP
        have hD : va_D A [(o, .inr (4, [.ref oA, .int n])), (oA, .inl (K, cap, .inl (rowPut cap n f i v)))] := (congrArg (fun z9 : Nat → Int32 => va_D A [(o, .inr (4, [.ref oA, .int n])), (oA, .inl (K, cap, .inl z9))]) hf_7).mp hD
        have hP9 : va_P D vwCl [(o, .inr (4, [.ref oA, .int n])), (oA, .inl (K, cap, .inl (rowPut cap n f i v)))] H := hP.sub [0, 1] rfl
        have hD9 : va_D A [(o, .inr (4, [.ref oA, .int n])), (oA, .inl (K, cap, .inl (rowPut cap n f i v)))] := hD.sub [0, 1] (by decide) rfl
        have hK9 : va_K D vwCl [] s := hK.sub [] rfl
        exact W.vret hx hb hr (fun t ht9 hW9 => ⟨⟨(), rfl, by first | rfl | trivial | (simp only [rowPut, c_1, c_3, c_5, if_true, if_false, reduceIte, and_self]; done) | simp_all, ⟨by rw [ht9]; exact hP9, va_K.moved hW9.alike hK9, hD9⟩⟩, hS.F ht9⟩) hS.2.2 dX4_put_28
set_option maxHeartbeats 4000000 in
set_option maxRecDepth 100000 in
theorem c_Row_add (l : Launch) (D : va_G) (o : Nat) (oA : Nat) (k : Nat) (K : ClassId) (cap : Nat) (f : Nat → Int32) (v : Int32) (hcap : cap < 2 ^ 31) (hkc : k < cap) (sz : Nat) : k_Mv (S := Unit) l D yX4_add cX4_add 2 none 0 0 0 0 [.ref o, .int v] [(o, .inr (4, [.ref oA, .int (nI k)])), (oA, .inl (K, cap, .inl f))] [(K, .int)] (fun (_ : Unit) => True) (fun _ => [(o, .inr (4, [.ref oA, .int (nI (k + 1))])), (oA, .inl (K, cap, .inl (upd f k v)))]) (fun _ => []) sz := by
  refine Met.ofW (cc := cX4_add) (maxL := 2) (ret := none) (by decide) rfl ?_
  intro p e s m args below meth c s₁ B hml hv
  obtain ⟨rfl, hsz, hP, hK, hD0, hG⟩ := hv
  have hx := B.exec
  have hb := B.bytes
  have hr := B.returns
  have ht : ∀ v9 ∈ wsA, v9.before ([.ref o, .int v] : List Value).toArray s = true := fun v9 h9 => atoms_spec (ws := k_ws yX4_add cX4_add 2 none) B.pre v9 (List.mem_cons_of_mem _ h9)
  have hown : s.vm.findClass RX4 = some m.cls := findClass_of_methodNamed B.named
  have S0 : k_C p s m ([.ref o, .int v] : List Value).toArray c cX4_add 2 RX4 := ⟨hx, hb, hml, hown, ht⟩
  have hlocks := B.notSynchronized
  subst hsz
  have hD := hD0.self (sz := s.heap.size)
  generalize hAe : va_A [(o, .inr (4, [.ref oA, .int (nI k)])), (oA, .inl (K, cap, .inl f))] s.heap.size = A at hD hG ⊢
  have hA : ∀ q : Nat, s.heap.size ≤ q → A q := fun q h => by rw [← hAe]; exact Or.inr h
  have hS : va_S A s.heap s.heap [] := va_S.rf
  have hl := lv_entry ([.ref o, .int v]) (n := 2) (Nat.le_of_ble_eq_true rfl)
  rw [lg_entry_eq]
  generalize (lg_sl ([.ref o, .int v]) ++ List.replicate (2 - (lg_sl ([.ref o, .int v])).length) Slot.unset).toArray = ls at hl ⊢
  have hl : lv_has ls 2 [(0, .ref o), (1, .int v)] := hl
  have hP : va_P D vwCl [(o, .inr (4, [.ref oA, .int (nI k)])), (oA, .inl (K, cap, .inl f))] s.heap := hP
  refine lv_aload_n hx hb dX4_add_0 rfl (lv_at hl 0 rfl) ?_
  refine va_get (D := D) (ci := 4) (v := .int (nI k)) (C := RX4) (T := TX4) (N := 2) hx hb ht inA_X4 hown hK hP 0 rfl rfl 1 (by decide) (ht _ lf_X4_19) (fun _ h9 => h9) rfl dX4_add_1 ?_
  refine lv_if_lt (tgt := 39) hx hb dX4_add_4 (by decide) (fun c9 => absurd c9 (nI_pos (by omega))) (fun c_1 => ?_)
  refine lv_aload_n hx hb dX4_add_7 rfl (lv_at hl 0 rfl) ?_
  refine va_get (D := D) (ci := 4) (v := .int (nI k)) (C := RX4) (T := TX4) (N := 2) hx hb ht inA_X4 hown hK hP 0 rfl rfl 1 (by decide) (ht _ lf_X4_19) (fun _ h9 => h9) rfl dX4_add_8 ?_
  refine lv_aload_n hx hb dX4_add_11 rfl (lv_at hl 0 rfl) ?_
  refine va_get (D := D) (ci := 4) (v := .ref oA) (C := RX4) (T := TX4) (N := 2) hx hb ht inA_X4 hown hK hP 0 rfl rfl 0 (by decide) (ht _ lf_X4_13) (fun _ h9 => h9) rfl dX4_add_12 ?_
  refine va_alen (v := nI cap) hx hb hK hP 1 0 rfl rfl rfl dX4_add_15 ?_
  refine lv_icmp_ge (tgt := 39) hx hb dX4_add_16 (by decide) (fun c9 => absurd c9 (nI_ge hkc hcap)) (fun c_2 => ?_)
  refine lv_aload_n hx hb dX4_add_19 rfl (lv_at hl 0 rfl) ?_
  refine va_get (D := D) (ci := 4) (v := .ref oA) (C := RX4) (T := TX4) (N := 2) hx hb ht inA_X4 hown hK hP 0 rfl rfl 0 (by decide) (ht _ lf_X4_13) (fun _ h9 => h9) rfl dX4_add_20 ?_
  refine lv_aload_n hx hb dX4_add_23 rfl (lv_at hl 0 rfl) ?_
  refine va_get (D := D) (ci := 4) (v := .int (nI k)) (C := RX4) (T := TX4) (N := 2) hx hb ht inA_X4 hown hK hP 0 rfl rfl 1 (by decide) (ht _ lf_X4_19) (fun _ h9 => h9) rfl dX4_add_24 ?_
  refine lv_iload_n hx hb dX4_add_27 rfl (lv_at hl 1 rfl) ?_
  refine va_iast hx hb hK hP hD hS 1 0 rfl rfl (vp_in_nI hkc hcap) dX4_add_28 (fun H locs hP hD hS => ?_)
  have hP : va_P D vwCl [(o, .inr (4, [.ref oA, .int (nI k)])), (oA, .inl (K, cap, .inl (upd f ((nI k).toNatClampNeg) v)))] H := hP
  have hD : va_D A [(o, .inr (4, [.ref oA, .int (nI k)])), (oA, .inl (K, cap, .inl (upd f ((nI k).toNatClampNeg) v)))] := hD
  have hf9 : upd f ((nI k).toNatClampNeg) v = (upd f k v) := by rw [nI_clamp (by omega)]
  rw [hf9] at hP hD
  have hP : va_P D vwCl [(o, .inr (4, [.ref oA, .int (nI k)])), (oA, .inl (K, cap, .inl (upd f k v)))] H := hP
  have hD : va_D A [(o, .inr (4, [.ref oA, .int (nI k)])), (oA, .inl (K, cap, .inl (upd f k v)))] := hD
  refine lv_aload_n hx hb dX4_add_29 rfl (lv_at hl 0 rfl) ?_
  refine lv_dup hx hb dX4_add_30 rfl ?_
  refine va_get (D := D) (ci := 4) (v := .int (nI k)) (C := RX4) (T := TX4) (N := 2) hx hb ht inA_X4 hown hK hP 0 rfl rfl 1 (by decide) (ht _ lf_X4_19) (fun _ h9 => h9) rfl dX4_add_31 ?_
  refine lv_iconst (v := 1) hx hb dX4_add_34 (by decide) ?_
  refine lv_iadd hx hb dX4_add_35 ?_
  refine k_nrm (y := (nI (k + 1))) (nI_1 k) ?_
  refine va_put (D := D) (ci := 4) (v := .int (nI (k + 1))) (ty := .int) (C := RX4) (T := TX4) (N := 2) hx hb ht inA_X4 tyX4 tyX4_ok nmX4 hown hK hP hD hS 0 rfl rfl 1 (by decide) (ht _ lf_X4_19) (fun _ h9 => h9) rfl (tyX4_ok 1 (by decide)) rfl rfl (Nat.le_of_ble_eq_true rfl) dX4_add_36 (fun H locs hP hD hS => ?_)
  have hP : va_P D vwCl [(o, .inr (4, [.ref oA, .int (nI (k + 1))])), (oA, .inl (K, cap, .inl (upd f k v)))] H := hP
  have hD : va_D A [(o, .inr (4, [.ref oA, .int (nI (k + 1))])), (oA, .inl (K, cap, .inl (upd f k v)))] := hD
  have hP9 : va_P D vwCl [(o, .inr (4, [.ref oA, .int (nI (k + 1))])), (oA, .inl (K, cap, .inl (upd f k v)))] H := hP.sub [0, 1] rfl
  have hD9 : va_D A [(o, .inr (4, [.ref oA, .int (nI (k + 1))])), (oA, .inl (K, cap, .inl (upd f k v)))] := hD.sub [0, 1] (by decide) rfl
  have hK9 : va_K D vwCl [] s := hK.sub [] rfl
  exact W.vret hx hb hr (fun t ht9 hW9 => ⟨⟨(), rfl, by first | rfl | trivial | (simp only [c_1, c_2, if_true, if_false, reduceIte, and_self]; done) | simp_all, ⟨by rw [ht9]; exact hP9, va_K.moved hW9.alike hK9, hD9⟩⟩, hS.F ht9⟩) hS.2.2 dX4_add_39
set_option maxHeartbeats 4000000 in
set_option maxRecDepth 100000 in
theorem c_Row_clear (l : Launch) (D : va_G) (o : Nat) (oA : Nat) (n : Int32) (sz : Nat) : k_Mv (S := Unit) l D yX4_clear cX4_clear 1 none 0 0 0 0 [.ref o] [(o, .inr (4, [.ref oA, .int n]))] [] (fun (_ : Unit) => True) (fun _ => [(o, .inr (4, [.ref oA, .int (nI 0)]))]) (fun _ => []) sz := by
  refine Met.ofW (cc := cX4_clear) (maxL := 1) (ret := none) (by decide) rfl ?_
  intro p e s m args below meth c s₁ B hml hv
  obtain ⟨rfl, hsz, hP, hK, hD0, hG⟩ := hv
  have hx := B.exec
  have hb := B.bytes
  have hr := B.returns
  have ht : ∀ v9 ∈ wsA, v9.before ([.ref o] : List Value).toArray s = true := fun v9 h9 => atoms_spec (ws := k_ws yX4_clear cX4_clear 1 none) B.pre v9 (List.mem_cons_of_mem _ h9)
  have hown : s.vm.findClass RX4 = some m.cls := findClass_of_methodNamed B.named
  have S0 : k_C p s m ([.ref o] : List Value).toArray c cX4_clear 1 RX4 := ⟨hx, hb, hml, hown, ht⟩
  have hlocks := B.notSynchronized
  subst hsz
  have hD := hD0.self (sz := s.heap.size)
  generalize hAe : va_A [(o, .inr (4, [.ref oA, .int n]))] s.heap.size = A at hD hG ⊢
  have hA : ∀ q : Nat, s.heap.size ≤ q → A q := fun q h => by rw [← hAe]; exact Or.inr h
  have hS : va_S A s.heap s.heap [] := va_S.rf
  have hl := lv_entry ([.ref o]) (n := 1) (Nat.le_of_ble_eq_true rfl)
  rw [lg_entry_eq]
  generalize (lg_sl ([.ref o]) ++ List.replicate (1 - (lg_sl ([.ref o])).length) Slot.unset).toArray = ls at hl ⊢
  have hl : lv_has ls 1 [(0, .ref o)] := hl
  have hP : va_P D vwCl [(o, .inr (4, [.ref oA, .int n]))] s.heap := hP
  refine lv_aload_n hx hb dX4_clear_0 rfl (lv_at hl 0 rfl) ?_
  refine lv_iconst (v := 0) hx hb dX4_clear_1 (by decide) ?_
  refine va_put (D := D) (ci := 4) (v := .int 0) (ty := .int) (C := RX4) (T := TX4) (N := 2) hx hb ht inA_X4 tyX4 tyX4_ok nmX4 hown hK hP hD hS 0 rfl rfl 1 (by decide) (ht _ lf_X4_19) (fun _ h9 => h9) rfl (tyX4_ok 1 (by decide)) rfl rfl (Nat.le_of_ble_eq_true rfl) dX4_clear_2 (fun H locs hP hD hS => ?_)
  have hP : va_P D vwCl [(o, .inr (4, [.ref oA, .int 0]))] H := hP
  have hD : va_D A [(o, .inr (4, [.ref oA, .int 0]))] := hD
  have hf_1 : (0 : Int32) = (nI 0) := by first | rfl | (simp only [if_true, if_false, reduceIte]; done)
  have hP : va_P D vwCl [(o, .inr (4, [.ref oA, .int (nI 0)]))] H := (congrArg (fun z9 : Int32 => va_P D vwCl [(o, .inr (4, [.ref oA, .int z9]))] H) hf_1).mp hP
  have hD : va_D A [(o, .inr (4, [.ref oA, .int (nI 0)]))] := (congrArg (fun z9 : Int32 => va_D A [(o, .inr (4, [.ref oA, .int z9]))]) hf_1).mp hD
  have hP9 : va_P D vwCl [(o, .inr (4, [.ref oA, .int (nI 0)]))] H := hP.sub [0] rfl
  have hD9 : va_D A [(o, .inr (4, [.ref oA, .int (nI 0)]))] := hD.sub [0] (by decide) rfl
  have hK9 : va_K D vwCl [] s := hK.sub [] rfl
  exact W.vret hx hb hr (fun t ht9 hW9 => ⟨⟨(), rfl, by first | rfl | trivial | (simp only [if_true, if_false, reduceIte, and_self]; done) | simp_all, ⟨by rw [ht9]; exact hP9, va_K.moved hW9.alike hK9, hD9⟩⟩, hS.F ht9⟩) hS.2.2 dX4_clear_5
set_option maxHeartbeats 4000000 in
set_option maxRecDepth 100000 in
theorem c_Row_fill (l : Launch) (D : va_G) (o : Nat) (oA : Nat) (n : Int32) (K : ClassId) (cap : Nat) (f : Nat → Int32) (z : Int32) (k : Nat) (hcap : cap < 2 ^ 31) (hz : z = nI k) (hk : k ≤ cap) (sz : Nat) : k_Mv (S := Unit) l D yX4_fillWithZeros cX4_fillWithZeros 3 none 1 0 0 21 [.ref o, .int z] [(o, .inr (4, [.ref oA, .int n])), (oA, .inl (K, cap, .inl f))] [(K, .int)] (fun (_ : Unit) => True) (fun _ => [(o, .inr (4, [.ref oA, .int (nI k)])), (oA, .inl (K, cap, .inl (zrf f k)))]) (fun _ => []) sz := by
  refine Met.ofW (cc := cX4_fillWithZeros) (maxL := 3) (ret := none) (by decide) rfl ?_
  intro p e s m args below meth c s₁ B hml hv
  obtain ⟨rfl, hsz, hP, hK, hD0, hG⟩ := hv
  have hx := B.exec
  have hb := B.bytes
  have hr := B.returns
  have ht : ∀ v9 ∈ wsA, v9.before ([.ref o, .int z] : List Value).toArray s = true := fun v9 h9 => atoms_spec (ws := k_ws yX4_fillWithZeros cX4_fillWithZeros 3 none) B.pre v9 (List.mem_cons_of_mem _ h9)
  have hown : s.vm.findClass RX4 = some m.cls := findClass_of_methodNamed B.named
  have S0 : k_C p s m ([.ref o, .int z] : List Value).toArray c cX4_fillWithZeros 3 RX4 := ⟨hx, hb, hml, hown, ht⟩
  have hlocks := B.notSynchronized
  subst hsz
  have hD := hD0.self (sz := s.heap.size)
  generalize hAe : va_A [(o, .inr (4, [.ref oA, .int n])), (oA, .inl (K, cap, .inl f))] s.heap.size = A at hD hG ⊢
  have hA : ∀ q : Nat, s.heap.size ≤ q → A q := fun q h => by rw [← hAe]; exact Or.inr h
  have hS : va_S A s.heap s.heap [] := va_S.rf
  have hl := lv_entry ([.ref o, .int z]) (n := 3) (Nat.le_of_ble_eq_true rfl)
  rw [lg_entry_eq]
  generalize (lg_sl ([.ref o, .int z]) ++ List.replicate (3 - (lg_sl ([.ref o, .int z])).length) Slot.unset).toArray = ls at hl ⊢
  have hl : lv_has ls 3 [(0, .ref o), (1, .int z)] := hl
  have hP : va_P D vwCl [(o, .inr (4, [.ref oA, .int n])), (oA, .inl (K, cap, .inl f))] s.heap := hP
  refine lv_aload_n hx hb dX4_fillWithZeros_0 rfl (lv_at hl 0 rfl) ?_
  have ct := k_cut_of (wc := [(o, .inr (4, [.ref oA, .int n]))]) (wr := [(oA, .inl (K, cap, .inl f))]) (tc := []) hG hS hA hK hP hD [0] [1] [] rfl rfl (by decide) (by decide) (by decide) rfl
  refine k_endv (As := [.ref o]) ct (k_runV (As := []) (rest := []) S0 Lv_X4_23 rfl (ci := 4) (q0 := 0) rfl rfl ct (c_Row_clear l D o oA n s.heap.size) hl.1 rfl (Nat.le_of_ble_eq_true rfl) rfl dX4_fillWithZeros_1 ⟨⟨Nat.le_of_ble_eq_true rfl, Nat.le_of_ble_eq_true rfl⟩, Nat.le_of_ble_eq_true rfl, Nat.le_of_ble_eq_true rfl⟩) rfl rfl (fun _ _ H locs hw_2 hP hD hK hS => ?_)
  have hK : va_K D vwCl [(K, .int)] s := hK
  have hP : va_P D vwCl [(oA, .inl (K, cap, .inl f)), (o, .inr (4, [.ref oA, .int (nI 0)]))] H := hP
  have hD : va_D A [(oA, .inl (K, cap, .inl f)), (o, .inr (4, [.ref oA, .int (nI 0)]))] := hD
  refine lv_iconst (v := 0) hx hb dX4_fillWithZeros_4 (by decide) ?_
  refine lv_istore_n (lv' := [(2, .int 0), (0, .ref o), (1, .int z)]) hx hb dX4_fillWithZeros_5 rfl hl (by decide) rfl (fun ls hl => ?_)
  have hf_3 : (f : Nat → Int32) = (zrf f 0) := (zrf_0 f).symm
  have hP : va_P D vwCl [(oA, .inl (K, cap, .inl (zrf f 0))), (o, .inr (4, [.ref oA, .int (nI 0)]))] H := (congrArg (fun z9 : Nat → Int32 => va_P D vwCl [(oA, .inl (K, cap, .inl z9)), (o, .inr (4, [.ref oA, .int (nI 0)]))] H) hf_3).mp hP
  have hD : va_D A [(oA, .inl (K, cap, .inl (zrf f 0))), (o, .inr (4, [.ref oA, .int (nI 0)]))] := (congrArg (fun z9 : Nat → Int32 => va_D A [(oA, .inl (K, cap, .inl z9)), (o, .inr (4, [.ref oA, .int (nI 0)]))]) hf_3).mp hD
  have hl : lv_has ls 3 [(2, .int (nI 0)), (0, .ref o), (1, .int z)] := hl
  have he9 : z = (nI k) := hz
  rw [he9] at hl
  have hl : lv_has ls 3 [(2, .int (nI 0)), (0, .ref o), (1, .int (nI k))] := hl
  refine k_loop (ι := Nat) (fun (i : Nat) H9 locs9 ls9 => (i ≤ k) ∧ va_P D vwCl [(o, .inr (4, [.ref oA, .int (nI i)])), (oA, .inl (K, cap, .inl (zrf f i)))] H9 ∧ va_D A [(o, .inr (4, [.ref oA, .int (nI i)])), (oA, .inl (K, cap, .inl (zrf f i)))] ∧ va_S A s.heap H9 locs9 ∧ lv_has ls9 3 [(2, .int (nI i)), (0, .ref o), (1, .int (nI k))]) (fun (i : Nat) => k - i) ?_ (0) ⟨(Nat.zero_le _), hP.sub [1, 0] rfl, hD.sub [1, 0] (by decide) rfl, hS, lv_sub hl [0, 1, 2] rfl⟩
  intro x9 H locs ls hF9 ih9
  obtain ⟨i, hv9⟩ : ∃ z, z = x9 := ⟨_, rfl⟩
  subst hv9
  obtain ⟨hi, hP, hD, hS, hl⟩ := hF9
  try dsimp only at ih9
  have hP : va_P D vwCl [(o, .inr (4, [.ref oA, .int (nI i)])), (oA, .inl (K, cap, .inl (zrf f i)))] H := hP
  have hD : va_D A [(o, .inr (4, [.ref oA, .int (nI i)])), (oA, .inl (K, cap, .inl (zrf f i)))] := hD
  have hl : lv_has ls 3 [(2, .int (nI i)), (0, .ref o), (1, .int (nI k))] := hl
  refine lv_iload_n hx hb dX4_fillWithZeros_6 rfl (lv_at hl 0 rfl) ?_
  refine lv_iload_n hx hb dX4_fillWithZeros_7 rfl (lv_at hl 2 rfl) ?_
  refine lv_icmp_ge (tgt := 22) hx hb dX4_fillWithZeros_8 (by decide) (fun c_4 => ?_) (fun c_4 => ?_)
  · have hc9 := c_4
    obtain rfl : k = i := by rcases Nat.lt_or_ge i k with q9 | q9; exact absurd c_4 (nI_ge q9 (by omega)); omega
    have hP9 : va_P D vwCl [(o, .inr (4, [.ref oA, .int (nI k)])), (oA, .inl (K, cap, .inl (zrf f k)))] H := hP.sub [0, 1] rfl
    have hD9 : va_D A [(o, .inr (4, [.ref oA, .int (nI k)])), (oA, .inl (K, cap, .inl (zrf f k)))] := hD.sub [0, 1] (by decide) rfl
    have hK9 : va_K D vwCl [] s := hK.sub [] rfl
    exact W.vret hx hb hr (fun t ht9 hW9 => ⟨⟨(), rfl, by first | rfl | trivial | (simp only [hi, c_4, if_true, if_false, reduceIte, and_self]; done) | simp_all, ⟨by rw [ht9]; exact hP9, va_K.moved hW9.alike hK9, hD9⟩⟩, hS.F ht9⟩) hS.2.2 dX4_fillWithZeros_22
  · have hc9 := c_4
    have hik : i + 1 ≤ k := by rcases Nat.lt_or_ge i k with q9 | q9; exact q9; exact absurd (nI_le q9 (by omega)) c_4
    refine lv_aload_n hx hb dX4_fillWithZeros_11 rfl (lv_at hl 1 rfl) ?_
    refine lv_iconst (v := 0) hx hb dX4_fillWithZeros_12 (by decide) ?_
    have ct := k_cut_of (wc := [(o, .inr (4, [.ref oA, .int (nI i)])), (oA, .inl (K, cap, .inl (zrf f i)))]) (wr := []) (tc := [(K, .int)]) hG hS hA hK hP hD [0, 1] [] [0] rfl rfl (by decide) (by decide) (by decide) rfl
    refine k_endv (As := [.ref o, .int 0]) ct (k_runV (As := [.int 0]) (rest := []) S0 Lv_X4_26 rfl (ci := 4) (q0 := 0) rfl rfl ct (c_Row_add l D o oA i K cap (zrf f i) 0 (by first | assumption | decide) (by omega) H.size) hl.1 rfl (Nat.le_of_ble_eq_true rfl) rfl dX4_fillWithZeros_13 ⟨⟨Nat.le_of_ble_eq_true rfl, Nat.le_of_ble_eq_true rfl⟩, Nat.le_of_ble_eq_true rfl, Nat.le_of_ble_eq_true rfl⟩) rfl rfl (fun _ _ H locs hw_6 hP hD hK hS => ?_)
    have hK : va_K D vwCl [(K, .int)] s := hK
    have hP : va_P D vwCl [(o, .inr (4, [.ref oA, .int (nI (i + 1))])), (oA, .inl (K, cap, .inl (upd (zrf f i) i 0)))] H := hP
    have hD : va_D A [(o, .inr (4, [.ref oA, .int (nI (i + 1))])), (oA, .inl (K, cap, .inl (upd (zrf f i) i 0)))] := hD
    have hf_7 : ((upd (zrf f i) i 0) : Nat → Int32) = (zrf f (i + 1)) := zrf_s f i
    have hP : va_P D vwCl [(o, .inr (4, [.ref oA, .int (nI (i + 1))])), (oA, .inl (K, cap, .inl (zrf f (i + 1))))] H := (congrArg (fun z9 : Nat → Int32 => va_P D vwCl [(o, .inr (4, [.ref oA, .int (nI (i + 1))])), (oA, .inl (K, cap, .inl z9))] H) hf_7).mp hP
    have hD : va_D A [(o, .inr (4, [.ref oA, .int (nI (i + 1))])), (oA, .inl (K, cap, .inl (zrf f (i + 1))))] := (congrArg (fun z9 : Nat → Int32 => va_D A [(o, .inr (4, [.ref oA, .int (nI (i + 1))])), (oA, .inl (K, cap, .inl z9))]) hf_7).mp hD
    obtain ⟨x_8, ex_8⟩ : ∃ z : Int32, z = (nI i) + 1 := ⟨_, rfl⟩
    refine lv_iinc (v := x_8) (lv' := [(2, .int x_8), (0, .ref o), (1, .int (nI k))]) hx hb dX4_fillWithZeros_16 hl (k := 0) rfl (by rw [ex_8]; rfl) (by decide) rfl (fun ls hl => ?_)
    refine lv_goto (tgt := 6) hx hb dX4_fillWithZeros_19 (by decide) ?_
    have he9 : x_8 = (nI (i + 1)) := by rw [ex_8]; exact nI_1 i
    rw [he9] at hl
    have hl : lv_has ls 3 [(2, .int (nI (i + 1))), (0, .ref o), (1, .int (nI k))] := hl
    exact ih9 (i + 1) H locs ls (by omega) ⟨hik, hP.sub [0, 1] rfl, hD.sub [0, 1] (by decide) rfl, hS, lv_sub hl [0, 1, 2] rfl⟩
set_option maxHeartbeats 4000000 in
set_option maxRecDepth 100000 in
theorem c_Row_removeFirst (l : Launch) (D : va_G) (o : Nat) (oA : Nat) (k : Nat) (K : ClassId) (cap : Nat) (f : Nat → Int32) (hcap : cap < 2 ^ 31) (hk1 : 1 ≤ k) (hkc : k ≤ cap) (sz : Nat) : k_Mv (S := Unit) l D yX4_removeFirst cX4_removeFirst 2 none 1 0 0 22 [.ref o] [(o, .inr (4, [.ref oA, .int (nI k)])), (oA, .inl (K, cap, .inl f))] [(K, .int)] (fun (_ : Unit) => True) (fun _ => [(o, .inr (4, [.ref oA, .int (nI (k - 1))])), (oA, .inl (K, cap, .inl (shl f k)))]) (fun _ => []) sz := by
  refine Met.ofW (cc := cX4_removeFirst) (maxL := 2) (ret := none) (by decide) rfl ?_
  intro p e s m args below meth c s₁ B hml hv
  obtain ⟨rfl, hsz, hP, hK, hD0, hG⟩ := hv
  have hx := B.exec
  have hb := B.bytes
  have hr := B.returns
  have ht : ∀ v9 ∈ wsA, v9.before ([.ref o] : List Value).toArray s = true := fun v9 h9 => atoms_spec (ws := k_ws yX4_removeFirst cX4_removeFirst 2 none) B.pre v9 (List.mem_cons_of_mem _ h9)
  have hown : s.vm.findClass RX4 = some m.cls := findClass_of_methodNamed B.named
  have S0 : k_C p s m ([.ref o] : List Value).toArray c cX4_removeFirst 2 RX4 := ⟨hx, hb, hml, hown, ht⟩
  have hlocks := B.notSynchronized
  subst hsz
  have hD := hD0.self (sz := s.heap.size)
  generalize hAe : va_A [(o, .inr (4, [.ref oA, .int (nI k)])), (oA, .inl (K, cap, .inl f))] s.heap.size = A at hD hG ⊢
  have hA : ∀ q : Nat, s.heap.size ≤ q → A q := fun q h => by rw [← hAe]; exact Or.inr h
  have hS : va_S A s.heap s.heap [] := va_S.rf
  have hl := lv_entry ([.ref o]) (n := 2) (Nat.le_of_ble_eq_true rfl)
  rw [lg_entry_eq]
  generalize (lg_sl ([.ref o]) ++ List.replicate (2 - (lg_sl ([.ref o])).length) Slot.unset).toArray = ls at hl ⊢
  have hl : lv_has ls 2 [(0, .ref o)] := hl
  have hP : va_P D vwCl [(o, .inr (4, [.ref oA, .int (nI k)])), (oA, .inl (K, cap, .inl f))] s.heap := hP
  refine lv_iconst (v := 1) hx hb dX4_removeFirst_0 (by decide) ?_
  refine lv_istore_n (lv' := [(1, .int 1), (0, .ref o)]) hx hb dX4_removeFirst_1 rfl hl (by decide) rfl (fun ls hl => ?_)
  have hf_1 : (f : Nat → Int32) = (shl f 1) := (shl_1 f).symm
  have hP : va_P D vwCl [(o, .inr (4, [.ref oA, .int (nI k)])), (oA, .inl (K, cap, .inl (shl f 1)))] s.heap := (congrArg (fun z9 : Nat → Int32 => va_P D vwCl [(o, .inr (4, [.ref oA, .int (nI k)])), (oA, .inl (K, cap, .inl z9))] s.heap) hf_1).mp hP
  have hD : va_D A [(o, .inr (4, [.ref oA, .int (nI k)])), (oA, .inl (K, cap, .inl (shl f 1)))] := (congrArg (fun z9 : Nat → Int32 => va_D A [(o, .inr (4, [.ref oA, .int (nI k)])), (oA, .inl (K, cap, .inl z9))]) hf_1).mp hD
  have hl : lv_has ls 2 [(1, .int (nI 1)), (0, .ref o)] := hl
  refine k_loop (ι := Nat) (fun (i : Nat) H9 locs9 ls9 => (i ≤ k) ∧ (1 ≤ i) ∧ va_P D vwCl [(o, .inr (4, [.ref oA, .int (nI k)])), (oA, .inl (K, cap, .inl (shl f i)))] H9 ∧ va_D A [(o, .inr (4, [.ref oA, .int (nI k)])), (oA, .inl (K, cap, .inl (shl f i)))] ∧ va_S A s.heap H9 locs9 ∧ lv_has ls9 2 [(1, .int (nI i)), (0, .ref o)]) (fun (i : Nat) => k - i) ?_ (1) ⟨hk1, (Nat.le_refl 1), hP.sub [0, 1] rfl, hD.sub [0, 1] (by decide) rfl, hS, lv_sub hl [0, 1] rfl⟩
  intro x9 H locs ls hF9 ih9
  obtain ⟨i, hv9⟩ : ∃ z, z = x9 := ⟨_, rfl⟩
  subst hv9
  obtain ⟨hi, hi1, hP, hD, hS, hl⟩ := hF9
  try dsimp only at ih9
  have hP : va_P D vwCl [(o, .inr (4, [.ref oA, .int (nI k)])), (oA, .inl (K, cap, .inl (shl f i)))] H := hP
  have hD : va_D A [(o, .inr (4, [.ref oA, .int (nI k)])), (oA, .inl (K, cap, .inl (shl f i)))] := hD
  have hl : lv_has ls 2 [(1, .int (nI i)), (0, .ref o)] := hl
  refine lv_iload_n hx hb dX4_removeFirst_2 rfl (lv_at hl 0 rfl) ?_
  refine lv_aload_n hx hb dX4_removeFirst_3 rfl (lv_at hl 1 rfl) ?_
  refine va_get (D := D) (ci := 4) (v := .int (nI k)) (C := RX4) (T := TX4) (N := 2) hx hb ht inA_X4 hown hK hP 0 rfl rfl 1 (by decide) (ht _ lf_X4_19) (fun _ h9 => h9) rfl dX4_removeFirst_4 ?_
  refine lv_icmp_ge (tgt := 28) hx hb dX4_removeFirst_7 (by decide) (fun c_2 => ?_) (fun c_2 => ?_)
  · have hc9 := c_2
    obtain rfl : k = i := by rcases Nat.lt_or_ge i k with q9 | q9; exact absurd c_2 (nI_ge q9 (by omega)); omega
    refine lv_aload_n hx hb dX4_removeFirst_28 rfl (lv_at hl 1 rfl) ?_
    refine lv_aload_n hx hb dX4_removeFirst_29 rfl (lv_at hl 1 rfl) ?_
    refine va_get (D := D) (ci := 4) (v := .int (nI k)) (C := RX4) (T := TX4) (N := 2) hx hb ht inA_X4 hown hK hP 0 rfl rfl 1 (by decide) (ht _ lf_X4_19) (fun _ h9 => h9) rfl dX4_removeFirst_30 ?_
    refine lv_iconst (v := 1) hx hb dX4_removeFirst_33 (by decide) ?_
    refine lv_isub hx hb dX4_removeFirst_34 ?_
    refine k_nrm (y := (nI (k - 1))) (pk_sub (b := 1) hk1) ?_
    refine lv_iconst (v := 0) hx hb dX4_removeFirst_35 (by decide) ?_
    refine va_mmax hx hb (by rw [hml]; exact hl.1.symm) hown (ht _ lM_X4_7) (ht _ lM_st_max) (ht _ li_java_lang_Math) (ht _ lM_code_max) (Nat.le_of_ble_eq_true rfl) (Nat.le_of_ble_eq_true rfl) (Nat.le_of_ble_eq_true rfl) (Nat.le_of_ble_eq_true rfl) dX4_removeFirst_36 ?_
    refine k_nrm (y := (nI (k - 1))) (if_neg (nI_pos (by omega))) ?_
    refine va_put (D := D) (ci := 4) (v := .int (nI (k - 1))) (ty := .int) (C := RX4) (T := TX4) (N := 2) hx hb ht inA_X4 tyX4 tyX4_ok nmX4 hown hK hP hD hS 0 rfl rfl 1 (by decide) (ht _ lf_X4_19) (fun _ h9 => h9) rfl (tyX4_ok 1 (by decide)) rfl rfl (Nat.le_of_ble_eq_true rfl) dX4_removeFirst_39 (fun H locs hP hD hS => ?_)
    have hP : va_P D vwCl [(o, .inr (4, [.ref oA, .int (nI (k - 1))])), (oA, .inl (K, cap, .inl (shl f k)))] H := hP
    have hD : va_D A [(o, .inr (4, [.ref oA, .int (nI (k - 1))])), (oA, .inl (K, cap, .inl (shl f k)))] := hD
    have hP9 : va_P D vwCl [(o, .inr (4, [.ref oA, .int (nI (k - 1))])), (oA, .inl (K, cap, .inl (shl f k)))] H := hP.sub [0, 1] rfl
    have hD9 : va_D A [(o, .inr (4, [.ref oA, .int (nI (k - 1))])), (oA, .inl (K, cap, .inl (shl f k)))] := hD.sub [0, 1] (by decide) rfl
    have hK9 : va_K D vwCl [] s := hK.sub [] rfl
    exact W.vret hx hb hr (fun t ht9 hW9 => ⟨⟨(), rfl, by first | rfl | trivial | (simp only [hi, hi1, c_2, if_true, if_false, reduceIte, and_self]; done) | simp_all, ⟨by rw [ht9]; exact hP9, va_K.moved hW9.alike hK9, hD9⟩⟩, hS.F ht9⟩) hS.2.2 dX4_removeFirst_42
  · have hc9 := c_2
    have hik : i + 1 ≤ k := by rcases Nat.lt_or_ge i k with q9 | q9; exact q9; exact absurd (nI_le q9 (by omega)) c_2
    refine lv_aload_n hx hb dX4_removeFirst_10 rfl (lv_at hl 1 rfl) ?_
    refine lv_iload_n hx hb dX4_removeFirst_11 rfl (lv_at hl 0 rfl) ?_
    refine lv_iconst (v := 1) hx hb dX4_removeFirst_12 (by decide) ?_
    refine lv_isub hx hb dX4_removeFirst_13 ?_
    refine k_nrm (y := (nI (i - 1))) (pk_sub (b := 1) hi1) ?_
    refine lv_aload_n hx hb dX4_removeFirst_14 rfl (lv_at hl 1 rfl) ?_
    refine lv_iload_n hx hb dX4_removeFirst_15 rfl (lv_at hl 0 rfl) ?_
    have ct := k_cut_of (wc := [(o, .inr (4, [.ref oA, .int (nI k)])), (oA, .inl (K, cap, .inl (shl f i)))]) (wr := []) (tc := [(K, .int)]) hG hS hA hK hP hD [0, 1] [] [0] rfl rfl (by decide) (by decide) (by decide) rfl
    refine k_endi (As := [.ref o, .int (nI i)]) ct (k_runV (As := [.int (nI i)]) (rest := [.int (nI (i - 1)), .ref o]) S0 Lv_X4_30 rfl (ci := 4) (q0 := 0) rfl rfl ct (c_Row_at l D o oA (nI k) K cap (shl f i) (nI i) (by first | assumption | decide) H.size) hl.1 rfl (Nat.le_of_ble_eq_true rfl) rfl dX4_removeFirst_16 ⟨⟨Nat.le_of_ble_eq_true rfl, Nat.le_of_ble_eq_true rfl⟩, Nat.le_of_ble_eq_true rfl, Nat.le_of_ble_eq_true rfl⟩) rfl rfl (fun r_3 _ H locs hw_4 hP hD hK hS => ?_)
    have hK : va_K D vwCl [(K, .int)] s := hK
    have hP : va_P D vwCl [(o, .inr (4, [.ref oA, .int (nI k)])), (oA, .inl (K, cap, .inl (shl f i)))] H := hP
    have hD : va_D A [(o, .inr (4, [.ref oA, .int (nI k)])), (oA, .inl (K, cap, .inl (shl f i)))] := hD
    have hw_4 : r_3 = (rowAt cap (nI k) (shl f i) (nI i)) := hw_4
    have hw_4 := hw_4.symm
    subst hw_4
    refine k_nrm (y := (rowAt cap (nI k) (shl f i) (nI i))) rfl ?_
    have ct := k_cut_of (wc := [(o, .inr (4, [.ref oA, .int (nI k)])), (oA, .inl (K, cap, .inl (shl f i)))]) (wr := []) (tc := [(K, .int)]) hG hS hA hK hP hD [0, 1] [] [0] rfl rfl (by decide) (by decide) (by decide) rfl
    refine k_endv (As := [.ref o, .int (nI (i - 1)), .int (rowAt cap (nI k) (shl f i) (nI i))]) ct (k_runV (As := [.int (nI (i - 1)), .int (rowAt cap (nI k) (shl f i) (nI i))]) (rest := []) S0 Lv_X4_34 rfl (ci := 4) (q0 := 0) rfl rfl ct (c_Row_put l D o oA (nI k) K cap (shl f i) (nI (i - 1)) (rowAt cap (nI k) (shl f i) (nI i)) (by first | assumption | decide) H.size) hl.1 rfl (Nat.le_of_ble_eq_true rfl) rfl dX4_removeFirst_19 ⟨⟨Nat.le_of_ble_eq_true rfl, Nat.le_of_ble_eq_true rfl⟩, Nat.le_of_ble_eq_true rfl, Nat.le_of_ble_eq_true rfl⟩) rfl rfl (fun _ _ H locs hw_6 hP hD hK hS => ?_)
    have hK : va_K D vwCl [(K, .int)] s := hK
    have hP : va_P D vwCl [(o, .inr (4, [.ref oA, .int (nI k)])), (oA, .inl (K, cap, .inl (rowPut cap (nI k) (shl f i) (nI (i - 1)) (rowAt cap (nI k) (shl f i) (nI i)))))] H := hP
    have hD : va_D A [(o, .inr (4, [.ref oA, .int (nI k)])), (oA, .inl (K, cap, .inl (rowPut cap (nI k) (shl f i) (nI (i - 1)) (rowAt cap (nI k) (shl f i) (nI i)))))] := hD
    have hf_7 : ((rowPut cap (nI k) (shl f i) (nI (i - 1)) (rowAt cap (nI k) (shl f i) (nI i))) : Nat → Int32) = (shl f (i + 1)) := by rw [rowAt_lt (by omega) hkc hcap, rowPut_lt (by omega) hkc hcap, shl_at]; exact shl_s hi1
    have hP : va_P D vwCl [(o, .inr (4, [.ref oA, .int (nI k)])), (oA, .inl (K, cap, .inl (shl f (i + 1))))] H := (congrArg (fun z9 : Nat → Int32 => va_P D vwCl [(o, .inr (4, [.ref oA, .int (nI k)])), (oA, .inl (K, cap, .inl z9))] H) hf_7).mp hP
    have hD : va_D A [(o, .inr (4, [.ref oA, .int (nI k)])), (oA, .inl (K, cap, .inl (shl f (i + 1))))] := (congrArg (fun z9 : Nat → Int32 => va_D A [(o, .inr (4, [.ref oA, .int (nI k)])), (oA, .inl (K, cap, .inl z9))]) hf_7).mp hD
    obtain ⟨x_8, ex_8⟩ : ∃ z : Int32, z = (nI i) + 1 := ⟨_, rfl⟩
    refine lv_iinc (v := x_8) (lv' := [(1, .int x_8), (0, .ref o)]) hx hb dX4_removeFirst_22 hl (k := 0) rfl (by rw [ex_8]; rfl) (by decide) rfl (fun ls hl => ?_)
    refine lv_goto (tgt := 2) hx hb dX4_removeFirst_25 (by decide) ?_
    have he9 : x_8 = (nI (i + 1)) := by rw [ex_8]; exact nI_1 i
    rw [he9] at hl
    have hl : lv_has ls 2 [(1, .int (nI (i + 1))), (0, .ref o)] := hl
    exact ih9 (i + 1) H locs ls (by omega) ⟨hik, (by omega), hP.sub [0, 1] rfl, hD.sub [0, 1] (by decide) rfl, hS, lv_sub hl [0, 1] rfl⟩
set_option maxHeartbeats 4000000 in
set_option maxRecDepth 100000 in
theorem c_Row_copyFrom (l : Launch) (D : va_G) (o : Nat) (oA : Nat) (n : Int32) (K : ClassId) (cap : Nat) (f : Nat → Int32) (g : Nat) (gA : Nat) (k2 : Nat) (cap2 : Nat) (gf : Nat → Int32) (hcap : cap < 2 ^ 31) (hcap2 : cap2 < 2 ^ 31) (hk2 : k2 ≤ cap2) (hkc : k2 ≤ cap) (sz : Nat) : k_Mv (S := Unit) l D yX4_copyFrom cX4_copyFrom 3 none 1 0 0 21 [.ref o, .ref g] [(o, .inr (4, [.ref oA, .int n])), (oA, .inl (K, cap, .inl f)), (g, .inr (4, [.ref gA, .int (nI k2)])), (gA, .inl (K, cap2, .inl gf))] [(K, .int)] (fun (_ : Unit) => True) (fun _ => [(o, .inr (4, [.ref oA, .int (nI k2)])), (oA, .inl (K, cap, .inl (cpy gf f k2))), (g, .inr (4, [.ref gA, .int (nI k2)])), (gA, .inl (K, cap2, .inl gf))]) (fun _ => []) sz := by
  refine Met.ofW (cc := cX4_copyFrom) (maxL := 3) (ret := none) (by decide) rfl ?_
  intro p e s m args below meth c s₁ B hml hv
  obtain ⟨rfl, hsz, hP, hK, hD0, hG⟩ := hv
  have hx := B.exec
  have hb := B.bytes
  have hr := B.returns
  have ht : ∀ v9 ∈ wsA, v9.before ([.ref o, .ref g] : List Value).toArray s = true := fun v9 h9 => atoms_spec (ws := k_ws yX4_copyFrom cX4_copyFrom 3 none) B.pre v9 (List.mem_cons_of_mem _ h9)
  have hown : s.vm.findClass RX4 = some m.cls := findClass_of_methodNamed B.named
  have S0 : k_C p s m ([.ref o, .ref g] : List Value).toArray c cX4_copyFrom 3 RX4 := ⟨hx, hb, hml, hown, ht⟩
  have hlocks := B.notSynchronized
  subst hsz
  have hD := hD0.self (sz := s.heap.size)
  generalize hAe : va_A [(o, .inr (4, [.ref oA, .int n])), (oA, .inl (K, cap, .inl f)), (g, .inr (4, [.ref gA, .int (nI k2)])), (gA, .inl (K, cap2, .inl gf))] s.heap.size = A at hD hG ⊢
  have hA : ∀ q : Nat, s.heap.size ≤ q → A q := fun q h => by rw [← hAe]; exact Or.inr h
  have hS : va_S A s.heap s.heap [] := va_S.rf
  have hl := lv_entry ([.ref o, .ref g]) (n := 3) (Nat.le_of_ble_eq_true rfl)
  rw [lg_entry_eq]
  generalize (lg_sl ([.ref o, .ref g]) ++ List.replicate (3 - (lg_sl ([.ref o, .ref g])).length) Slot.unset).toArray = ls at hl ⊢
  have hl : lv_has ls 3 [(0, .ref o), (1, .ref g)] := hl
  have hP : va_P D vwCl [(o, .inr (4, [.ref oA, .int n])), (oA, .inl (K, cap, .inl f)), (g, .inr (4, [.ref gA, .int (nI k2)])), (gA, .inl (K, cap2, .inl gf))] s.heap := hP
  refine lv_aload_n hx hb dX4_copyFrom_0 rfl (lv_at hl 0 rfl) ?_
  have ct := k_cut_of (wc := [(o, .inr (4, [.ref oA, .int n]))]) (wr := [(oA, .inl (K, cap, .inl f)), (g, .inr (4, [.ref gA, .int (nI k2)])), (gA, .inl (K, cap2, .inl gf))]) (tc := []) hG hS hA hK hP hD [0] [1, 2, 3] [] rfl rfl (by decide) (by decide) (by decide) rfl
  refine k_endv (As := [.ref o]) ct (k_runV (As := []) (rest := []) S0 Lv_X4_23 rfl (ci := 4) (q0 := 0) rfl rfl ct (c_Row_clear l D o oA n s.heap.size) hl.1 rfl (Nat.le_of_ble_eq_true rfl) rfl dX4_copyFrom_1 ⟨⟨Nat.le_of_ble_eq_true rfl, Nat.le_of_ble_eq_true rfl⟩, Nat.le_of_ble_eq_true rfl, Nat.le_of_ble_eq_true rfl⟩) rfl rfl (fun _ _ H locs hw_2 hP hD hK hS => ?_)
  have hK : va_K D vwCl [(K, .int)] s := hK
  have hP : va_P D vwCl [(oA, .inl (K, cap, .inl f)), (g, .inr (4, [.ref gA, .int (nI k2)])), (gA, .inl (K, cap2, .inl gf)), (o, .inr (4, [.ref oA, .int (nI 0)]))] H := hP
  have hD : va_D A [(oA, .inl (K, cap, .inl f)), (g, .inr (4, [.ref gA, .int (nI k2)])), (gA, .inl (K, cap2, .inl gf)), (o, .inr (4, [.ref oA, .int (nI 0)]))] := hD
  refine lv_iconst (v := 0) hx hb dX4_copyFrom_4 (by decide) ?_
  refine lv_istore_n (lv' := [(2, .int 0), (0, .ref o), (1, .ref g)]) hx hb dX4_copyFrom_5 rfl hl (by decide) rfl (fun ls hl => ?_)
  have hf_3 : (f : Nat → Int32) = (cpy gf f 0) := (cpy_0 gf f).symm
  have hP : va_P D vwCl [(oA, .inl (K, cap, .inl (cpy gf f 0))), (g, .inr (4, [.ref gA, .int (nI k2)])), (gA, .inl (K, cap2, .inl gf)), (o, .inr (4, [.ref oA, .int (nI 0)]))] H := (congrArg (fun z9 : Nat → Int32 => va_P D vwCl [(oA, .inl (K, cap, .inl z9)), (g, .inr (4, [.ref gA, .int (nI k2)])), (gA, .inl (K, cap2, .inl gf)), (o, .inr (4, [.ref oA, .int (nI 0)]))] H) hf_3).mp hP
  have hD : va_D A [(oA, .inl (K, cap, .inl (cpy gf f 0))), (g, .inr (4, [.ref gA, .int (nI k2)])), (gA, .inl (K, cap2, .inl gf)), (o, .inr (4, [.ref oA, .int (nI 0)]))] := (congrArg (fun z9 : Nat → Int32 => va_D A [(oA, .inl (K, cap, .inl z9)), (g, .inr (4, [.ref gA, .int (nI k2)])), (gA, .inl (K, cap2, .inl gf)), (o, .inr (4, [.ref oA, .int (nI 0)]))]) hf_3).mp hD
  have hl : lv_has ls 3 [(2, .int (nI 0)), (0, .ref o), (1, .ref g)] := hl
  refine k_loop (ι := Nat) (fun (i : Nat) H9 locs9 ls9 => (i ≤ k2) ∧ va_P D vwCl [(o, .inr (4, [.ref oA, .int (nI i)])), (oA, .inl (K, cap, .inl (cpy gf f i))), (g, .inr (4, [.ref gA, .int (nI k2)])), (gA, .inl (K, cap2, .inl gf))] H9 ∧ va_D A [(o, .inr (4, [.ref oA, .int (nI i)])), (oA, .inl (K, cap, .inl (cpy gf f i))), (g, .inr (4, [.ref gA, .int (nI k2)])), (gA, .inl (K, cap2, .inl gf))] ∧ va_S A s.heap H9 locs9 ∧ lv_has ls9 3 [(2, .int (nI i)), (0, .ref o), (1, .ref g)]) (fun (i : Nat) => k2 - i) ?_ (0) ⟨(Nat.zero_le _), hP.sub [3, 0, 1, 2] rfl, hD.sub [3, 0, 1, 2] (by decide) rfl, hS, lv_sub hl [0, 1, 2] rfl⟩
  intro x9 H locs ls hF9 ih9
  obtain ⟨i, hv9⟩ : ∃ z, z = x9 := ⟨_, rfl⟩
  subst hv9
  obtain ⟨hi, hP, hD, hS, hl⟩ := hF9
  try dsimp only at ih9
  have hP : va_P D vwCl [(o, .inr (4, [.ref oA, .int (nI i)])), (oA, .inl (K, cap, .inl (cpy gf f i))), (g, .inr (4, [.ref gA, .int (nI k2)])), (gA, .inl (K, cap2, .inl gf))] H := hP
  have hD : va_D A [(o, .inr (4, [.ref oA, .int (nI i)])), (oA, .inl (K, cap, .inl (cpy gf f i))), (g, .inr (4, [.ref gA, .int (nI k2)])), (gA, .inl (K, cap2, .inl gf))] := hD
  have hl : lv_has ls 3 [(2, .int (nI i)), (0, .ref o), (1, .ref g)] := hl
  refine lv_iload_n hx hb dX4_copyFrom_6 rfl (lv_at hl 0 rfl) ?_
  refine lv_aload_n hx hb dX4_copyFrom_7 rfl (lv_at hl 2 rfl) ?_
  refine va_get (D := D) (ci := 4) (v := .int (nI k2)) (C := RX4) (T := TX4) (N := 2) hx hb ht inA_X4 hown hK hP 2 rfl rfl 1 (by decide) (ht _ lf_X4_19) (fun _ h9 => h9) rfl dX4_copyFrom_8 ?_
  refine lv_icmp_ge (tgt := 29) hx hb dX4_copyFrom_11 (by decide) (fun c_4 => ?_) (fun c_4 => ?_)
  · have hc9 := c_4
    obtain rfl : k2 = i := by rcases Nat.lt_or_ge i k2 with q9 | q9; exact absurd c_4 (nI_ge q9 (by omega)); omega
    have hP9 : va_P D vwCl [(o, .inr (4, [.ref oA, .int (nI k2)])), (oA, .inl (K, cap, .inl (cpy gf f k2))), (g, .inr (4, [.ref gA, .int (nI k2)])), (gA, .inl (K, cap2, .inl gf))] H := hP.sub [0, 1, 2, 3] rfl
    have hD9 : va_D A [(o, .inr (4, [.ref oA, .int (nI k2)])), (oA, .inl (K, cap, .inl (cpy gf f k2))), (g, .inr (4, [.ref gA, .int (nI k2)])), (gA, .inl (K, cap2, .inl gf))] := hD.sub [0, 1, 2, 3] (by decide) rfl
    have hK9 : va_K D vwCl [] s := hK.sub [] rfl
    exact W.vret hx hb hr (fun t ht9 hW9 => ⟨⟨(), rfl, by first | rfl | trivial | (simp only [hi, c_4, if_true, if_false, reduceIte, and_self]; done) | simp_all, ⟨by rw [ht9]; exact hP9, va_K.moved hW9.alike hK9, hD9⟩⟩, hS.F ht9⟩) hS.2.2 dX4_copyFrom_29
  · have hc9 := c_4
    have hik : i + 1 ≤ k2 := by rcases Nat.lt_or_ge i k2 with q9 | q9; exact q9; exact absurd (nI_le q9 (by omega)) c_4
    refine lv_aload_n hx hb dX4_copyFrom_14 rfl (lv_at hl 1 rfl) ?_
    refine lv_aload_n hx hb dX4_copyFrom_15 rfl (lv_at hl 2 rfl) ?_
    refine lv_iload_n hx hb dX4_copyFrom_16 rfl (lv_at hl 0 rfl) ?_
    have ct := k_cut_of (wc := [(g, .inr (4, [.ref gA, .int (nI k2)])), (gA, .inl (K, cap2, .inl gf))]) (wr := [(o, .inr (4, [.ref oA, .int (nI i)])), (oA, .inl (K, cap, .inl (cpy gf f i)))]) (tc := [(K, .int)]) hG hS hA hK hP hD [2, 3] [0, 1] [0] rfl rfl (by decide) (by decide) (by decide) rfl
    refine k_endi (As := [.ref g, .int (nI i)]) ct (k_runV (As := [.int (nI i)]) (rest := [.ref o]) S0 Lv_X4_30 rfl (ci := 4) (q0 := 0) rfl rfl ct (c_Row_at l D g gA (nI k2) K cap2 gf (nI i) (by first | assumption | decide) H.size) hl.1 rfl (Nat.le_of_ble_eq_true rfl) rfl dX4_copyFrom_17 ⟨⟨Nat.le_of_ble_eq_true rfl, Nat.le_of_ble_eq_true rfl⟩, Nat.le_of_ble_eq_true rfl, Nat.le_of_ble_eq_true rfl⟩) rfl rfl (fun r_5 _ H locs hw_6 hP hD hK hS => ?_)
    have hK : va_K D vwCl [(K, .int)] s := hK
    have hP : va_P D vwCl [(o, .inr (4, [.ref oA, .int (nI i)])), (oA, .inl (K, cap, .inl (cpy gf f i))), (g, .inr (4, [.ref gA, .int (nI k2)])), (gA, .inl (K, cap2, .inl gf))] H := hP
    have hD : va_D A [(o, .inr (4, [.ref oA, .int (nI i)])), (oA, .inl (K, cap, .inl (cpy gf f i))), (g, .inr (4, [.ref gA, .int (nI k2)])), (gA, .inl (K, cap2, .inl gf))] := hD
    have hw_6 : r_5 = (rowAt cap2 (nI k2) gf (nI i)) := hw_6
    have hw_6 := hw_6.symm
    subst hw_6
    refine k_nrm (y := (rowAt cap2 (nI k2) gf (nI i))) rfl ?_
    have ct := k_cut_of (wc := [(o, .inr (4, [.ref oA, .int (nI i)])), (oA, .inl (K, cap, .inl (cpy gf f i)))]) (wr := [(g, .inr (4, [.ref gA, .int (nI k2)])), (gA, .inl (K, cap2, .inl gf))]) (tc := [(K, .int)]) hG hS hA hK hP hD [0, 1] [2, 3] [0] rfl rfl (by decide) (by decide) (by decide) rfl
    refine k_endv (As := [.ref o, .int (rowAt cap2 (nI k2) gf (nI i))]) ct (k_runV (As := [.int (rowAt cap2 (nI k2) gf (nI i))]) (rest := []) S0 Lv_X4_26 rfl (ci := 4) (q0 := 0) rfl rfl ct (c_Row_add l D o oA i K cap (cpy gf f i) (rowAt cap2 (nI k2) gf (nI i)) (by first | assumption | decide) (by omega) H.size) hl.1 rfl (Nat.le_of_ble_eq_true rfl) rfl dX4_copyFrom_20 ⟨⟨Nat.le_of_ble_eq_true rfl, Nat.le_of_ble_eq_true rfl⟩, Nat.le_of_ble_eq_true rfl, Nat.le_of_ble_eq_true rfl⟩) rfl rfl (fun _ _ H locs hw_8 hP hD hK hS => ?_)
    have hK : va_K D vwCl [(K, .int)] s := hK
    have hP : va_P D vwCl [(g, .inr (4, [.ref gA, .int (nI k2)])), (gA, .inl (K, cap2, .inl gf)), (o, .inr (4, [.ref oA, .int (nI (i + 1))])), (oA, .inl (K, cap, .inl (upd (cpy gf f i) i (rowAt cap2 (nI k2) gf (nI i)))))] H := hP
    have hD : va_D A [(g, .inr (4, [.ref gA, .int (nI k2)])), (gA, .inl (K, cap2, .inl gf)), (o, .inr (4, [.ref oA, .int (nI (i + 1))])), (oA, .inl (K, cap, .inl (upd (cpy gf f i) i (rowAt cap2 (nI k2) gf (nI i)))))] := hD
    have hf_9 : ((upd (cpy gf f i) i (rowAt cap2 (nI k2) gf (nI i))) : Nat → Int32) = (cpy gf f (i + 1)) := by rw [rowAt_lt (by omega) hk2 hcap2]; exact cpy_s gf f i
    have hP : va_P D vwCl [(g, .inr (4, [.ref gA, .int (nI k2)])), (gA, .inl (K, cap2, .inl gf)), (o, .inr (4, [.ref oA, .int (nI (i + 1))])), (oA, .inl (K, cap, .inl (cpy gf f (i + 1))))] H := (congrArg (fun z9 : Nat → Int32 => va_P D vwCl [(g, .inr (4, [.ref gA, .int (nI k2)])), (gA, .inl (K, cap2, .inl gf)), (o, .inr (4, [.ref oA, .int (nI (i + 1))])), (oA, .inl (K, cap, .inl z9))] H) hf_9).mp hP
    have hD : va_D A [(g, .inr (4, [.ref gA, .int (nI k2)])), (gA, .inl (K, cap2, .inl gf)), (o, .inr (4, [.ref oA, .int (nI (i + 1))])), (oA, .inl (K, cap, .inl (cpy gf f (i + 1))))] := (congrArg (fun z9 : Nat → Int32 => va_D A [(g, .inr (4, [.ref gA, .int (nI k2)])), (gA, .inl (K, cap2, .inl gf)), (o, .inr (4, [.ref oA, .int (nI (i + 1))])), (oA, .inl (K, cap, .inl z9))]) hf_9).mp hD
    obtain ⟨x_10, ex_10⟩ : ∃ z : Int32, z = (nI i) + 1 := ⟨_, rfl⟩
    refine lv_iinc (v := x_10) (lv' := [(2, .int x_10), (0, .ref o), (1, .ref g)]) hx hb dX4_copyFrom_23 hl (k := 0) rfl (by rw [ex_10]; rfl) (by decide) rfl (fun ls hl => ?_)
    refine lv_goto (tgt := 6) hx hb dX4_copyFrom_26 (by decide) ?_
    have he9 : x_10 = (nI (i + 1)) := by rw [ex_10]; exact nI_1 i
    rw [he9] at hl
    have hl : lv_has ls 3 [(2, .int (nI (i + 1))), (0, .ref o), (1, .ref g)] := hl
    exact ih9 (i + 1) H locs ls (by omega) ⟨hik, hP.sub [2, 3, 0, 1] rfl, hD.sub [2, 3, 0, 1] (by decide) rfl, hS, lv_sub hl [0, 1, 2] rfl⟩
