theorem lo_X2_3 : Cond.methodLink RX2 3 objectInit ∈ wsA := mA 36 rfl rfl
theorem lc_X2_9 : Cond.classLink RX2 9 "BarcodeWand$Row" ∈ wsA := mA 37 rfl rfl
theorem lt_BarcodeWand_Row : Cond.instantiable "BarcodeWand$Row" 2 ∈ wsA := mA 38 rfl rfl
theorem lk_X4_init : Cond.code yX4_init cX4_init 2 none ∈ wsA := mA 41 rfl rfl
theorem ly_X4_init : k_y yX4_init 1 := ⟨by decide +kernel, by decide +kernel, by decide +kernel⟩
theorem lm_X4_init : Cond.instanceMethod yX4_init ∈ wsA := mA 40 rfl rfl
theorem Li_X2_11 : k_LI RX2 11 yX4_init cX4_init 2 1 := ⟨mA 39 rfl rfl, lm_X4_init, li_BarcodeWand_Row, lk_X4_init, rfl, ly_X4_init⟩
theorem lo_X0_3 : Cond.methodLink RX0 3 objectInit ∈ wsA := mA 70 rfl rfl
theorem lc_X0_9 : Cond.classLink RX0 9 "BarcodeWand$Row" ∈ wsA := mA 71 rfl rfl
theorem Li_X0_11 : k_LI RX0 11 yX4_init cX4_init 2 1 := ⟨mA 72 rfl rfl, lm_X4_init, li_BarcodeWand_Row, lk_X4_init, rfl, ly_X4_init⟩
theorem lo_X6_3 : Cond.methodLink RX6 3 objectInit ∈ wsA := mA 30 rfl rfl
theorem lc_X6_9 : Cond.classLink RX6 9 "BarcodeWand$Label" ∈ wsA := mA 31 rfl rfl
theorem lt_BarcodeWand_Label : Cond.instantiable "BarcodeWand$Label" 2 ∈ wsA := mA 32 rfl rfl
theorem lk_X2_init : Cond.code yX2_init cX2_init 1 none ∈ wsA := mA 35 rfl rfl
theorem ly_X2_init : k_y yX2_init 0 := ⟨by decide +kernel, by decide +kernel, by decide +kernel⟩
theorem lm_X2_init : Cond.instanceMethod yX2_init ∈ wsA := mA 34 rfl rfl
theorem Li_X6_11 : k_LIN RX6 11 "BarcodeWand" yX2_init cX2_init 1 0 := ⟨List.mem_of_getElem? (i := 33) rfl, lm_X2_init, li_BarcodeWand_Label, lk_X2_init, rfl, ly_X2_init⟩
theorem lc_X6_18 : Cond.classLink RX6 18 "BarcodeWand$Row" ∈ wsA := mA 63 rfl rfl
theorem Li_X6_20 : k_LI RX6 20 yX4_init cX4_init 2 1 := ⟨mA 64 rfl rfl, lm_X4_init, li_BarcodeWand_Row, lk_X4_init, rfl, ly_X4_init⟩
theorem lc_X6_27 : Cond.classLink RX6 27 "BarcodeWand$CodeList" ∈ wsA := mA 65 rfl rfl
theorem lt_BarcodeWand_CodeList : Cond.instantiable "BarcodeWand$CodeList" 3 ∈ wsA := mA 66 rfl rfl
theorem lk_X0_init : Cond.code yX0_init cX0_init 1 none ∈ wsA := mA 69 rfl rfl
theorem ly_X0_init : k_y yX0_init 0 := ⟨by decide +kernel, by decide +kernel, by decide +kernel⟩
theorem lm_X0_init : Cond.instanceMethod yX0_init ∈ wsA := mA 68 rfl rfl
theorem Li_X6_29 : k_LIN RX6 29 "BarcodeWand" yX0_init cX0_init 1 0 := ⟨List.mem_of_getElem? (i := 67) rfl, lm_X0_init, li_BarcodeWand_CodeList, lk_X0_init, rfl, ly_X0_init⟩
theorem lo_X3_3 : Cond.methodLink RX3 3 objectInit ∈ wsA := mA 135 rfl rfl
theorem lc_X3_9 : Cond.classLink RX3 9 "BarcodeWand$Row" ∈ wsA := mA 136 rfl rfl
theorem Li_X3_11 : k_LI RX3 11 yX4_init cX4_init 2 1 := ⟨mA 137 rfl rfl, lm_X4_init, li_BarcodeWand_Row, lk_X4_init, rfl, ly_X4_init⟩
theorem lo_X1_3 : Cond.methodLink RX1 3 objectInit ∈ wsA := mA 172 rfl rfl
theorem dX2_init_0 : decode cX2_init 0 = .ok (.aload_n 0, 1) := by decide +kernel
theorem dX2_init_1 : decode cX2_init 1 = .ok (.invokespecial 3, 3) := by decide +kernel
theorem dX2_init_4 : decode cX2_init 4 = .ok (.aload_n 0, 1) := by decide +kernel
theorem dX2_init_5 : decode cX2_init 5 = .ok (.new 9, 3) := by decide +kernel
theorem dX2_init_8 : decode cX2_init 8 = .ok (.dup, 1) := by decide +kernel
theorem dX2_init_9 : decode cX2_init 9 = .ok (.bipush 9, 2) := by decide +kernel
theorem dX2_init_11 : decode cX2_init 11 = .ok (.invokespecial 11, 3) := by decide +kernel
theorem dX2_init_14 : decode cX2_init 14 = .ok (.putfield 14, 3) := by decide +kernel
theorem dX2_init_17 : decode cX2_init 17 = .ok (.aload_n 0, 1) := by decide +kernel
theorem dX2_init_18 : decode cX2_init 18 = .ok (.new 9, 3) := by decide +kernel
theorem dX2_init_21 : decode cX2_init 21 = .ok (.dup, 1) := by decide +kernel
theorem dX2_init_22 : decode cX2_init 22 = .ok (.bipush 41, 2) := by decide +kernel
theorem dX2_init_24 : decode cX2_init 24 = .ok (.invokespecial 11, 3) := by decide +kernel
theorem dX2_init_27 : decode cX2_init 27 = .ok (.putfield 20, 3) := by decide +kernel
theorem dX2_init_30 : decode cX2_init 30 = .ok (.return_, 1) := by decide +kernel
theorem dX0_init_0 : decode cX0_init 0 = .ok (.aload_n 0, 1) := by decide +kernel
theorem dX0_init_1 : decode cX0_init 1 = .ok (.invokespecial 3, 3) := by decide +kernel
theorem dX0_init_4 : decode cX0_init 4 = .ok (.aload_n 0, 1) := by decide +kernel
theorem dX0_init_5 : decode cX0_init 5 = .ok (.new 9, 3) := by decide +kernel
theorem dX0_init_8 : decode cX0_init 8 = .ok (.dup, 1) := by decide +kernel
theorem dX0_init_9 : decode cX0_init 9 = .ok (.bipush 10, 2) := by decide +kernel
theorem dX0_init_11 : decode cX0_init 11 = .ok (.invokespecial 11, 3) := by decide +kernel
theorem dX0_init_14 : decode cX0_init 14 = .ok (.putfield 14, 3) := by decide +kernel
theorem dX0_init_17 : decode cX0_init 17 = .ok (.aload_n 0, 1) := by decide +kernel
theorem dX0_init_18 : decode cX0_init 18 = .ok (.new 9, 3) := by decide +kernel
theorem dX0_init_21 : decode cX0_init 21 = .ok (.dup, 1) := by decide +kernel
theorem dX0_init_22 : decode cX0_init 22 = .ok (.bipush 10, 2) := by decide +kernel
theorem dX0_init_24 : decode cX0_init 24 = .ok (.invokespecial 11, 3) := by decide +kernel
theorem dX0_init_27 : decode cX0_init 27 = .ok (.putfield 20, 3) := by decide +kernel
theorem dX0_init_30 : decode cX0_init 30 = .ok (.aload_n 0, 1) := by decide +kernel
theorem dX0_init_31 : decode cX0_init 31 = .ok (.new 9, 3) := by decide +kernel
theorem dX0_init_34 : decode cX0_init 34 = .ok (.dup, 1) := by decide +kernel
theorem dX0_init_35 : decode cX0_init 35 = .ok (.bipush 10, 2) := by decide +kernel
theorem dX0_init_37 : decode cX0_init 37 = .ok (.invokespecial 11, 3) := by decide +kernel
theorem dX0_init_40 : decode cX0_init 40 = .ok (.putfield 23, 3) := by decide +kernel
theorem dX0_init_43 : decode cX0_init 43 = .ok (.return_, 1) := by decide +kernel
theorem dX6_init_0 : decode cX6_init 0 = .ok (.aload_n 0, 1) := by decide +kernel
theorem dX6_init_1 : decode cX6_init 1 = .ok (.invokespecial 3, 3) := by decide +kernel
theorem dX6_init_4 : decode cX6_init 4 = .ok (.aload_n 0, 1) := by decide +kernel
theorem dX6_init_5 : decode cX6_init 5 = .ok (.new 9, 3) := by decide +kernel
theorem dX6_init_8 : decode cX6_init 8 = .ok (.dup, 1) := by decide +kernel
theorem dX6_init_9 : decode cX6_init 9 = .ok (.invokespecial 11, 3) := by decide +kernel
theorem dX6_init_12 : decode cX6_init 12 = .ok (.putfield 12, 3) := by decide +kernel
theorem dX6_init_15 : decode cX6_init 15 = .ok (.aload_n 0, 1) := by decide +kernel
theorem dX6_init_16 : decode cX6_init 16 = .ok (.new 18, 3) := by decide +kernel
theorem dX6_init_19 : decode cX6_init 19 = .ok (.dup, 1) := by decide +kernel
theorem dX6_init_20 : decode cX6_init 20 = .ok (.bipush 41, 2) := by decide +kernel
theorem dX6_init_22 : decode cX6_init 22 = .ok (.invokespecial 20, 3) := by decide +kernel
theorem dX6_init_25 : decode cX6_init 25 = .ok (.putfield 23, 3) := by decide +kernel
theorem dX6_init_28 : decode cX6_init 28 = .ok (.aload_n 0, 1) := by decide +kernel
theorem dX6_init_29 : decode cX6_init 29 = .ok (.new 27, 3) := by decide +kernel
theorem dX6_init_32 : decode cX6_init 32 = .ok (.dup, 1) := by decide +kernel
theorem dX6_init_33 : decode cX6_init 33 = .ok (.invokespecial 29, 3) := by decide +kernel
theorem dX6_init_36 : decode cX6_init 36 = .ok (.putfield 30, 3) := by decide +kernel
theorem dX6_init_39 : decode cX6_init 39 = .ok (.aload_n 0, 1) := by decide +kernel
theorem dX6_init_40 : decode cX6_init 40 = .ok (.iconst 4, 1) := by decide +kernel
theorem dX6_init_41 : decode cX6_init 41 = .ok (.putfield 34, 3) := by decide +kernel
theorem dX6_init_44 : decode cX6_init 44 = .ok (.return_, 1) := by decide +kernel
theorem dX3_init_0 : decode cX3_init 0 = .ok (.aload_n 0, 1) := by decide +kernel
theorem dX3_init_1 : decode cX3_init 1 = .ok (.invokespecial 3, 3) := by decide +kernel
theorem dX3_init_4 : decode cX3_init 4 = .ok (.aload_n 0, 1) := by decide +kernel
theorem dX3_init_5 : decode cX3_init 5 = .ok (.new 9, 3) := by decide +kernel
theorem dX3_init_8 : decode cX3_init 8 = .ok (.dup, 1) := by decide +kernel
theorem dX3_init_9 : decode cX3_init 9 = .ok (.bipush 9, 2) := by decide +kernel
theorem dX3_init_11 : decode cX3_init 11 = .ok (.invokespecial 11, 3) := by decide +kernel
theorem dX3_init_14 : decode cX3_init 14 = .ok (.putfield 14, 3) := by decide +kernel
theorem dX3_init_17 : decode cX3_init 17 = .ok (.aload_n 0, 1) := by decide +kernel
theorem dX3_init_18 : decode cX3_init 18 = .ok (.new 9, 3) := by decide +kernel
theorem dX3_init_21 : decode cX3_init 21 = .ok (.dup, 1) := by decide +kernel
theorem dX3_init_22 : decode cX3_init 22 = .ok (.bipush 41, 2) := by decide +kernel
theorem dX3_init_24 : decode cX3_init 24 = .ok (.invokespecial 11, 3) := by decide +kernel
theorem dX3_init_27 : decode cX3_init 27 = .ok (.putfield 20, 3) := by decide +kernel
theorem dX3_init_30 : decode cX3_init 30 = .ok (.return_, 1) := by decide +kernel
theorem dX1_init_0 : decode cX1_init 0 = .ok (.aload_n 0, 1) := by decide +kernel
theorem dX1_init_1 : decode cX1_init 1 = .ok (.invokespecial 3, 3) := by decide +kernel
theorem dX1_init_4 : decode cX1_init 4 = .ok (.return_, 1) := by decide +kernel
set_option maxHeartbeats 4000000 in
set_option maxRecDepth 100000 in
theorem c_Label_init (l : Launch) (D : va_G) (o : Nat) (sz : Nat) : k_Mv (S := Nat × Nat × Nat × Nat × ClassId) l D yX2_init cX2_init 1 none 2 4 54 35 [.ref o] [(o, .inr (2, [.null, .null]))] [] (fun (u : Nat × Nat × Nat × Nat × ClassId) => match u with | (ld, ldA, lz, lzA, K) => True) (fun u => match u with | (ld, ldA, lz, lzA, K) => [(o, .inr (2, [.ref ld, .ref lz])), (ld, .inr (4, [.ref ldA, .int 0])), (ldA, .inl (K, 9, .inl (fun _ => 0))), (lz, .inr (4, [.ref lzA, .int 0])), (lzA, .inl (K, 41, .inl (fun _ => 0)))]) (fun u => match u with | (ld, ldA, lz, lzA, K) => [(K, .int)]) sz := by
  refine Met.ofW (cc := cX2_init) (maxL := 1) (ret := none) (by decide) rfl ?_
  intro p e s m args below meth c s₁ B hml hv
  obtain ⟨rfl, hsz, hP, hK, hD0, hG⟩ := hv
  have hx := B.exec
  have hb := B.bytes
  have hr := B.returns
  have ht : ∀ v9 ∈ wsA, v9.before ([.ref o] : List Value).toArray s = true := fun v9 h9 => atoms_spec (ws := k_ws yX2_init cX2_init 1 none) B.pre v9 (List.mem_cons_of_mem _ h9)
  have hown : s.vm.findClass RX2 = some m.cls := findClass_of_methodNamed B.named
  have S0 : k_C p s m ([.ref o] : List Value).toArray c cX2_init 1 RX2 := ⟨hx, hb, hml, hown, ht⟩
  have hlocks := B.notSynchronized
  have hin : meth.name = "<init>" := (name_of_methodNamed B.named B.method).1
  subst hsz
  have hD := hD0.self (sz := s.heap.size)
  generalize hAe : va_A [(o, .inr (2, [.null, .null]))] s.heap.size = A at hD hG ⊢
  have hA : ∀ q : Nat, s.heap.size ≤ q → A q := fun q h => by rw [← hAe]; exact Or.inr h
  have hS : va_S A s.heap s.heap [] := va_S.rf
  have hl := lv_entry ([.ref o]) (n := 1) (Nat.le_of_ble_eq_true rfl)
  rw [lg_entry_eq]
  generalize (lg_sl ([.ref o]) ++ List.replicate (1 - (lg_sl ([.ref o])).length) Slot.unset).toArray = ls at hl ⊢
  have hl : lv_has ls 1 [(0, .ref o)] := hl
  have hP : va_P D vwCl [(o, .inr (2, [.null, .null]))] s.heap := hP
  refine lv_aload_n hx hb dX2_init_0 rfl (lv_at hl 0 rfl) ?_
  refine W.objInit hx hb hown (ht _ lo_X2_3) (ht _ lo_inst) (ht _ lo_code) rfl (by rw [hml]; exact hl.1) rfl dX2_init_1 (Nat.le_of_ble_eq_true rfl) (Nat.le_of_ble_eq_true rfl) ?_
  refine W.eq (g2 := F0 m 4 ls []) rfl ?_
  refine lv_aload_n hx hb dX2_init_4 rfl (lv_at hl 0 rfl) ?_
  refine va_new (ci := 4) (fs := [.null, .int 0]) (C := RX4) (T := TX4) (N := 2) hx hb ht inA_X4 tyX4 tyX4_ok hown (ht _ lc_X2_9) (ht _ lt_BarcodeWand_Row) (ht _ li_BarcodeWand_Row) hK hP hD hS hA rfl (fun j hj => by rcases (show j = 0 ∨ j = 1 by omega) with rfl | rfl <;> rfl) (Nat.le_of_ble_eq_true rfl) (Nat.le_of_ble_eq_true rfl) dX2_init_5 (fun q_1 H hP hD hS => ?_)
  have hP : va_P D vwCl [(o, .inr (2, [.null, .null])), (q_1, .inr (4, [.null, .int 0]))] H := hP
  have hD : va_D A [(o, .inr (2, [.null, .null])), (q_1, .inr (4, [.null, .int 0]))] := hD
  refine W.widen (k := 1) (n := 2) (Nat.le_of_ble_eq_true rfl) (Nat.le_of_ble_eq_true rfl) ?_
  refine lv_dup hx hb dX2_init_8 rfl ?_
  refine lv_bipush (v := 9) hx hb dX2_init_9 (by decide) ?_
  have ct := k_cut_of (wc := [(q_1, .inr (4, [.null, .int 0]))]) (wr := [(o, .inr (2, [.null, .null]))]) (tc := []) hG hS hA hK hP hD [1] [0] [] rfl rfl (by decide) (by decide) (by decide) rfl
  refine k_endv (As := [.ref q_1, .int 9]) ct (k_runI (As := [.int 9]) (rest := [.ref q_1, .ref o]) S0 Li_X2_11 ct (c_Row_init_9 l D q_1 H.size) hl.1 rfl (Nat.le_of_ble_eq_true rfl) rfl dX2_init_11 ⟨⟨Nat.le_of_ble_eq_true rfl, Nat.le_of_ble_eq_true rfl⟩, Nat.le_of_ble_eq_true rfl, Nat.le_of_ble_eq_true rfl⟩) rfl rfl (fun _ u H locs hw_5 hP hD hK hS => ?_)
  obtain ⟨a_3, K_4⟩ := u
  have hK : va_K D vwCl [(K_4, .int)] s := hK
  have hP : va_P D vwCl [(o, .inr (2, [.null, .null])), (q_1, .inr (4, [.ref a_3, .int 0])), (a_3, .inl (K_4, 9, .inl (fun _ => 0)))] H := hP
  have hD : va_D A [(o, .inr (2, [.null, .null])), (q_1, .inr (4, [.ref a_3, .int 0])), (a_3, .inl (K_4, 9, .inl (fun _ => 0)))] := hD
  refine va_putF (D := D) (ci := 2) (v := .ref q_1) (ty := tyX2 0) (C := RX2) (T := TX2) (N := 2) hx hb ht inA_X2 tyX2 tyX2_ok nmX2 hown hK hP hD hS 0 rfl rfl 0 (by decide) (ht _ lf_X2_14) (fun _ h9 => h9) rfl hin rfl (tyX2_ok 0 (by decide)) rfl rfl (Nat.le_of_ble_eq_true rfl) dX2_init_14 (fun H locs hP hD hS => ?_)
  have hP : va_P D vwCl [(o, .inr (2, [.ref q_1, .null])), (q_1, .inr (4, [.ref a_3, .int 0])), (a_3, .inl (K_4, 9, .inl (fun _ => 0)))] H := hP
  have hD : va_D A [(o, .inr (2, [.ref q_1, .null])), (q_1, .inr (4, [.ref a_3, .int 0])), (a_3, .inl (K_4, 9, .inl (fun _ => 0)))] := hD
  refine lv_aload_n hx hb dX2_init_17 rfl (lv_at hl 0 rfl) ?_
  refine va_new (ci := 4) (fs := [.null, .int 0]) (C := RX4) (T := TX4) (N := 2) hx hb ht inA_X4 tyX4 tyX4_ok hown (ht _ lc_X2_9) (ht _ lt_BarcodeWand_Row) (ht _ li_BarcodeWand_Row) hK hP hD hS hA rfl (fun j hj => by rcases (show j = 0 ∨ j = 1 by omega) with rfl | rfl <;> rfl) (Nat.le_of_ble_eq_true rfl) (Nat.le_of_ble_eq_true rfl) dX2_init_18 (fun q_6 H hP hD hS => ?_)
  have hP : va_P D vwCl [(o, .inr (2, [.ref q_1, .null])), (q_1, .inr (4, [.ref a_3, .int 0])), (a_3, .inl (K_4, 9, .inl (fun _ => 0))), (q_6, .inr (4, [.null, .int 0]))] H := hP
  have hD : va_D A [(o, .inr (2, [.ref q_1, .null])), (q_1, .inr (4, [.ref a_3, .int 0])), (a_3, .inl (K_4, 9, .inl (fun _ => 0))), (q_6, .inr (4, [.null, .int 0]))] := hD
  refine W.widen (k := 3) (n := 13) (Nat.le_of_ble_eq_true rfl) (Nat.le_of_ble_eq_true rfl) ?_
  refine lv_dup hx hb dX2_init_21 rfl ?_
  refine lv_bipush (v := 41) hx hb dX2_init_22 (by decide) ?_
  have ct := k_cut_of (wc := [(q_6, .inr (4, [.null, .int 0]))]) (wr := [(o, .inr (2, [.ref q_1, .null])), (q_1, .inr (4, [.ref a_3, .int 0])), (a_3, .inl (K_4, 9, .inl (fun _ => 0)))]) (tc := []) hG hS hA hK hP hD [3] [0, 1, 2] [] rfl rfl (by decide) (by decide) (by decide) rfl
  refine k_endv (As := [.ref q_6, .int 41]) ct (k_runI (As := [.int 41]) (rest := [.ref q_6, .ref o]) S0 Li_X2_11 ct (c_Row_init_41 l D q_6 H.size) hl.1 rfl (Nat.le_of_ble_eq_true rfl) rfl dX2_init_24 ⟨⟨Nat.le_of_ble_eq_true rfl, Nat.le_of_ble_eq_true rfl⟩, Nat.le_of_ble_eq_true rfl, Nat.le_of_ble_eq_true rfl⟩) rfl rfl (fun _ u H locs hw_10 hP hD hK hS => ?_)
  obtain ⟨a_8, K_9⟩ := u
  have hK : va_K D vwCl [(K_4, .int), (K_9, .int)] s := hK
  have hP : va_P D vwCl [(o, .inr (2, [.ref q_1, .null])), (q_1, .inr (4, [.ref a_3, .int 0])), (a_3, .inl (K_4, 9, .inl (fun _ => 0))), (q_6, .inr (4, [.ref a_8, .int 0])), (a_8, .inl (K_9, 41, .inl (fun _ => 0)))] H := hP
  have hD : va_D A [(o, .inr (2, [.ref q_1, .null])), (q_1, .inr (4, [.ref a_3, .int 0])), (a_3, .inl (K_4, 9, .inl (fun _ => 0))), (q_6, .inr (4, [.ref a_8, .int 0])), (a_8, .inl (K_9, 41, .inl (fun _ => 0)))] := hD
  obtain rfl : K_4 = K_9 := k_one hK (i := 0) (j := 1) rfl rfl
  have hK : va_K D vwCl [(K_4, .int)] s := hK.sub [0] rfl
  refine va_putF (D := D) (ci := 2) (v := .ref q_6) (ty := tyX2 1) (C := RX2) (T := TX2) (N := 2) hx hb ht inA_X2 tyX2 tyX2_ok nmX2 hown hK hP hD hS 0 rfl rfl 1 (by decide) (ht _ lf_X2_20) (fun _ h9 => h9) rfl hin rfl (tyX2_ok 1 (by decide)) rfl rfl (Nat.le_of_ble_eq_true rfl) dX2_init_27 (fun H locs hP hD hS => ?_)
  have hP : va_P D vwCl [(o, .inr (2, [.ref q_1, .ref q_6])), (q_1, .inr (4, [.ref a_3, .int 0])), (a_3, .inl (K_4, 9, .inl (fun _ => 0))), (q_6, .inr (4, [.ref a_8, .int 0])), (a_8, .inl (K_4, 41, .inl (fun _ => 0)))] H := hP
  have hD : va_D A [(o, .inr (2, [.ref q_1, .ref q_6])), (q_1, .inr (4, [.ref a_3, .int 0])), (a_3, .inl (K_4, 9, .inl (fun _ => 0))), (q_6, .inr (4, [.ref a_8, .int 0])), (a_8, .inl (K_4, 41, .inl (fun _ => 0)))] := hD
  have hP9 : va_P D vwCl [(o, .inr (2, [.ref q_1, .ref q_6])), (q_1, .inr (4, [.ref a_3, .int 0])), (a_3, .inl (K_4, 9, .inl (fun _ => 0))), (q_6, .inr (4, [.ref a_8, .int 0])), (a_8, .inl (K_4, 41, .inl (fun _ => 0)))] H := hP.sub [0, 1, 2, 3, 4] rfl
  have hD9 : va_D A [(o, .inr (2, [.ref q_1, .ref q_6])), (q_1, .inr (4, [.ref a_3, .int 0])), (a_3, .inl (K_4, 9, .inl (fun _ => 0))), (q_6, .inr (4, [.ref a_8, .int 0])), (a_8, .inl (K_4, 41, .inl (fun _ => 0)))] := hD.sub [0, 1, 2, 3, 4] (by decide) rfl
  have hK9 : va_K D vwCl [(K_4, .int)] s := hK.sub [0] rfl
  exact W.vret hx hb hr (fun t ht9 hW9 => ⟨⟨(q_1, a_3, q_6, a_8, K_4), rfl, by first | rfl | trivial | (simp only [if_true, if_false, reduceIte, and_self]; done) | simp_all, ⟨by rw [ht9]; exact hP9, va_K.moved hW9.alike hK9, hD9⟩⟩, hS.F ht9⟩) hS.2.2 dX2_init_30
set_option maxHeartbeats 4000000 in
set_option maxRecDepth 100000 in
theorem c_CodeList_init (l : Launch) (D : va_G) (o : Nat) (sz : Nat) : k_Mv (S := Nat × Nat × Nat × Nat × Nat × Nat × ClassId) l D yX0_init cX0_init 1 none 2 6 36 35 [.ref o] [(o, .inr (0, [.null, .null, .null]))] [] (fun (u : Nat × Nat × Nat × Nat × Nat × Nat × ClassId) => match u with | (ln, lnA, ll, llA, lc, lcA, K) => True) (fun u => match u with | (ln, lnA, ll, llA, lc, lcA, K) => [(o, .inr (0, [.ref ln, .ref ll, .ref lc])), (ln, .inr (4, [.ref lnA, .int 0])), (lnA, .inl (K, 10, .inl (fun _ => 0))), (ll, .inr (4, [.ref llA, .int 0])), (llA, .inl (K, 10, .inl (fun _ => 0))), (lc, .inr (4, [.ref lcA, .int 0])), (lcA, .inl (K, 10, .inl (fun _ => 0)))]) (fun u => match u with | (ln, lnA, ll, llA, lc, lcA, K) => [(K, .int)]) sz := by
  refine Met.ofW (cc := cX0_init) (maxL := 1) (ret := none) (by decide) rfl ?_
  intro p e s m args below meth c s₁ B hml hv
  obtain ⟨rfl, hsz, hP, hK, hD0, hG⟩ := hv
  have hx := B.exec
  have hb := B.bytes
  have hr := B.returns
  have ht : ∀ v9 ∈ wsA, v9.before ([.ref o] : List Value).toArray s = true := fun v9 h9 => atoms_spec (ws := k_ws yX0_init cX0_init 1 none) B.pre v9 (List.mem_cons_of_mem _ h9)
  have hown : s.vm.findClass RX0 = some m.cls := findClass_of_methodNamed B.named
  have S0 : k_C p s m ([.ref o] : List Value).toArray c cX0_init 1 RX0 := ⟨hx, hb, hml, hown, ht⟩
  have hlocks := B.notSynchronized
  have hin : meth.name = "<init>" := (name_of_methodNamed B.named B.method).1
  subst hsz
  have hD := hD0.self (sz := s.heap.size)
  generalize hAe : va_A [(o, .inr (0, [.null, .null, .null]))] s.heap.size = A at hD hG ⊢
  have hA : ∀ q : Nat, s.heap.size ≤ q → A q := fun q h => by rw [← hAe]; exact Or.inr h
  have hS : va_S A s.heap s.heap [] := va_S.rf
  have hl := lv_entry ([.ref o]) (n := 1) (Nat.le_of_ble_eq_true rfl)
  rw [lg_entry_eq]
  generalize (lg_sl ([.ref o]) ++ List.replicate (1 - (lg_sl ([.ref o])).length) Slot.unset).toArray = ls at hl ⊢
  have hl : lv_has ls 1 [(0, .ref o)] := hl
  have hP : va_P D vwCl [(o, .inr (0, [.null, .null, .null]))] s.heap := hP
  refine lv_aload_n hx hb dX0_init_0 rfl (lv_at hl 0 rfl) ?_
  refine W.objInit hx hb hown (ht _ lo_X0_3) (ht _ lo_inst) (ht _ lo_code) rfl (by rw [hml]; exact hl.1) rfl dX0_init_1 (Nat.le_of_ble_eq_true rfl) (Nat.le_of_ble_eq_true rfl) ?_
  refine W.eq (g2 := F0 m 4 ls []) rfl ?_
  refine lv_aload_n hx hb dX0_init_4 rfl (lv_at hl 0 rfl) ?_
  refine va_new (ci := 4) (fs := [.null, .int 0]) (C := RX4) (T := TX4) (N := 2) hx hb ht inA_X4 tyX4 tyX4_ok hown (ht _ lc_X0_9) (ht _ lt_BarcodeWand_Row) (ht _ li_BarcodeWand_Row) hK hP hD hS hA rfl (fun j hj => by rcases (show j = 0 ∨ j = 1 by omega) with rfl | rfl <;> rfl) (Nat.le_of_ble_eq_true rfl) (Nat.le_of_ble_eq_true rfl) dX0_init_5 (fun q_1 H hP hD hS => ?_)
  have hP : va_P D vwCl [(o, .inr (0, [.null, .null, .null])), (q_1, .inr (4, [.null, .int 0]))] H := hP
  have hD : va_D A [(o, .inr (0, [.null, .null, .null])), (q_1, .inr (4, [.null, .int 0]))] := hD
  refine W.widen (k := 1) (n := 2) (Nat.le_of_ble_eq_true rfl) (Nat.le_of_ble_eq_true rfl) ?_
  refine lv_dup hx hb dX0_init_8 rfl ?_
  refine lv_bipush (v := 10) hx hb dX0_init_9 (by decide) ?_
  have ct := k_cut_of (wc := [(q_1, .inr (4, [.null, .int 0]))]) (wr := [(o, .inr (0, [.null, .null, .null]))]) (tc := []) hG hS hA hK hP hD [1] [0] [] rfl rfl (by decide) (by decide) (by decide) rfl
  refine k_endv (As := [.ref q_1, .int 10]) ct (k_runI (As := [.int 10]) (rest := [.ref q_1, .ref o]) S0 Li_X0_11 ct (c_Row_init_10 l D q_1 H.size) hl.1 rfl (Nat.le_of_ble_eq_true rfl) rfl dX0_init_11 ⟨⟨Nat.le_of_ble_eq_true rfl, Nat.le_of_ble_eq_true rfl⟩, Nat.le_of_ble_eq_true rfl, Nat.le_of_ble_eq_true rfl⟩) rfl rfl (fun _ u H locs hw_5 hP hD hK hS => ?_)
  obtain ⟨a_3, K_4⟩ := u
  have hK : va_K D vwCl [(K_4, .int)] s := hK
  have hP : va_P D vwCl [(o, .inr (0, [.null, .null, .null])), (q_1, .inr (4, [.ref a_3, .int 0])), (a_3, .inl (K_4, 10, .inl (fun _ => 0)))] H := hP
  have hD : va_D A [(o, .inr (0, [.null, .null, .null])), (q_1, .inr (4, [.ref a_3, .int 0])), (a_3, .inl (K_4, 10, .inl (fun _ => 0)))] := hD
  refine va_putF (D := D) (ci := 0) (v := .ref q_1) (ty := tyX0 0) (C := RX0) (T := TX0) (N := 3) hx hb ht inA_X0 tyX0 tyX0_ok nmX0 hown hK hP hD hS 0 rfl rfl 0 (by decide) (ht _ lf_X0_14) (fun _ h9 => h9) rfl hin rfl (tyX0_ok 0 (by decide)) rfl rfl (Nat.le_of_ble_eq_true rfl) dX0_init_14 (fun H locs hP hD hS => ?_)
  have hP : va_P D vwCl [(o, .inr (0, [.ref q_1, .null, .null])), (q_1, .inr (4, [.ref a_3, .int 0])), (a_3, .inl (K_4, 10, .inl (fun _ => 0)))] H := hP
  have hD : va_D A [(o, .inr (0, [.ref q_1, .null, .null])), (q_1, .inr (4, [.ref a_3, .int 0])), (a_3, .inl (K_4, 10, .inl (fun _ => 0)))] := hD
  refine lv_aload_n hx hb dX0_init_17 rfl (lv_at hl 0 rfl) ?_
  refine va_new (ci := 4) (fs := [.null, .int 0]) (C := RX4) (T := TX4) (N := 2) hx hb ht inA_X4 tyX4 tyX4_ok hown (ht _ lc_X0_9) (ht _ lt_BarcodeWand_Row) (ht _ li_BarcodeWand_Row) hK hP hD hS hA rfl (fun j hj => by rcases (show j = 0 ∨ j = 1 by omega) with rfl | rfl <;> rfl) (Nat.le_of_ble_eq_true rfl) (Nat.le_of_ble_eq_true rfl) dX0_init_18 (fun q_6 H hP hD hS => ?_)
  have hP : va_P D vwCl [(o, .inr (0, [.ref q_1, .null, .null])), (q_1, .inr (4, [.ref a_3, .int 0])), (a_3, .inl (K_4, 10, .inl (fun _ => 0))), (q_6, .inr (4, [.null, .int 0]))] H := hP
  have hD : va_D A [(o, .inr (0, [.ref q_1, .null, .null])), (q_1, .inr (4, [.ref a_3, .int 0])), (a_3, .inl (K_4, 10, .inl (fun _ => 0))), (q_6, .inr (4, [.null, .int 0]))] := hD
  refine W.widen (k := 3) (n := 14) (Nat.le_of_ble_eq_true rfl) (Nat.le_of_ble_eq_true rfl) ?_
  refine lv_dup hx hb dX0_init_21 rfl ?_
  refine lv_bipush (v := 10) hx hb dX0_init_22 (by decide) ?_
  have ct := k_cut_of (wc := [(q_6, .inr (4, [.null, .int 0]))]) (wr := [(o, .inr (0, [.ref q_1, .null, .null])), (q_1, .inr (4, [.ref a_3, .int 0])), (a_3, .inl (K_4, 10, .inl (fun _ => 0)))]) (tc := []) hG hS hA hK hP hD [3] [0, 1, 2] [] rfl rfl (by decide) (by decide) (by decide) rfl
  refine k_endv (As := [.ref q_6, .int 10]) ct (k_runI (As := [.int 10]) (rest := [.ref q_6, .ref o]) S0 Li_X0_11 ct (c_Row_init_10 l D q_6 H.size) hl.1 rfl (Nat.le_of_ble_eq_true rfl) rfl dX0_init_24 ⟨⟨Nat.le_of_ble_eq_true rfl, Nat.le_of_ble_eq_true rfl⟩, Nat.le_of_ble_eq_true rfl, Nat.le_of_ble_eq_true rfl⟩) rfl rfl (fun _ u H locs hw_10 hP hD hK hS => ?_)
  obtain ⟨a_8, K_9⟩ := u
  have hK : va_K D vwCl [(K_4, .int), (K_9, .int)] s := hK
  have hP : va_P D vwCl [(o, .inr (0, [.ref q_1, .null, .null])), (q_1, .inr (4, [.ref a_3, .int 0])), (a_3, .inl (K_4, 10, .inl (fun _ => 0))), (q_6, .inr (4, [.ref a_8, .int 0])), (a_8, .inl (K_9, 10, .inl (fun _ => 0)))] H := hP
  have hD : va_D A [(o, .inr (0, [.ref q_1, .null, .null])), (q_1, .inr (4, [.ref a_3, .int 0])), (a_3, .inl (K_4, 10, .inl (fun _ => 0))), (q_6, .inr (4, [.ref a_8, .int 0])), (a_8, .inl (K_9, 10, .inl (fun _ => 0)))] := hD
  obtain rfl : K_4 = K_9 := k_one hK (i := 0) (j := 1) rfl rfl
  have hK : va_K D vwCl [(K_4, .int)] s := hK.sub [0] rfl
  refine va_putF (D := D) (ci := 0) (v := .ref q_6) (ty := tyX0 1) (C := RX0) (T := TX0) (N := 3) hx hb ht inA_X0 tyX0 tyX0_ok nmX0 hown hK hP hD hS 0 rfl rfl 1 (by decide) (ht _ lf_X0_20) (fun _ h9 => h9) rfl hin rfl (tyX0_ok 1 (by decide)) rfl rfl (Nat.le_of_ble_eq_true rfl) dX0_init_27 (fun H locs hP hD hS => ?_)
  have hP : va_P D vwCl [(o, .inr (0, [.ref q_1, .ref q_6, .null])), (q_1, .inr (4, [.ref a_3, .int 0])), (a_3, .inl (K_4, 10, .inl (fun _ => 0))), (q_6, .inr (4, [.ref a_8, .int 0])), (a_8, .inl (K_4, 10, .inl (fun _ => 0)))] H := hP
  have hD : va_D A [(o, .inr (0, [.ref q_1, .ref q_6, .null])), (q_1, .inr (4, [.ref a_3, .int 0])), (a_3, .inl (K_4, 10, .inl (fun _ => 0))), (q_6, .inr (4, [.ref a_8, .int 0])), (a_8, .inl (K_4, 10, .inl (fun _ => 0)))] := hD
  refine lv_aload_n hx hb dX0_init_30 rfl (lv_at hl 0 rfl) ?_
  refine va_new (ci := 4) (fs := [.null, .int 0]) (C := RX4) (T := TX4) (N := 2) hx hb ht inA_X4 tyX4 tyX4_ok hown (ht _ lc_X0_9) (ht _ lt_BarcodeWand_Row) (ht _ li_BarcodeWand_Row) hK hP hD hS hA rfl (fun j hj => by rcases (show j = 0 ∨ j = 1 by omega) with rfl | rfl <;> rfl) (Nat.le_of_ble_eq_true rfl) (Nat.le_of_ble_eq_true rfl) dX0_init_31 (fun q_11 H hP hD hS => ?_)
  have hP : va_P D vwCl [(o, .inr (0, [.ref q_1, .ref q_6, .null])), (q_1, .inr (4, [.ref a_3, .int 0])), (a_3, .inl (K_4, 10, .inl (fun _ => 0))), (q_6, .inr (4, [.ref a_8, .int 0])), (a_8, .inl (K_4, 10, .inl (fun _ => 0))), (q_11, .inr (4, [.null, .int 0]))] H := hP
  have hD : va_D A [(o, .inr (0, [.ref q_1, .ref q_6, .null])), (q_1, .inr (4, [.ref a_3, .int 0])), (a_3, .inl (K_4, 10, .inl (fun _ => 0))), (q_6, .inr (4, [.ref a_8, .int 0])), (a_8, .inl (K_4, 10, .inl (fun _ => 0))), (q_11, .inr (4, [.null, .int 0]))] := hD
  refine W.widen (k := 5) (n := 26) (Nat.le_of_ble_eq_true rfl) (Nat.le_of_ble_eq_true rfl) ?_
  refine lv_dup hx hb dX0_init_34 rfl ?_
  refine lv_bipush (v := 10) hx hb dX0_init_35 (by decide) ?_
  have ct := k_cut_of (wc := [(q_11, .inr (4, [.null, .int 0]))]) (wr := [(o, .inr (0, [.ref q_1, .ref q_6, .null])), (q_1, .inr (4, [.ref a_3, .int 0])), (a_3, .inl (K_4, 10, .inl (fun _ => 0))), (q_6, .inr (4, [.ref a_8, .int 0])), (a_8, .inl (K_4, 10, .inl (fun _ => 0)))]) (tc := []) hG hS hA hK hP hD [5] [0, 1, 2, 3, 4] [] rfl rfl (by decide) (by decide) (by decide) rfl
  refine k_endv (As := [.ref q_11, .int 10]) ct (k_runI (As := [.int 10]) (rest := [.ref q_11, .ref o]) S0 Li_X0_11 ct (c_Row_init_10 l D q_11 H.size) hl.1 rfl (Nat.le_of_ble_eq_true rfl) rfl dX0_init_37 ⟨⟨Nat.le_of_ble_eq_true rfl, Nat.le_of_ble_eq_true rfl⟩, Nat.le_of_ble_eq_true rfl, Nat.le_of_ble_eq_true rfl⟩) rfl rfl (fun _ u H locs hw_15 hP hD hK hS => ?_)
  obtain ⟨a_13, K_14⟩ := u
  have hK : va_K D vwCl [(K_4, .int), (K_14, .int)] s := hK
  have hP : va_P D vwCl [(o, .inr (0, [.ref q_1, .ref q_6, .null])), (q_1, .inr (4, [.ref a_3, .int 0])), (a_3, .inl (K_4, 10, .inl (fun _ => 0))), (q_6, .inr (4, [.ref a_8, .int 0])), (a_8, .inl (K_4, 10, .inl (fun _ => 0))), (q_11, .inr (4, [.ref a_13, .int 0])), (a_13, .inl (K_14, 10, .inl (fun _ => 0)))] H := hP
  have hD : va_D A [(o, .inr (0, [.ref q_1, .ref q_6, .null])), (q_1, .inr (4, [.ref a_3, .int 0])), (a_3, .inl (K_4, 10, .inl (fun _ => 0))), (q_6, .inr (4, [.ref a_8, .int 0])), (a_8, .inl (K_4, 10, .inl (fun _ => 0))), (q_11, .inr (4, [.ref a_13, .int 0])), (a_13, .inl (K_14, 10, .inl (fun _ => 0)))] := hD
  obtain rfl : K_4 = K_14 := k_one hK (i := 0) (j := 1) rfl rfl
  have hK : va_K D vwCl [(K_4, .int)] s := hK.sub [0] rfl
  refine va_putF (D := D) (ci := 0) (v := .ref q_11) (ty := tyX0 2) (C := RX0) (T := TX0) (N := 3) hx hb ht inA_X0 tyX0 tyX0_ok nmX0 hown hK hP hD hS 0 rfl rfl 2 (by decide) (ht _ lf_X0_23) (fun _ h9 => h9) rfl hin rfl (tyX0_ok 2 (by decide)) rfl rfl (Nat.le_of_ble_eq_true rfl) dX0_init_40 (fun H locs hP hD hS => ?_)
  have hP : va_P D vwCl [(o, .inr (0, [.ref q_1, .ref q_6, .ref q_11])), (q_1, .inr (4, [.ref a_3, .int 0])), (a_3, .inl (K_4, 10, .inl (fun _ => 0))), (q_6, .inr (4, [.ref a_8, .int 0])), (a_8, .inl (K_4, 10, .inl (fun _ => 0))), (q_11, .inr (4, [.ref a_13, .int 0])), (a_13, .inl (K_4, 10, .inl (fun _ => 0)))] H := hP
  have hD : va_D A [(o, .inr (0, [.ref q_1, .ref q_6, .ref q_11])), (q_1, .inr (4, [.ref a_3, .int 0])), (a_3, .inl (K_4, 10, .inl (fun _ => 0))), (q_6, .inr (4, [.ref a_8, .int 0])), (a_8, .inl (K_4, 10, .inl (fun _ => 0))), (q_11, .inr (4, [.ref a_13, .int 0])), (a_13, .inl (K_4, 10, .inl (fun _ => 0)))] := hD
  have hP9 : va_P D vwCl [(o, .inr (0, [.ref q_1, .ref q_6, .ref q_11])), (q_1, .inr (4, [.ref a_3, .int 0])), (a_3, .inl (K_4, 10, .inl (fun _ => 0))), (q_6, .inr (4, [.ref a_8, .int 0])), (a_8, .inl (K_4, 10, .inl (fun _ => 0))), (q_11, .inr (4, [.ref a_13, .int 0])), (a_13, .inl (K_4, 10, .inl (fun _ => 0)))] H := hP.sub [0, 1, 2, 3, 4, 5, 6] rfl
  have hD9 : va_D A [(o, .inr (0, [.ref q_1, .ref q_6, .ref q_11])), (q_1, .inr (4, [.ref a_3, .int 0])), (a_3, .inl (K_4, 10, .inl (fun _ => 0))), (q_6, .inr (4, [.ref a_8, .int 0])), (a_8, .inl (K_4, 10, .inl (fun _ => 0))), (q_11, .inr (4, [.ref a_13, .int 0])), (a_13, .inl (K_4, 10, .inl (fun _ => 0)))] := hD.sub [0, 1, 2, 3, 4, 5, 6] (by decide) rfl
  have hK9 : va_K D vwCl [(K_4, .int)] s := hK.sub [0] rfl
  exact W.vret hx hb hr (fun t ht9 hW9 => ⟨⟨(q_1, a_3, q_6, a_8, q_11, a_13, K_4), rfl, by first | rfl | trivial | (simp only [if_true, if_false, reduceIte, and_self]; done) | simp_all, ⟨by rw [ht9]; exact hP9, va_K.moved hW9.alike hK9, hD9⟩⟩, hS.F ht9⟩) hS.2.2 dX0_init_43
set_option maxHeartbeats 4000000 in
set_option maxRecDepth 100000 in
theorem c_State_init (l : Launch) (D : va_G) (st : Nat) (sz : Nat) : k_Mv (S := Nat × Nat × Nat × Nat × Nat × Nat × Nat × Nat × Nat × Nat × Nat × Nat × Nat × Nat × ClassId) l D yX6_init cX6_init 1 none 3 14 138 55 [.ref st] [(st, .inr (6, [.null, .null, .null, .int 0, .int 0, .int 0]))] [] (fun (u : Nat × Nat × Nat × Nat × Nat × Nat × Nat × Nat × Nat × Nat × Nat × Nat × Nat × Nat × ClassId) => match u with | (la, ld, ldA, lz, lzA, me, meA, li, ln, lnA, ll, llA, lc, lcA, K) => True) (fun u => match u with | (la, ld, ldA, lz, lzA, me, meA, li, ln, lnA, ll, llA, lc, lcA, K) => [(st, .inr (6, [.ref la, .ref me, .ref li, .int 4, .int 0, .int 0])), (la, .inr (2, [.ref ld, .ref lz])), (ld, .inr (4, [.ref ldA, .int 0])), (ldA, .inl (K, 9, .inl (fun _ => 0))), (lz, .inr (4, [.ref lzA, .int 0])), (lzA, .inl (K, 41, .inl (fun _ => 0))), (me, .inr (4, [.ref meA, .int 0])), (meA, .inl (K, 41, .inl (fun _ => 0))), (li, .inr (0, [.ref ln, .ref ll, .ref lc])), (ln, .inr (4, [.ref lnA, .int 0])), (lnA, .inl (K, 10, .inl (fun _ => 0))), (ll, .inr (4, [.ref llA, .int 0])), (llA, .inl (K, 10, .inl (fun _ => 0))), (lc, .inr (4, [.ref lcA, .int 0])), (lcA, .inl (K, 10, .inl (fun _ => 0)))]) (fun u => match u with | (la, ld, ldA, lz, lzA, me, meA, li, ln, lnA, ll, llA, lc, lcA, K) => [(K, .int)]) sz := by
  refine Met.ofW (cc := cX6_init) (maxL := 1) (ret := none) (by decide) rfl ?_
  intro p e s m args below meth c s₁ B hml hv
  obtain ⟨rfl, hsz, hP, hK, hD0, hG⟩ := hv
  have hx := B.exec
  have hb := B.bytes
  have hr := B.returns
  have ht : ∀ v9 ∈ wsA, v9.before ([.ref st] : List Value).toArray s = true := fun v9 h9 => atoms_spec (ws := k_ws yX6_init cX6_init 1 none) B.pre v9 (List.mem_cons_of_mem _ h9)
  have hown : s.vm.findClass RX6 = some m.cls := findClass_of_methodNamed B.named
  have S0 : k_C p s m ([.ref st] : List Value).toArray c cX6_init 1 RX6 := ⟨hx, hb, hml, hown, ht⟩
  have hlocks := B.notSynchronized
  have hin : meth.name = "<init>" := (name_of_methodNamed B.named B.method).1
  subst hsz
  have hD := hD0.self (sz := s.heap.size)
  generalize hAe : va_A [(st, .inr (6, [.null, .null, .null, .int 0, .int 0, .int 0]))] s.heap.size = A at hD hG ⊢
  have hA : ∀ q : Nat, s.heap.size ≤ q → A q := fun q h => by rw [← hAe]; exact Or.inr h
  have hS : va_S A s.heap s.heap [] := va_S.rf
  have hl := lv_entry ([.ref st]) (n := 1) (Nat.le_of_ble_eq_true rfl)
  rw [lg_entry_eq]
  generalize (lg_sl ([.ref st]) ++ List.replicate (1 - (lg_sl ([.ref st])).length) Slot.unset).toArray = ls at hl ⊢
  have hl : lv_has ls 1 [(0, .ref st)] := hl
  have hP : va_P D vwCl [(st, .inr (6, [.null, .null, .null, .int 0, .int 0, .int 0]))] s.heap := hP
  refine lv_aload_n hx hb dX6_init_0 rfl (lv_at hl 0 rfl) ?_
  refine W.objInit hx hb hown (ht _ lo_X6_3) (ht _ lo_inst) (ht _ lo_code) rfl (by rw [hml]; exact hl.1) rfl dX6_init_1 (Nat.le_of_ble_eq_true rfl) (Nat.le_of_ble_eq_true rfl) ?_
  refine W.eq (g2 := F0 m 4 ls []) rfl ?_
  refine lv_aload_n hx hb dX6_init_4 rfl (lv_at hl 0 rfl) ?_
  refine va_new (ci := 2) (fs := [.null, .null]) (C := RX2) (T := TX2) (N := 2) hx hb ht inA_X2 tyX2 tyX2_ok hown (ht _ lc_X6_9) (ht _ lt_BarcodeWand_Label) (ht _ li_BarcodeWand_Label) hK hP hD hS hA rfl (fun j hj => by rcases (show j = 0 ∨ j = 1 by omega) with rfl | rfl <;> rfl) (Nat.le_of_ble_eq_true rfl) (Nat.le_of_ble_eq_true rfl) dX6_init_5 (fun q_1 H hP hD hS => ?_)
  have hP : va_P D vwCl [(st, .inr (6, [.null, .null, .null, .int 0, .int 0, .int 0])), (q_1, .inr (2, [.null, .null]))] H := hP
  have hD : va_D A [(st, .inr (6, [.null, .null, .null, .int 0, .int 0, .int 0])), (q_1, .inr (2, [.null, .null]))] := hD
  refine W.widen (k := 1) (n := 2) (Nat.le_of_ble_eq_true rfl) (Nat.le_of_ble_eq_true rfl) ?_
  refine lv_dup hx hb dX6_init_8 rfl ?_
  have ct := k_cut_of (wc := [(q_1, .inr (2, [.null, .null]))]) (wr := [(st, .inr (6, [.null, .null, .null, .int 0, .int 0, .int 0]))]) (tc := []) hG hS hA hK hP hD [1] [0] [] rfl rfl (by decide) (by decide) (by decide) rfl
  refine k_endv (As := [.ref q_1]) ct (k_runIN (As := []) (rest := [.ref q_1, .ref st]) S0 Li_X6_11 ct (c_Label_init l D q_1 H.size) hl.1 rfl (Nat.le_of_ble_eq_true rfl) rfl dX6_init_9 ⟨⟨Nat.le_of_ble_eq_true rfl, Nat.le_of_ble_eq_true rfl⟩, Nat.le_of_ble_eq_true rfl, Nat.le_of_ble_eq_true rfl⟩) rfl rfl (fun _ u H locs hw_8 hP hD hK hS => ?_)
  obtain ⟨ld_3, ldA_4, lz_5, lzA_6, K_7⟩ := u
  have hK : va_K D vwCl [(K_7, .int)] s := hK
  have hP : va_P D vwCl [(st, .inr (6, [.null, .null, .null, .int 0, .int 0, .int 0])), (q_1, .inr (2, [.ref ld_3, .ref lz_5])), (ld_3, .inr (4, [.ref ldA_4, .int 0])), (ldA_4, .inl (K_7, 9, .inl (fun _ => 0))), (lz_5, .inr (4, [.ref lzA_6, .int 0])), (lzA_6, .inl (K_7, 41, .inl (fun _ => 0)))] H := hP
  have hD : va_D A [(st, .inr (6, [.null, .null, .null, .int 0, .int 0, .int 0])), (q_1, .inr (2, [.ref ld_3, .ref lz_5])), (ld_3, .inr (4, [.ref ldA_4, .int 0])), (ldA_4, .inl (K_7, 9, .inl (fun _ => 0))), (lz_5, .inr (4, [.ref lzA_6, .int 0])), (lzA_6, .inl (K_7, 41, .inl (fun _ => 0)))] := hD
  refine va_putF (D := D) (ci := 6) (v := .ref q_1) (ty := tyX6 0) (C := RX6) (T := TX6) (N := 6) hx hb ht inA_X6 tyX6 tyX6_ok nmX6 hown hK hP hD hS 0 rfl rfl 0 (by decide) (ht _ lf_X6_12) (fun _ h9 => h9) rfl hin rfl (tyX6_ok 0 (by decide)) rfl rfl (Nat.le_of_ble_eq_true rfl) dX6_init_12 (fun H locs hP hD hS => ?_)
  have hP : va_P D vwCl [(st, .inr (6, [.ref q_1, .null, .null, .int 0, .int 0, .int 0])), (q_1, .inr (2, [.ref ld_3, .ref lz_5])), (ld_3, .inr (4, [.ref ldA_4, .int 0])), (ldA_4, .inl (K_7, 9, .inl (fun _ => 0))), (lz_5, .inr (4, [.ref lzA_6, .int 0])), (lzA_6, .inl (K_7, 41, .inl (fun _ => 0)))] H := hP
  have hD : va_D A [(st, .inr (6, [.ref q_1, .null, .null, .int 0, .int 0, .int 0])), (q_1, .inr (2, [.ref ld_3, .ref lz_5])), (ld_3, .inr (4, [.ref ldA_4, .int 0])), (ldA_4, .inl (K_7, 9, .inl (fun _ => 0))), (lz_5, .inr (4, [.ref lzA_6, .int 0])), (lzA_6, .inl (K_7, 41, .inl (fun _ => 0)))] := hD
  refine lv_aload_n hx hb dX6_init_15 rfl (lv_at hl 0 rfl) ?_
  refine va_new (ci := 4) (fs := [.null, .int 0]) (C := RX4) (T := TX4) (N := 2) hx hb ht inA_X4 tyX4 tyX4_ok hown (ht _ lc_X6_18) (ht _ lt_BarcodeWand_Row) (ht _ li_BarcodeWand_Row) hK hP hD hS hA rfl (fun j hj => by rcases (show j = 0 ∨ j = 1 by omega) with rfl | rfl <;> rfl) (Nat.le_of_ble_eq_true rfl) (Nat.le_of_ble_eq_true rfl) dX6_init_16 (fun q_9 H hP hD hS => ?_)
  have hP : va_P D vwCl [(st, .inr (6, [.ref q_1, .null, .null, .int 0, .int 0, .int 0])), (q_1, .inr (2, [.ref ld_3, .ref lz_5])), (ld_3, .inr (4, [.ref ldA_4, .int 0])), (ldA_4, .inl (K_7, 9, .inl (fun _ => 0))), (lz_5, .inr (4, [.ref lzA_6, .int 0])), (lzA_6, .inl (K_7, 41, .inl (fun _ => 0))), (q_9, .inr (4, [.null, .int 0]))] H := hP
  have hD : va_D A [(st, .inr (6, [.ref q_1, .null, .null, .int 0, .int 0, .int 0])), (q_1, .inr (2, [.ref ld_3, .ref lz_5])), (ld_3, .inr (4, [.ref ldA_4, .int 0])), (ldA_4, .inl (K_7, 9, .inl (fun _ => 0))), (lz_5, .inr (4, [.ref lzA_6, .int 0])), (lzA_6, .inl (K_7, 41, .inl (fun _ => 0))), (q_9, .inr (4, [.null, .int 0]))] := hD
  refine W.widen (k := 6) (n := 58) (Nat.le_of_ble_eq_true rfl) (Nat.le_of_ble_eq_true rfl) ?_
  refine lv_dup hx hb dX6_init_19 rfl ?_
  refine lv_bipush (v := 41) hx hb dX6_init_20 (by decide) ?_
  have ct := k_cut_of (wc := [(q_9, .inr (4, [.null, .int 0]))]) (wr := [(st, .inr (6, [.ref q_1, .null, .null, .int 0, .int 0, .int 0])), (q_1, .inr (2, [.ref ld_3, .ref lz_5])), (ld_3, .inr (4, [.ref ldA_4, .int 0])), (ldA_4, .inl (K_7, 9, .inl (fun _ => 0))), (lz_5, .inr (4, [.ref lzA_6, .int 0])), (lzA_6, .inl (K_7, 41, .inl (fun _ => 0)))]) (tc := []) hG hS hA hK hP hD [6] [0, 1, 2, 3, 4, 5] [] rfl rfl (by decide) (by decide) (by decide) rfl
  refine k_endv (As := [.ref q_9, .int 41]) ct (k_runI (As := [.int 41]) (rest := [.ref q_9, .ref st]) S0 Li_X6_20 ct (c_Row_init_41 l D q_9 H.size) hl.1 rfl (Nat.le_of_ble_eq_true rfl) rfl dX6_init_22 ⟨⟨Nat.le_of_ble_eq_true rfl, Nat.le_of_ble_eq_true rfl⟩, Nat.le_of_ble_eq_true rfl, Nat.le_of_ble_eq_true rfl⟩) rfl rfl (fun _ u H locs hw_13 hP hD hK hS => ?_)
  obtain ⟨a_11, K_12⟩ := u
  have hK : va_K D vwCl [(K_7, .int), (K_12, .int)] s := hK
  have hP : va_P D vwCl [(st, .inr (6, [.ref q_1, .null, .null, .int 0, .int 0, .int 0])), (q_1, .inr (2, [.ref ld_3, .ref lz_5])), (ld_3, .inr (4, [.ref ldA_4, .int 0])), (ldA_4, .inl (K_7, 9, .inl (fun _ => 0))), (lz_5, .inr (4, [.ref lzA_6, .int 0])), (lzA_6, .inl (K_7, 41, .inl (fun _ => 0))), (q_9, .inr (4, [.ref a_11, .int 0])), (a_11, .inl (K_12, 41, .inl (fun _ => 0)))] H := hP
  have hD : va_D A [(st, .inr (6, [.ref q_1, .null, .null, .int 0, .int 0, .int 0])), (q_1, .inr (2, [.ref ld_3, .ref lz_5])), (ld_3, .inr (4, [.ref ldA_4, .int 0])), (ldA_4, .inl (K_7, 9, .inl (fun _ => 0))), (lz_5, .inr (4, [.ref lzA_6, .int 0])), (lzA_6, .inl (K_7, 41, .inl (fun _ => 0))), (q_9, .inr (4, [.ref a_11, .int 0])), (a_11, .inl (K_12, 41, .inl (fun _ => 0)))] := hD
  obtain rfl : K_7 = K_12 := k_one hK (i := 0) (j := 1) rfl rfl
  have hK : va_K D vwCl [(K_7, .int)] s := hK.sub [0] rfl
  refine va_putF (D := D) (ci := 6) (v := .ref q_9) (ty := tyX6 1) (C := RX6) (T := TX6) (N := 6) hx hb ht inA_X6 tyX6 tyX6_ok nmX6 hown hK hP hD hS 0 rfl rfl 1 (by decide) (ht _ lf_X6_23) (fun _ h9 => h9) rfl hin rfl (tyX6_ok 1 (by decide)) rfl rfl (Nat.le_of_ble_eq_true rfl) dX6_init_25 (fun H locs hP hD hS => ?_)
  have hP : va_P D vwCl [(st, .inr (6, [.ref q_1, .ref q_9, .null, .int 0, .int 0, .int 0])), (q_1, .inr (2, [.ref ld_3, .ref lz_5])), (ld_3, .inr (4, [.ref ldA_4, .int 0])), (ldA_4, .inl (K_7, 9, .inl (fun _ => 0))), (lz_5, .inr (4, [.ref lzA_6, .int 0])), (lzA_6, .inl (K_7, 41, .inl (fun _ => 0))), (q_9, .inr (4, [.ref a_11, .int 0])), (a_11, .inl (K_7, 41, .inl (fun _ => 0)))] H := hP
  have hD : va_D A [(st, .inr (6, [.ref q_1, .ref q_9, .null, .int 0, .int 0, .int 0])), (q_1, .inr (2, [.ref ld_3, .ref lz_5])), (ld_3, .inr (4, [.ref ldA_4, .int 0])), (ldA_4, .inl (K_7, 9, .inl (fun _ => 0))), (lz_5, .inr (4, [.ref lzA_6, .int 0])), (lzA_6, .inl (K_7, 41, .inl (fun _ => 0))), (q_9, .inr (4, [.ref a_11, .int 0])), (a_11, .inl (K_7, 41, .inl (fun _ => 0)))] := hD
  refine lv_aload_n hx hb dX6_init_28 rfl (lv_at hl 0 rfl) ?_
  refine va_new (ci := 0) (fs := [.null, .null, .null]) (C := RX0) (T := TX0) (N := 3) hx hb ht inA_X0 tyX0 tyX0_ok hown (ht _ lc_X6_27) (ht _ lt_BarcodeWand_CodeList) (ht _ li_BarcodeWand_CodeList) hK hP hD hS hA rfl (fun j hj => by rcases (show j = 0 ∨ j = 1 ∨ j = 2 by omega) with rfl | rfl | rfl <;> rfl) (Nat.le_of_ble_eq_true rfl) (Nat.le_of_ble_eq_true rfl) dX6_init_29 (fun q_14 H hP hD hS => ?_)
  have hP : va_P D vwCl [(st, .inr (6, [.ref q_1, .ref q_9, .null, .int 0, .int 0, .int 0])), (q_1, .inr (2, [.ref ld_3, .ref lz_5])), (ld_3, .inr (4, [.ref ldA_4, .int 0])), (ldA_4, .inl (K_7, 9, .inl (fun _ => 0))), (lz_5, .inr (4, [.ref lzA_6, .int 0])), (lzA_6, .inl (K_7, 41, .inl (fun _ => 0))), (q_9, .inr (4, [.ref a_11, .int 0])), (a_11, .inl (K_7, 41, .inl (fun _ => 0))), (q_14, .inr (0, [.null, .null, .null]))] H := hP
  have hD : va_D A [(st, .inr (6, [.ref q_1, .ref q_9, .null, .int 0, .int 0, .int 0])), (q_1, .inr (2, [.ref ld_3, .ref lz_5])), (ld_3, .inr (4, [.ref ldA_4, .int 0])), (ldA_4, .inl (K_7, 9, .inl (fun _ => 0))), (lz_5, .inr (4, [.ref lzA_6, .int 0])), (lzA_6, .inl (K_7, 41, .inl (fun _ => 0))), (q_9, .inr (4, [.ref a_11, .int 0])), (a_11, .inl (K_7, 41, .inl (fun _ => 0))), (q_14, .inr (0, [.null, .null, .null]))] := hD
  refine W.widen (k := 8) (n := 102) (Nat.le_of_ble_eq_true rfl) (Nat.le_of_ble_eq_true rfl) ?_
  refine lv_dup hx hb dX6_init_32 rfl ?_
  have ct := k_cut_of (wc := [(q_14, .inr (0, [.null, .null, .null]))]) (wr := [(st, .inr (6, [.ref q_1, .ref q_9, .null, .int 0, .int 0, .int 0])), (q_1, .inr (2, [.ref ld_3, .ref lz_5])), (ld_3, .inr (4, [.ref ldA_4, .int 0])), (ldA_4, .inl (K_7, 9, .inl (fun _ => 0))), (lz_5, .inr (4, [.ref lzA_6, .int 0])), (lzA_6, .inl (K_7, 41, .inl (fun _ => 0))), (q_9, .inr (4, [.ref a_11, .int 0])), (a_11, .inl (K_7, 41, .inl (fun _ => 0)))]) (tc := []) hG hS hA hK hP hD [8] [0, 1, 2, 3, 4, 5, 6, 7] [] rfl rfl (by decide) (by decide) (by decide) rfl
  refine k_endv (As := [.ref q_14]) ct (k_runIN (As := []) (rest := [.ref q_14, .ref st]) S0 Li_X6_29 ct (c_CodeList_init l D q_14 H.size) hl.1 rfl (Nat.le_of_ble_eq_true rfl) rfl dX6_init_33 ⟨⟨Nat.le_of_ble_eq_true rfl, Nat.le_of_ble_eq_true rfl⟩, Nat.le_of_ble_eq_true rfl, Nat.le_of_ble_eq_true rfl⟩) rfl rfl (fun _ u H locs hw_23 hP hD hK hS => ?_)
  obtain ⟨ln_16, lnA_17, ll_18, llA_19, lc_20, lcA_21, K_22⟩ := u
  have hK : va_K D vwCl [(K_7, .int), (K_22, .int)] s := hK
  have hP : va_P D vwCl [(st, .inr (6, [.ref q_1, .ref q_9, .null, .int 0, .int 0, .int 0])), (q_1, .inr (2, [.ref ld_3, .ref lz_5])), (ld_3, .inr (4, [.ref ldA_4, .int 0])), (ldA_4, .inl (K_7, 9, .inl (fun _ => 0))), (lz_5, .inr (4, [.ref lzA_6, .int 0])), (lzA_6, .inl (K_7, 41, .inl (fun _ => 0))), (q_9, .inr (4, [.ref a_11, .int 0])), (a_11, .inl (K_7, 41, .inl (fun _ => 0))), (q_14, .inr (0, [.ref ln_16, .ref ll_18, .ref lc_20])), (ln_16, .inr (4, [.ref lnA_17, .int 0])), (lnA_17, .inl (K_22, 10, .inl (fun _ => 0))), (ll_18, .inr (4, [.ref llA_19, .int 0])), (llA_19, .inl (K_22, 10, .inl (fun _ => 0))), (lc_20, .inr (4, [.ref lcA_21, .int 0])), (lcA_21, .inl (K_22, 10, .inl (fun _ => 0)))] H := hP
  have hD : va_D A [(st, .inr (6, [.ref q_1, .ref q_9, .null, .int 0, .int 0, .int 0])), (q_1, .inr (2, [.ref ld_3, .ref lz_5])), (ld_3, .inr (4, [.ref ldA_4, .int 0])), (ldA_4, .inl (K_7, 9, .inl (fun _ => 0))), (lz_5, .inr (4, [.ref lzA_6, .int 0])), (lzA_6, .inl (K_7, 41, .inl (fun _ => 0))), (q_9, .inr (4, [.ref a_11, .int 0])), (a_11, .inl (K_7, 41, .inl (fun _ => 0))), (q_14, .inr (0, [.ref ln_16, .ref ll_18, .ref lc_20])), (ln_16, .inr (4, [.ref lnA_17, .int 0])), (lnA_17, .inl (K_22, 10, .inl (fun _ => 0))), (ll_18, .inr (4, [.ref llA_19, .int 0])), (llA_19, .inl (K_22, 10, .inl (fun _ => 0))), (lc_20, .inr (4, [.ref lcA_21, .int 0])), (lcA_21, .inl (K_22, 10, .inl (fun _ => 0)))] := hD
  obtain rfl : K_7 = K_22 := k_one hK (i := 0) (j := 1) rfl rfl
  have hK : va_K D vwCl [(K_7, .int)] s := hK.sub [0] rfl
  refine va_putF (D := D) (ci := 6) (v := .ref q_14) (ty := tyX6 2) (C := RX6) (T := TX6) (N := 6) hx hb ht inA_X6 tyX6 tyX6_ok nmX6 hown hK hP hD hS 0 rfl rfl 2 (by decide) (ht _ lf_X6_30) (fun _ h9 => h9) rfl hin rfl (tyX6_ok 2 (by decide)) rfl rfl (Nat.le_of_ble_eq_true rfl) dX6_init_36 (fun H locs hP hD hS => ?_)
  have hP : va_P D vwCl [(st, .inr (6, [.ref q_1, .ref q_9, .ref q_14, .int 0, .int 0, .int 0])), (q_1, .inr (2, [.ref ld_3, .ref lz_5])), (ld_3, .inr (4, [.ref ldA_4, .int 0])), (ldA_4, .inl (K_7, 9, .inl (fun _ => 0))), (lz_5, .inr (4, [.ref lzA_6, .int 0])), (lzA_6, .inl (K_7, 41, .inl (fun _ => 0))), (q_9, .inr (4, [.ref a_11, .int 0])), (a_11, .inl (K_7, 41, .inl (fun _ => 0))), (q_14, .inr (0, [.ref ln_16, .ref ll_18, .ref lc_20])), (ln_16, .inr (4, [.ref lnA_17, .int 0])), (lnA_17, .inl (K_7, 10, .inl (fun _ => 0))), (ll_18, .inr (4, [.ref llA_19, .int 0])), (llA_19, .inl (K_7, 10, .inl (fun _ => 0))), (lc_20, .inr (4, [.ref lcA_21, .int 0])), (lcA_21, .inl (K_7, 10, .inl (fun _ => 0)))] H := hP
  have hD : va_D A [(st, .inr (6, [.ref q_1, .ref q_9, .ref q_14, .int 0, .int 0, .int 0])), (q_1, .inr (2, [.ref ld_3, .ref lz_5])), (ld_3, .inr (4, [.ref ldA_4, .int 0])), (ldA_4, .inl (K_7, 9, .inl (fun _ => 0))), (lz_5, .inr (4, [.ref lzA_6, .int 0])), (lzA_6, .inl (K_7, 41, .inl (fun _ => 0))), (q_9, .inr (4, [.ref a_11, .int 0])), (a_11, .inl (K_7, 41, .inl (fun _ => 0))), (q_14, .inr (0, [.ref ln_16, .ref ll_18, .ref lc_20])), (ln_16, .inr (4, [.ref lnA_17, .int 0])), (lnA_17, .inl (K_7, 10, .inl (fun _ => 0))), (ll_18, .inr (4, [.ref llA_19, .int 0])), (llA_19, .inl (K_7, 10, .inl (fun _ => 0))), (lc_20, .inr (4, [.ref lcA_21, .int 0])), (lcA_21, .inl (K_7, 10, .inl (fun _ => 0)))] := hD
  refine lv_aload_n hx hb dX6_init_39 rfl (lv_at hl 0 rfl) ?_
  refine lv_iconst (v := 4) hx hb dX6_init_40 (by decide) ?_
  refine va_put (D := D) (ci := 6) (v := .int 4) (ty := .int) (C := RX6) (T := TX6) (N := 6) hx hb ht inA_X6 tyX6 tyX6_ok nmX6 hown hK hP hD hS 0 rfl rfl 3 (by decide) (ht _ lf_X6_34) (fun _ h9 => h9) rfl (tyX6_ok 3 (by decide)) rfl rfl (Nat.le_of_ble_eq_true rfl) dX6_init_41 (fun H locs hP hD hS => ?_)
  have hP : va_P D vwCl [(st, .inr (6, [.ref q_1, .ref q_9, .ref q_14, .int 4, .int 0, .int 0])), (q_1, .inr (2, [.ref ld_3, .ref lz_5])), (ld_3, .inr (4, [.ref ldA_4, .int 0])), (ldA_4, .inl (K_7, 9, .inl (fun _ => 0))), (lz_5, .inr (4, [.ref lzA_6, .int 0])), (lzA_6, .inl (K_7, 41, .inl (fun _ => 0))), (q_9, .inr (4, [.ref a_11, .int 0])), (a_11, .inl (K_7, 41, .inl (fun _ => 0))), (q_14, .inr (0, [.ref ln_16, .ref ll_18, .ref lc_20])), (ln_16, .inr (4, [.ref lnA_17, .int 0])), (lnA_17, .inl (K_7, 10, .inl (fun _ => 0))), (ll_18, .inr (4, [.ref llA_19, .int 0])), (llA_19, .inl (K_7, 10, .inl (fun _ => 0))), (lc_20, .inr (4, [.ref lcA_21, .int 0])), (lcA_21, .inl (K_7, 10, .inl (fun _ => 0)))] H := hP
  have hD : va_D A [(st, .inr (6, [.ref q_1, .ref q_9, .ref q_14, .int 4, .int 0, .int 0])), (q_1, .inr (2, [.ref ld_3, .ref lz_5])), (ld_3, .inr (4, [.ref ldA_4, .int 0])), (ldA_4, .inl (K_7, 9, .inl (fun _ => 0))), (lz_5, .inr (4, [.ref lzA_6, .int 0])), (lzA_6, .inl (K_7, 41, .inl (fun _ => 0))), (q_9, .inr (4, [.ref a_11, .int 0])), (a_11, .inl (K_7, 41, .inl (fun _ => 0))), (q_14, .inr (0, [.ref ln_16, .ref ll_18, .ref lc_20])), (ln_16, .inr (4, [.ref lnA_17, .int 0])), (lnA_17, .inl (K_7, 10, .inl (fun _ => 0))), (ll_18, .inr (4, [.ref llA_19, .int 0])), (llA_19, .inl (K_7, 10, .inl (fun _ => 0))), (lc_20, .inr (4, [.ref lcA_21, .int 0])), (lcA_21, .inl (K_7, 10, .inl (fun _ => 0)))] := hD
  have hP9 : va_P D vwCl [(st, .inr (6, [.ref q_1, .ref q_9, .ref q_14, .int 4, .int 0, .int 0])), (q_1, .inr (2, [.ref ld_3, .ref lz_5])), (ld_3, .inr (4, [.ref ldA_4, .int 0])), (ldA_4, .inl (K_7, 9, .inl (fun _ => 0))), (lz_5, .inr (4, [.ref lzA_6, .int 0])), (lzA_6, .inl (K_7, 41, .inl (fun _ => 0))), (q_9, .inr (4, [.ref a_11, .int 0])), (a_11, .inl (K_7, 41, .inl (fun _ => 0))), (q_14, .inr (0, [.ref ln_16, .ref ll_18, .ref lc_20])), (ln_16, .inr (4, [.ref lnA_17, .int 0])), (lnA_17, .inl (K_7, 10, .inl (fun _ => 0))), (ll_18, .inr (4, [.ref llA_19, .int 0])), (llA_19, .inl (K_7, 10, .inl (fun _ => 0))), (lc_20, .inr (4, [.ref lcA_21, .int 0])), (lcA_21, .inl (K_7, 10, .inl (fun _ => 0)))] H := hP.sub [0, 1, 2, 3, 4, 5, 6, 7, 8, 9, 10, 11, 12, 13, 14] rfl
  have hD9 : va_D A [(st, .inr (6, [.ref q_1, .ref q_9, .ref q_14, .int 4, .int 0, .int 0])), (q_1, .inr (2, [.ref ld_3, .ref lz_5])), (ld_3, .inr (4, [.ref ldA_4, .int 0])), (ldA_4, .inl (K_7, 9, .inl (fun _ => 0))), (lz_5, .inr (4, [.ref lzA_6, .int 0])), (lzA_6, .inl (K_7, 41, .inl (fun _ => 0))), (q_9, .inr (4, [.ref a_11, .int 0])), (a_11, .inl (K_7, 41, .inl (fun _ => 0))), (q_14, .inr (0, [.ref ln_16, .ref ll_18, .ref lc_20])), (ln_16, .inr (4, [.ref lnA_17, .int 0])), (lnA_17, .inl (K_7, 10, .inl (fun _ => 0))), (ll_18, .inr (4, [.ref llA_19, .int 0])), (llA_19, .inl (K_7, 10, .inl (fun _ => 0))), (lc_20, .inr (4, [.ref lcA_21, .int 0])), (lcA_21, .inl (K_7, 10, .inl (fun _ => 0)))] := hD.sub [0, 1, 2, 3, 4, 5, 6, 7, 8, 9, 10, 11, 12, 13, 14] (by decide) rfl
  have hK9 : va_K D vwCl [(K_7, .int)] s := hK.sub [0] rfl
  exact W.vret hx hb hr (fun t ht9 hW9 => ⟨⟨(q_1, ld_3, ldA_4, lz_5, lzA_6, q_9, a_11, q_14, ln_16, lnA_17, ll_18, llA_19, lc_20, lcA_21, K_7), rfl, by first | rfl | trivial | (simp only [if_true, if_false, reduceIte, and_self]; done) | simp_all, ⟨by rw [ht9]; exact hP9, va_K.moved hW9.alike hK9, hD9⟩⟩, hS.F ht9⟩) hS.2.2 dX6_init_44
set_option maxHeartbeats 4000000 in
set_option maxRecDepth 100000 in
theorem c_Reader_init (l : Launch) (D : va_G) (o : Nat) (sz : Nat) : k_Mv (S := Nat × Nat × Nat × Nat × ClassId) l D yX3_init cX3_init 1 none 2 4 54 35 [.ref o] [(o, .inr (3, [.null, .int 0, .null, .int 0, .int 0, .int 0, .int 0, .int 0]))] [] (fun (u : Nat × Nat × Nat × Nat × ClassId) => match u with | (rd, rdA, rl, rlA, K) => True) (fun u => match u with | (rd, rdA, rl, rlA, K) => [(o, .inr (3, [.ref rd, .int 0, .ref rl, .int 0, .int 0, .int 0, .int 0, .int 0])), (rd, .inr (4, [.ref rdA, .int 0])), (rdA, .inl (K, 9, .inl (fun _ => 0))), (rl, .inr (4, [.ref rlA, .int 0])), (rlA, .inl (K, 41, .inl (fun _ => 0)))]) (fun u => match u with | (rd, rdA, rl, rlA, K) => [(K, .int)]) sz := by
  refine Met.ofW (cc := cX3_init) (maxL := 1) (ret := none) (by decide) rfl ?_
  intro p e s m args below meth c s₁ B hml hv
  obtain ⟨rfl, hsz, hP, hK, hD0, hG⟩ := hv
  have hx := B.exec
  have hb := B.bytes
  have hr := B.returns
  have ht : ∀ v9 ∈ wsA, v9.before ([.ref o] : List Value).toArray s = true := fun v9 h9 => atoms_spec (ws := k_ws yX3_init cX3_init 1 none) B.pre v9 (List.mem_cons_of_mem _ h9)
  have hown : s.vm.findClass RX3 = some m.cls := findClass_of_methodNamed B.named
  have S0 : k_C p s m ([.ref o] : List Value).toArray c cX3_init 1 RX3 := ⟨hx, hb, hml, hown, ht⟩
  have hlocks := B.notSynchronized
  have hin : meth.name = "<init>" := (name_of_methodNamed B.named B.method).1
  subst hsz
  have hD := hD0.self (sz := s.heap.size)
  generalize hAe : va_A [(o, .inr (3, [.null, .int 0, .null, .int 0, .int 0, .int 0, .int 0, .int 0]))] s.heap.size = A at hD hG ⊢
  have hA : ∀ q : Nat, s.heap.size ≤ q → A q := fun q h => by rw [← hAe]; exact Or.inr h
  have hS : va_S A s.heap s.heap [] := va_S.rf
  have hl := lv_entry ([.ref o]) (n := 1) (Nat.le_of_ble_eq_true rfl)
  rw [lg_entry_eq]
  generalize (lg_sl ([.ref o]) ++ List.replicate (1 - (lg_sl ([.ref o])).length) Slot.unset).toArray = ls at hl ⊢
  have hl : lv_has ls 1 [(0, .ref o)] := hl
  have hP : va_P D vwCl [(o, .inr (3, [.null, .int 0, .null, .int 0, .int 0, .int 0, .int 0, .int 0]))] s.heap := hP
  refine lv_aload_n hx hb dX3_init_0 rfl (lv_at hl 0 rfl) ?_
  refine W.objInit hx hb hown (ht _ lo_X3_3) (ht _ lo_inst) (ht _ lo_code) rfl (by rw [hml]; exact hl.1) rfl dX3_init_1 (Nat.le_of_ble_eq_true rfl) (Nat.le_of_ble_eq_true rfl) ?_
  refine W.eq (g2 := F0 m 4 ls []) rfl ?_
  refine lv_aload_n hx hb dX3_init_4 rfl (lv_at hl 0 rfl) ?_
  refine va_new (ci := 4) (fs := [.null, .int 0]) (C := RX4) (T := TX4) (N := 2) hx hb ht inA_X4 tyX4 tyX4_ok hown (ht _ lc_X3_9) (ht _ lt_BarcodeWand_Row) (ht _ li_BarcodeWand_Row) hK hP hD hS hA rfl (fun j hj => by rcases (show j = 0 ∨ j = 1 by omega) with rfl | rfl <;> rfl) (Nat.le_of_ble_eq_true rfl) (Nat.le_of_ble_eq_true rfl) dX3_init_5 (fun q_1 H hP hD hS => ?_)
  have hP : va_P D vwCl [(o, .inr (3, [.null, .int 0, .null, .int 0, .int 0, .int 0, .int 0, .int 0])), (q_1, .inr (4, [.null, .int 0]))] H := hP
  have hD : va_D A [(o, .inr (3, [.null, .int 0, .null, .int 0, .int 0, .int 0, .int 0, .int 0])), (q_1, .inr (4, [.null, .int 0]))] := hD
  refine W.widen (k := 1) (n := 2) (Nat.le_of_ble_eq_true rfl) (Nat.le_of_ble_eq_true rfl) ?_
  refine lv_dup hx hb dX3_init_8 rfl ?_
  refine lv_bipush (v := 9) hx hb dX3_init_9 (by decide) ?_
  have ct := k_cut_of (wc := [(q_1, .inr (4, [.null, .int 0]))]) (wr := [(o, .inr (3, [.null, .int 0, .null, .int 0, .int 0, .int 0, .int 0, .int 0]))]) (tc := []) hG hS hA hK hP hD [1] [0] [] rfl rfl (by decide) (by decide) (by decide) rfl
  refine k_endv (As := [.ref q_1, .int 9]) ct (k_runI (As := [.int 9]) (rest := [.ref q_1, .ref o]) S0 Li_X3_11 ct (c_Row_init_9 l D q_1 H.size) hl.1 rfl (Nat.le_of_ble_eq_true rfl) rfl dX3_init_11 ⟨⟨Nat.le_of_ble_eq_true rfl, Nat.le_of_ble_eq_true rfl⟩, Nat.le_of_ble_eq_true rfl, Nat.le_of_ble_eq_true rfl⟩) rfl rfl (fun _ u H locs hw_5 hP hD hK hS => ?_)
  obtain ⟨a_3, K_4⟩ := u
  have hK : va_K D vwCl [(K_4, .int)] s := hK
  have hP : va_P D vwCl [(o, .inr (3, [.null, .int 0, .null, .int 0, .int 0, .int 0, .int 0, .int 0])), (q_1, .inr (4, [.ref a_3, .int 0])), (a_3, .inl (K_4, 9, .inl (fun _ => 0)))] H := hP
  have hD : va_D A [(o, .inr (3, [.null, .int 0, .null, .int 0, .int 0, .int 0, .int 0, .int 0])), (q_1, .inr (4, [.ref a_3, .int 0])), (a_3, .inl (K_4, 9, .inl (fun _ => 0)))] := hD
  refine va_putF (D := D) (ci := 3) (v := .ref q_1) (ty := tyX3 0) (C := RX3) (T := TX3) (N := 8) hx hb ht inA_X3 tyX3 tyX3_ok nmX3 hown hK hP hD hS 0 rfl rfl 0 (by decide) (ht _ lf_X3_14) (fun _ h9 => h9) rfl hin rfl (tyX3_ok 0 (by decide)) rfl rfl (Nat.le_of_ble_eq_true rfl) dX3_init_14 (fun H locs hP hD hS => ?_)
  have hP : va_P D vwCl [(o, .inr (3, [.ref q_1, .int 0, .null, .int 0, .int 0, .int 0, .int 0, .int 0])), (q_1, .inr (4, [.ref a_3, .int 0])), (a_3, .inl (K_4, 9, .inl (fun _ => 0)))] H := hP
  have hD : va_D A [(o, .inr (3, [.ref q_1, .int 0, .null, .int 0, .int 0, .int 0, .int 0, .int 0])), (q_1, .inr (4, [.ref a_3, .int 0])), (a_3, .inl (K_4, 9, .inl (fun _ => 0)))] := hD
  refine lv_aload_n hx hb dX3_init_17 rfl (lv_at hl 0 rfl) ?_
  refine va_new (ci := 4) (fs := [.null, .int 0]) (C := RX4) (T := TX4) (N := 2) hx hb ht inA_X4 tyX4 tyX4_ok hown (ht _ lc_X3_9) (ht _ lt_BarcodeWand_Row) (ht _ li_BarcodeWand_Row) hK hP hD hS hA rfl (fun j hj => by rcases (show j = 0 ∨ j = 1 by omega) with rfl | rfl <;> rfl) (Nat.le_of_ble_eq_true rfl) (Nat.le_of_ble_eq_true rfl) dX3_init_18 (fun q_6 H hP hD hS => ?_)
  have hP : va_P D vwCl [(o, .inr (3, [.ref q_1, .int 0, .null, .int 0, .int 0, .int 0, .int 0, .int 0])), (q_1, .inr (4, [.ref a_3, .int 0])), (a_3, .inl (K_4, 9, .inl (fun _ => 0))), (q_6, .inr (4, [.null, .int 0]))] H := hP
  have hD : va_D A [(o, .inr (3, [.ref q_1, .int 0, .null, .int 0, .int 0, .int 0, .int 0, .int 0])), (q_1, .inr (4, [.ref a_3, .int 0])), (a_3, .inl (K_4, 9, .inl (fun _ => 0))), (q_6, .inr (4, [.null, .int 0]))] := hD
  refine W.widen (k := 3) (n := 13) (Nat.le_of_ble_eq_true rfl) (Nat.le_of_ble_eq_true rfl) ?_
  refine lv_dup hx hb dX3_init_21 rfl ?_
  refine lv_bipush (v := 41) hx hb dX3_init_22 (by decide) ?_
  have ct := k_cut_of (wc := [(q_6, .inr (4, [.null, .int 0]))]) (wr := [(o, .inr (3, [.ref q_1, .int 0, .null, .int 0, .int 0, .int 0, .int 0, .int 0])), (q_1, .inr (4, [.ref a_3, .int 0])), (a_3, .inl (K_4, 9, .inl (fun _ => 0)))]) (tc := []) hG hS hA hK hP hD [3] [0, 1, 2] [] rfl rfl (by decide) (by decide) (by decide) rfl
  refine k_endv (As := [.ref q_6, .int 41]) ct (k_runI (As := [.int 41]) (rest := [.ref q_6, .ref o]) S0 Li_X3_11 ct (c_Row_init_41 l D q_6 H.size) hl.1 rfl (Nat.le_of_ble_eq_true rfl) rfl dX3_init_24 ⟨⟨Nat.le_of_ble_eq_true rfl, Nat.le_of_ble_eq_true rfl⟩, Nat.le_of_ble_eq_true rfl, Nat.le_of_ble_eq_true rfl⟩) rfl rfl (fun _ u H locs hw_10 hP hD hK hS => ?_)
  obtain ⟨a_8, K_9⟩ := u
  have hK : va_K D vwCl [(K_4, .int), (K_9, .int)] s := hK
  have hP : va_P D vwCl [(o, .inr (3, [.ref q_1, .int 0, .null, .int 0, .int 0, .int 0, .int 0, .int 0])), (q_1, .inr (4, [.ref a_3, .int 0])), (a_3, .inl (K_4, 9, .inl (fun _ => 0))), (q_6, .inr (4, [.ref a_8, .int 0])), (a_8, .inl (K_9, 41, .inl (fun _ => 0)))] H := hP
  have hD : va_D A [(o, .inr (3, [.ref q_1, .int 0, .null, .int 0, .int 0, .int 0, .int 0, .int 0])), (q_1, .inr (4, [.ref a_3, .int 0])), (a_3, .inl (K_4, 9, .inl (fun _ => 0))), (q_6, .inr (4, [.ref a_8, .int 0])), (a_8, .inl (K_9, 41, .inl (fun _ => 0)))] := hD
  obtain rfl : K_4 = K_9 := k_one hK (i := 0) (j := 1) rfl rfl
  have hK : va_K D vwCl [(K_4, .int)] s := hK.sub [0] rfl
  refine va_putF (D := D) (ci := 3) (v := .ref q_6) (ty := tyX3 2) (C := RX3) (T := TX3) (N := 8) hx hb ht inA_X3 tyX3 tyX3_ok nmX3 hown hK hP hD hS 0 rfl rfl 2 (by decide) (ht _ lf_X3_20) (fun _ h9 => h9) rfl hin rfl (tyX3_ok 2 (by decide)) rfl rfl (Nat.le_of_ble_eq_true rfl) dX3_init_27 (fun H locs hP hD hS => ?_)
  have hP : va_P D vwCl [(o, .inr (3, [.ref q_1, .int 0, .ref q_6, .int 0, .int 0, .int 0, .int 0, .int 0])), (q_1, .inr (4, [.ref a_3, .int 0])), (a_3, .inl (K_4, 9, .inl (fun _ => 0))), (q_6, .inr (4, [.ref a_8, .int 0])), (a_8, .inl (K_4, 41, .inl (fun _ => 0)))] H := hP
  have hD : va_D A [(o, .inr (3, [.ref q_1, .int 0, .ref q_6, .int 0, .int 0, .int 0, .int 0, .int 0])), (q_1, .inr (4, [.ref a_3, .int 0])), (a_3, .inl (K_4, 9, .inl (fun _ => 0))), (q_6, .inr (4, [.ref a_8, .int 0])), (a_8, .inl (K_4, 41, .inl (fun _ => 0)))] := hD
  have hP9 : va_P D vwCl [(o, .inr (3, [.ref q_1, .int 0, .ref q_6, .int 0, .int 0, .int 0, .int 0, .int 0])), (q_1, .inr (4, [.ref a_3, .int 0])), (a_3, .inl (K_4, 9, .inl (fun _ => 0))), (q_6, .inr (4, [.ref a_8, .int 0])), (a_8, .inl (K_4, 41, .inl (fun _ => 0)))] H := hP.sub [0, 1, 2, 3, 4] rfl
  have hD9 : va_D A [(o, .inr (3, [.ref q_1, .int 0, .ref q_6, .int 0, .int 0, .int 0, .int 0, .int 0])), (q_1, .inr (4, [.ref a_3, .int 0])), (a_3, .inl (K_4, 9, .inl (fun _ => 0))), (q_6, .inr (4, [.ref a_8, .int 0])), (a_8, .inl (K_4, 41, .inl (fun _ => 0)))] := hD.sub [0, 1, 2, 3, 4] (by decide) rfl
  have hK9 : va_K D vwCl [(K_4, .int)] s := hK.sub [0] rfl
  exact W.vret hx hb hr (fun t ht9 hW9 => ⟨⟨(q_1, a_3, q_6, a_8, K_4), rfl, by first | rfl | trivial | (simp only [if_true, if_false, reduceIte, and_self]; done) | simp_all, ⟨by rw [ht9]; exact hP9, va_K.moved hW9.alike hK9, hD9⟩⟩, hS.F ht9⟩) hS.2.2 dX3_init_30
set_option maxHeartbeats 4000000 in
set_option maxRecDepth 100000 in
theorem c_Parser_init (l : Launch) (D : va_G) (o : Nat) (sz : Nat) : k_Mv (S := Unit) l D yX1_init cX1_init 1 none 1 0 0 12 [.ref o] [(o, .inr (1, [.int 0, .int 0, .int 0, .int 0, .int 0, .int 0]))] [] (fun (_ : Unit) => True) (fun _ => [(o, .inr (1, [.int 0, .int 0, .int 0, .int 0, .int 0, .int 0]))]) (fun _ => []) sz := by
  refine Met.ofW (cc := cX1_init) (maxL := 1) (ret := none) (by decide) rfl ?_
  intro p e s m args below meth c s₁ B hml hv
  obtain ⟨rfl, hsz, hP, hK, hD0, hG⟩ := hv
  have hx := B.exec
  have hb := B.bytes
  have hr := B.returns
  have ht : ∀ v9 ∈ wsA, v9.before ([.ref o] : List Value).toArray s = true := fun v9 h9 => atoms_spec (ws := k_ws yX1_init cX1_init 1 none) B.pre v9 (List.mem_cons_of_mem _ h9)
  have hown : s.vm.findClass RX1 = some m.cls := findClass_of_methodNamed B.named
  have S0 : k_C p s m ([.ref o] : List Value).toArray c cX1_init 1 RX1 := ⟨hx, hb, hml, hown, ht⟩
  have hlocks := B.notSynchronized
  have hin : meth.name = "<init>" := (name_of_methodNamed B.named B.method).1
  subst hsz
  have hD := hD0.self (sz := s.heap.size)
  generalize hAe : va_A [(o, .inr (1, [.int 0, .int 0, .int 0, .int 0, .int 0, .int 0]))] s.heap.size = A at hD hG ⊢
  have hA : ∀ q : Nat, s.heap.size ≤ q → A q := fun q h => by rw [← hAe]; exact Or.inr h
  have hS : va_S A s.heap s.heap [] := va_S.rf
  have hl := lv_entry ([.ref o]) (n := 1) (Nat.le_of_ble_eq_true rfl)
  rw [lg_entry_eq]
  generalize (lg_sl ([.ref o]) ++ List.replicate (1 - (lg_sl ([.ref o])).length) Slot.unset).toArray = ls at hl ⊢
  have hl : lv_has ls 1 [(0, .ref o)] := hl
  have hP : va_P D vwCl [(o, .inr (1, [.int 0, .int 0, .int 0, .int 0, .int 0, .int 0]))] s.heap := hP
  refine lv_aload_n hx hb dX1_init_0 rfl (lv_at hl 0 rfl) ?_
  refine W.objInit hx hb hown (ht _ lo_X1_3) (ht _ lo_inst) (ht _ lo_code) rfl (by rw [hml]; exact hl.1) rfl dX1_init_1 (Nat.le_of_ble_eq_true rfl) (Nat.le_of_ble_eq_true rfl) ?_
  refine W.eq (g2 := F0 m 4 ls []) rfl ?_
  have hP9 : va_P D vwCl [(o, .inr (1, [.int 0, .int 0, .int 0, .int 0, .int 0, .int 0]))] s.heap := hP.sub [0] rfl
  have hD9 : va_D A [(o, .inr (1, [.int 0, .int 0, .int 0, .int 0, .int 0, .int 0]))] := hD.sub [0] (by decide) rfl
  have hK9 : va_K D vwCl [] s := hK.sub [] rfl
  exact W.vret hx hb hr (fun t ht9 hW9 => ⟨⟨(), rfl, by first | rfl | trivial | (simp only [if_true, if_false, reduceIte, and_self]; done) | simp_all, ⟨by rw [ht9]; exact hP9, va_K.moved hW9.alike hK9, hD9⟩⟩, hS.F ht9⟩) hS.2.2 dX1_init_4
