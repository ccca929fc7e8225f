set_option maxRecDepth 20000 in
theorem lo_X8_1 : Cond.methodLink RX8 1 objectInit ∈ wsA := mA 786 rfl rfl
set_option maxRecDepth 20000 in
theorem la_char : Cond.arrayClass .char ∈ wsA := mA 824 rfl rfl
set_option maxRecDepth 20000 in
theorem lf_X8_13 : Cond.fieldLink RX8 13 "BarcodeWandModel" "buffer" "[C" ∈ wsA := mA 789 rfl rfl
theorem dX8_init_0 : decode cX8_init 0 = .ok (.aload_n 0, 1) := by decide +kernel
theorem dX8_init_1 : decode cX8_init 1 = .ok (.invokespecial 1, 3) := by decide +kernel
theorem dX8_init_4 : decode cX8_init 4 = .ok (.aload_n 0, 1) := by decide +kernel
theorem dX8_init_5 : decode cX8_init 5 = .ok (.sipush 889, 3) := by decide +kernel
theorem dX8_init_8 : decode cX8_init 8 = .ok (.newarray .int, 2) := by decide +kernel
theorem dX8_init_10 : decode cX8_init 10 = .ok (.putfield 7, 3) := by decide +kernel
theorem dX8_init_13 : decode cX8_init 13 = .ok (.aload_n 0, 1) := by decide +kernel
theorem dX8_init_14 : decode cX8_init 14 = .ok (.bipush 60, 2) := by decide +kernel
theorem dX8_init_16 : decode cX8_init 16 = .ok (.newarray .char, 2) := by decide +kernel
theorem dX8_init_18 : decode cX8_init 18 = .ok (.putfield 13, 3) := by decide +kernel
theorem dX8_init_21 : decode cX8_init 21 = .ok (.aload_n 0, 1) := by decide +kernel
theorem dX8_init_22 : decode cX8_init 22 = .ok (.bipush 41, 2) := by decide +kernel
theorem dX8_init_24 : decode cX8_init 24 = .ok (.newarray .int, 2) := by decide +kernel
theorem dX8_init_26 : decode cX8_init 26 = .ok (.putfield 17, 3) := by decide +kernel
theorem dX8_init_29 : decode cX8_init 29 = .ok (.aload_n 0, 1) := by decide +kernel
theorem dX8_init_30 : decode cX8_init 30 = .ok (.bipush 9, 2) := by decide +kernel
theorem dX8_init_32 : decode cX8_init 32 = .ok (.newarray .int, 2) := by decide +kernel
theorem dX8_init_34 : decode cX8_init 34 = .ok (.putfield 20, 3) := by decide +kernel
theorem dX8_init_37 : decode cX8_init 37 = .ok (.aload_n 0, 1) := by decide +kernel
theorem dX8_init_38 : decode cX8_init 38 = .ok (.getfield 7, 3) := by decide +kernel
theorem dX8_init_41 : decode cX8_init 41 = .ok (.bipush 93, 2) := by decide +kernel
theorem dX8_init_43 : decode cX8_init 43 = .ok (.iconst 4, 1) := by decide +kernel
theorem dX8_init_44 : decode cX8_init 44 = .ok (.iastore, 1) := by decide +kernel
theorem dX8_init_45 : decode cX8_init 45 = .ok (.return_, 1) := by decide +kernel
set_option maxHeartbeats 4000000 in
set_option maxRecDepth 100000 in
theorem c_M_init (l : Launch) (D : va_G) (mo : Nat) (sz : Nat) : k_Mv (S := Nat × Nat × Nat × Nat × ClassId × ClassId) l D yX8_init cX8_init 1 none 1 4 999 12 [.ref mo] [(mo, .inr (8, [.null, .int 0, .null, .int 0, .int 0, .null, .int 0, .null, .int 0, .int 0, .int 0, .int 0]))] [] (fun (u : Nat × Nat × Nat × Nat × ClassId × ClassId) => match u with | (ms, mb, mlk, mfd, K, KC) => True) (fun u => match u with | (ms, mb, mlk, mfd, K, KC) => [(mo, .inr (8, [.ref ms, .int 0, .ref mb, .int 0, .int 0, .ref mlk, .int 0, .ref mfd, .int 0, .int 0, .int 0, .int 0])), (ms, .inl (K, 889, .inl (upd (fun _ => 0) 93 4))), (mb, .inl (KC, 60, .inl (fun _ => 0))), (mlk, .inl (K, 41, .inl (fun _ => 0))), (mfd, .inl (K, 9, .inl (fun _ => 0)))]) (fun u => match u with | (ms, mb, mlk, mfd, K, KC) => [(K, .int), (KC, .char)]) sz := by
  refine Met.ofW (cc := cX8_init) (maxL := 1) (ret := none) (by decide) rfl ?_
  intro p e s m args below meth c s₁ B hml hv
  obtain ⟨rfl, hsz, hP, hK, hD0, hG⟩ := hv
  have hx := B.exec
  have hb := B.bytes
  have hr := B.returns
  have ht : ∀ v9 ∈ wsA, v9.before ([.ref mo] : List Value).toArray s = true := fun v9 h9 => atoms_spec (ws := k_ws yX8_init cX8_init 1 none) B.pre v9 (List.mem_cons_of_mem _ h9)
  have hown : s.vm.findClass RX8 = some m.cls := findClass_of_methodNamed B.named
  have S0 : k_C p s m ([.ref mo] : List Value).toArray c cX8_init 1 RX8 := ⟨hx, hb, hml, hown, ht⟩
  have hlocks := B.notSynchronized
  have hin : meth.name = "<init>" := (name_of_methodNamed B.named B.method).1
  subst hsz
  have hD := hD0.self (sz := s.heap.size)
  generalize hAe : va_A [(mo, .inr (8, [.null, .int 0, .null, .int 0, .int 0, .null, .int 0, .null, .int 0, .int 0, .int 0, .int 0]))] s.heap.size = A at hD hG ⊢
  have hA : ∀ q : Nat, s.heap.size ≤ q → A q := fun q h => by rw [← hAe]; exact Or.inr h
  have hS : va_S A s.heap s.heap [] := va_S.rf
  have hl := lv_entry ([.ref mo]) (n := 1) (Nat.le_of_ble_eq_true rfl)
  rw [lg_entry_eq]
  generalize (lg_sl ([.ref mo]) ++ List.replicate (1 - (lg_sl ([.ref mo])).length) Slot.unset).toArray = ls at hl ⊢
  have hl : lv_has ls 1 [(0, .ref mo)] := hl
  have hP : va_P D vwCl [(mo, .inr (8, [.null, .int 0, .null, .int 0, .int 0, .null, .int 0, .null, .int 0, .int 0, .int 0, .int 0]))] s.heap := hP
  refine lv_aload_n hx hb dX8_init_0 rfl (lv_at hl 0 rfl) ?_
  refine W.objInit hx hb hown (ht _ lo_X8_1) (ht _ lo_inst) (ht _ lo_code) rfl (by rw [hml]; exact hl.1) rfl dX8_init_1 (Nat.le_of_ble_eq_true rfl) (Nat.le_of_ble_eq_true rfl) ?_
  refine W.eq (g2 := F0 m 4 ls []) rfl ?_
  refine lv_aload_n hx hb dX8_init_4 rfl (lv_at hl 0 rfl) ?_
  refine lv_sipush (v := 889) hx hb dX8_init_5 (by decide) ?_
  refine va_newa (atype := .int) (ty := .int) hx hb (ht _ la_int) rfl hK hP hD hS hA (N' := 889) (a0 := (889, .inl (fun _ => 0))) (fun cA => rfl) (by decide) (by decide) (Nat.le_of_ble_eq_true rfl) (Nat.le_of_ble_eq_true rfl) (Nat.le_of_ble_eq_true rfl) dX8_init_8 (fun q_1 K_2 H hK hP hD hS => ?_)
  have hK : va_K D vwCl [(K_2, .int)] s := hK
  have hP : va_P D vwCl [(mo, .inr (8, [.null, .int 0, .null, .int 0, .int 0, .null, .int 0, .null, .int 0, .int 0, .int 0, .int 0])), (q_1, .inl (K_2, 889, .inl (fun _ => 0)))] H := hP
  have hD : va_D A [(mo, .inr (8, [.null, .int 0, .null, .int 0, .int 0, .null, .int 0, .null, .int 0, .int 0, .int 0, .int 0])), (q_1, .inl (K_2, 889, .inl (fun _ => 0)))] := hD
  refine W.widen (k := 1) (n := 889) (Nat.le_of_ble_eq_true rfl) (Nat.le_of_ble_eq_true rfl) ?_
  refine va_putF (D := D) (ci := 8) (v := .ref q_1) (ty := tyX8 0) (C := RX8) (T := TX8) (N := 12) hx hb ht inA_X8 tyX8 tyX8_ok nmX8 hown hK hP hD hS 0 rfl rfl 0 (by decide) (ht _ lf_X8_7) (fun _ h9 => h9) rfl hin rfl (tyX8_ok 0 (by decide)) rfl rfl (Nat.le_of_ble_eq_true rfl) dX8_init_10 (fun H locs hP hD hS => ?_)
  have hP : va_P D vwCl [(mo, .inr (8, [.ref q_1, .int 0, .null, .int 0, .int 0, .null, .int 0, .null, .int 0, .int 0, .int 0, .int 0])), (q_1, .inl (K_2, 889, .inl (fun _ => 0)))] H := hP
  have hD : va_D A [(mo, .inr (8, [.ref q_1, .int 0, .null, .int 0, .int 0, .null, .int 0, .null, .int 0, .int 0, .int 0, .int 0])), (q_1, .inl (K_2, 889, .inl (fun _ => 0)))] := hD
  refine lv_aload_n hx hb dX8_init_13 rfl (lv_at hl 0 rfl) ?_
  refine lv_bipush (v := 60) hx hb dX8_init_14 (by decide) ?_
  refine va_newa (atype := .char) (ty := .char) hx hb (ht _ la_char) rfl hK hP hD hS hA (N' := 60) (a0 := (60, .inl (fun _ => 0))) (fun cA => rfl) (by decide) (by decide) (Nat.le_of_ble_eq_true rfl) (Nat.le_of_ble_eq_true rfl) (Nat.le_of_ble_eq_true rfl) dX8_init_16 (fun q_3 K_4 H hK hP hD hS => ?_)
  have hK : va_K D vwCl [(K_2, .int), (K_4, .char)] s := hK
  have hP : va_P D vwCl [(mo, .inr (8, [.ref q_1, .int 0, .null, .int 0, .int 0, .null, .int 0, .null, .int 0, .int 0, .int 0, .int 0])), (q_1, .inl (K_2, 889, .inl (fun _ => 0))), (q_3, .inl (K_4, 60, .inl (fun _ => 0)))] H := hP
  have hD : va_D A [(mo, .inr (8, [.ref q_1, .int 0, .null, .int 0, .int 0, .null, .int 0, .null, .int 0, .int 0, .int 0, .int 0])), (q_1, .inl (K_2, 889, .inl (fun _ => 0))), (q_3, .inl (K_4, 60, .inl (fun _ => 0)))] := hD
  refine W.widen (k := 2) (n := 949) (Nat.le_of_ble_eq_true rfl) (Nat.le_of_ble_eq_true rfl) ?_
  refine va_putF (D := D) (ci := 8) (v := .ref q_3) (ty := tyX8 2) (C := RX8) (T := TX8) (N := 12) hx hb ht inA_X8 tyX8 tyX8_ok nmX8 hown hK hP hD hS 0 rfl rfl 2 (by decide) (ht _ lf_X8_13) (fun _ h9 => h9) rfl hin rfl (tyX8_ok 2 (by decide)) rfl rfl (Nat.le_of_ble_eq_true rfl) dX8_init_18 (fun H locs hP hD hS => ?_)
  have hP : va_P D vwCl [(mo, .inr (8, [.ref q_1, .int 0, .ref q_3, .int 0, .int 0, .null, .int 0, .null, .int 0, .int 0, .int 0, .int 0])), (q_1, .inl (K_2, 889, .inl (fun _ => 0))), (q_3, .inl (K_4, 60, .inl (fun _ => 0)))] H := hP
  have hD : va_D A [(mo, .inr (8, [.ref q_1, .int 0, .ref q_3, .int 0, .int 0, .null, .int 0, .null, .int 0, .int 0, .int 0, .int 0])), (q_1, .inl (K_2, 889, .inl (fun _ => 0))), (q_3, .inl (K_4, 60, .inl (fun _ => 0)))] := hD
  refine lv_aload_n hx hb dX8_init_21 rfl (lv_at hl 0 rfl) ?_
  refine lv_bipush (v := 41) hx hb dX8_init_22 (by decide) ?_
  refine va_newa (atype := .int) (ty := .int) hx hb (ht _ la_int) rfl hK hP hD hS hA (N' := 41) (a0 := (41, .inl (fun _ => 0))) (fun cA => rfl) (by decide) (by decide) (Nat.le_of_ble_eq_true rfl) (Nat.le_of_ble_eq_true rfl) (Nat.le_of_ble_eq_true rfl) dX8_init_24 (fun q_5 K_6 H hK hP hD hS => ?_)
  have hK : va_K D vwCl [(K_2, .int), (K_4, .char), (K_6, .int)] s := hK
  have hP : va_P D vwCl [(mo, .inr (8, [.ref q_1, .int 0, .ref q_3, .int 0, .int 0, .null, .int 0, .null, .int 0, .int 0, .int 0, .int 0])), (q_1, .inl (K_2, 889, .inl (fun _ => 0))), (q_3, .inl (K_4, 60, .inl (fun _ => 0))), (q_5, .inl (K_6, 41, .inl (fun _ => 0)))] H := hP
  have hD : va_D A [(mo, .inr (8, [.ref q_1, .int 0, .ref q_3, .int 0, .int 0, .null, .int 0, .null, .int 0, .int 0, .int 0, .int 0])), (q_1, .inl (K_2, 889, .inl (fun _ => 0))), (q_3, .inl (K_4, 60, .inl (fun _ => 0))), (q_5, .inl (K_6, 41, .inl (fun _ => 0)))] := hD
  refine W.widen (k := 3) (n := 990) (Nat.le_of_ble_eq_true rfl) (Nat.le_of_ble_eq_true rfl) ?_
  obtain rfl : K_2 = K_6 := k_one hK (i := 0) (j := 2) rfl rfl
  have hK : va_K D vwCl [(K_2, .int), (K_4, .char)] s := hK.sub [0, 1] rfl
  refine va_putF (D := D) (ci := 8) (v := .ref q_5) (ty := tyX8 5) (C := RX8) (T := TX8) (N := 12) hx hb ht inA_X8 tyX8 tyX8_ok nmX8 hown hK hP hD hS 0 rfl rfl 5 (by decide) (ht _ lf_X8_17) (fun _ h9 => h9) rfl hin rfl (tyX8_ok 5 (by decide)) rfl rfl (Nat.le_of_ble_eq_true rfl) dX8_init_26 (fun H locs hP hD hS => ?_)
  have hP : va_P D vwCl [(mo, .inr (8, [.ref q_1, .int 0, .ref q_3, .int 0, .int 0, .ref q_5, .int 0, .null, .int 0, .int 0, .int 0, .int 0])), (q_1, .inl (K_2, 889, .inl (fun _ => 0))), (q_3, .inl (K_4, 60, .inl (fun _ => 0))), (q_5, .inl (K_2, 41, .inl (fun _ => 0)))] H := hP
  have hD : va_D A [(mo, .inr (8, [.ref q_1, .int 0, .ref q_3, .int 0, .int 0, .ref q_5, .int 0, .null, .int 0, .int 0, .int 0, .int 0])), (q_1, .inl (K_2, 889, .inl (fun _ => 0))), (q_3, .inl (K_4, 60, .inl (fun _ => 0))), (q_5, .inl (K_2, 41, .inl (fun _ => 0)))] := hD
  refine lv_aload_n hx hb dX8_init_29 rfl (lv_at hl 0 rfl) ?_
  refine lv_bipush (v := 9) hx hb dX8_init_30 (by decide) ?_
  refine va_newa (atype := .int) (ty := .int) hx hb (ht _ la_int) rfl hK hP hD hS hA (N' := 9) (a0 := (9, .inl (fun _ => 0))) (fun cA => rfl) (by decide) (by decide) (Nat.le_of_ble_eq_true rfl) (Nat.le_of_ble_eq_true rfl) (Nat.le_of_ble_eq_true rfl) dX8_init_32 (fun q_7 K_8 H hK hP hD hS => ?_)
  have hK : va_K D vwCl [(K_2, .int), (K_4, .char), (K_8, .int)] s := hK
  have hP : va_P D vwCl [(mo, .inr (8, [.ref q_1, .int 0, .ref q_3, .int 0, .int 0, .ref q_5, .int 0, .null, .int 0, .int 0, .int 0, .int 0])), (q_1, .inl (K_2, 889, .inl (fun _ => 0))), (q_3, .inl (K_4, 60, .inl (fun _ => 0))), (q_5, .inl (K_2, 41, .inl (fun _ => 0))), (q_7, .inl (K_8, 9, .inl (fun _ => 0)))] H := hP
  have hD : va_D A [(mo, .inr (8, [.ref q_1, .int 0, .ref q_3, .int 0, .int 0, .ref q_5, .int 0, .null, .int 0, .int 0, .int 0, .int 0])), (q_1, .inl (K_2, 889, .inl (fun _ => 0))), (q_3, .inl (K_4, 60, .inl (fun _ => 0))), (q_5, .inl (K_2, 41, .inl (fun _ => 0))), (q_7, .inl (K_8, 9, .inl (fun _ => 0)))] := hD
  refine W.widen (k := 4) (n := 999) (Nat.le_of_ble_eq_true rfl) (Nat.le_of_ble_eq_true rfl) ?_
  obtain rfl : K_2 = K_8 := k_one hK (i := 0) (j := 2) rfl rfl
  have hK : va_K D vwCl [(K_2, .int), (K_4, .char)] s := hK.sub [0, 1] rfl
  refine va_putF (D := D) (ci := 8) (v := .ref q_7) (ty := tyX8 7) (C := RX8) (T := TX8) (N := 12) hx hb ht inA_X8 tyX8 tyX8_ok nmX8 hown hK hP hD hS 0 rfl rfl 7 (by decide) (ht _ lf_X8_20) (fun _ h9 => h9) rfl hin rfl (tyX8_ok 7 (by decide)) rfl rfl (Nat.le_of_ble_eq_true rfl) dX8_init_34 (fun H locs hP hD hS => ?_)
  have hP : va_P D vwCl [(mo, .inr (8, [.ref q_1, .int 0, .ref q_3, .int 0, .int 0, .ref q_5, .int 0, .ref q_7, .int 0, .int 0, .int 0, .int 0])), (q_1, .inl (K_2, 889, .inl (fun _ => 0))), (q_3, .inl (K_4, 60, .inl (fun _ => 0))), (q_5, .inl (K_2, 41, .inl (fun _ => 0))), (q_7, .inl (K_2, 9, .inl (fun _ => 0)))] H := hP
  have hD : va_D A [(mo, .inr (8, [.ref q_1, .int 0, .ref q_3, .int 0, .int 0, .ref q_5, .int 0, .ref q_7, .int 0, .int 0, .int 0, .int 0])), (q_1, .inl (K_2, 889, .inl (fun _ => 0))), (q_3, .inl (K_4, 60, .inl (fun _ => 0))), (q_5, .inl (K_2, 41, .inl (fun _ => 0))), (q_7, .inl (K_2, 9, .inl (fun _ => 0)))] := hD
  refine lv_aload_n hx hb dX8_init_37 rfl (lv_at hl 0 rfl) ?_
  refine va_get (D := D) (ci := 8) (v := .ref q_1) (C := RX8) (T := TX8) (N := 12) hx hb ht inA_X8 hown hK hP 0 rfl rfl 0 (by decide) (ht _ lf_X8_7) (fun _ h9 => h9) rfl dX8_init_38 ?_
  refine lv_bipush (v := 93) hx hb dX8_init_41 (by decide) ?_
  refine lv_iconst (v := 4) hx hb dX8_init_43 (by decide) ?_
  refine va_iast hx hb hK hP hD hS 1 0 rfl rfl (by unfold vp_in; decide) dX8_init_44 (fun H locs hP hD hS => ?_)
  have hP : va_P D vwCl [(mo, .inr (8, [.ref q_1, .int 0, .ref q_3, .int 0, .int 0, .ref q_5, .int 0, .ref q_7, .int 0, .int 0, .int 0, .int 0])), (q_1, .inl (K_2, 889, .inl (upd (fun _ => 0) ((93 : Int32).toNatClampNeg) 4))), (q_3, .inl (K_4, 60, .inl (fun _ => 0))), (q_5, .inl (K_2, 41, .inl (fun _ => 0))), (q_7, .inl (K_2, 9, .inl (fun _ => 0)))] H := hP
  have hD : va_D A [(mo, .inr (8, [.ref q_1, .int 0, .ref q_3, .int 0, .int 0, .ref q_5, .int 0, .ref q_7, .int 0, .int 0, .int 0, .int 0])), (q_1, .inl (K_2, 889, .inl (upd (fun _ => 0) ((93 : Int32).toNatClampNeg) 4))), (q_3, .inl (K_4, 60, .inl (fun _ => 0))), (q_5, .inl (K_2, 41, .inl (fun _ => 0))), (q_7, .inl (K_2, 9, .inl (fun _ => 0)))] := hD
  have hf9 : upd (fun _ => 0) ((93 : Int32).toNatClampNeg) 4 = (upd (fun _ => 0) 93 4) := rfl
  rw [hf9] at hP hD
  have hP : va_P D vwCl [(mo, .inr (8, [.ref q_1, .int 0, .ref q_3, .int 0, .int 0, .ref q_5, .int 0, .ref q_7, .int 0, .int 0, .int 0, .int 0])), (q_1, .inl (K_2, 889, .inl (upd (fun _ => 0) 93 4))), (q_3, .inl (K_4, 60, .inl (fun _ => 0))), (q_5, .inl (K_2, 41, .inl (fun _ => 0))), (q_7, .inl (K_2, 9, .inl (fun _ => 0)))] H := hP
  have hD : va_D A [(mo, .inr (8, [.ref q_1, .int 0, .ref q_3, .int 0, .int 0, .ref q_5, .int 0, .ref q_7, .int 0, .int 0, .int 0, .int 0])), (q_1, .inl (K_2, 889, .inl (upd (fun _ => 0) 93 4))), (q_3, .inl (K_4, 60, .inl (fun _ => 0))), (q_5, .inl (K_2, 41, .inl (fun _ => 0))), (q_7, .inl (K_2, 9, .inl (fun _ => 0)))] := hD
  have hP9 : va_P D vwCl [(mo, .inr (8, [.ref q_1, .int 0, .ref q_3, .int 0, .int 0, .ref q_5, .int 0, .ref q_7, .int 0, .int 0, .int 0, .int 0])), (q_1, .inl (K_2, 889, .inl (upd (fun _ => 0) 93 4))), (q_3, .inl (K_4, 60, .inl (fun _ => 0))), (q_5, .inl (K_2, 41, .inl (fun _ => 0))), (q_7, .inl (K_2, 9, .inl (fun _ => 0)))] H := hP.sub [0, 1, 2, 3, 4] rfl
  have hD9 : va_D A [(mo, .inr (8, [.ref q_1, .int 0, .ref q_3, .int 0, .int 0, .ref q_5, .int 0, .ref q_7, .int 0, .int 0, .int 0, .int 0])), (q_1, .inl (K_2, 889, .inl (upd (fun _ => 0) 93 4))), (q_3, .inl (K_4, 60, .inl (fun _ => 0))), (q_5, .inl (K_2, 41, .inl (fun _ => 0))), (q_7, .inl (K_2, 9, .inl (fun _ => 0)))] := hD.sub [0, 1, 2, 3, 4] (by decide) rfl
  have hK9 : va_K D vwCl [(K_2, .int), (K_4, .char)] s := hK.sub [0, 1] rfl
  exact W.vret hx hb hr (fun t ht9 hW9 => ⟨⟨(q_1, q_3, q_5, q_7, K_2, K_4), rfl, by first | rfl | trivial | (simp only [if_true, if_false, reduceIte, and_self]; done) | simp_all, ⟨by rw [ht9]; exact hP9, va_K.moved hW9.alike hK9, hD9⟩⟩, hS.F ht9⟩) hS.2.2 dX8_init_45
