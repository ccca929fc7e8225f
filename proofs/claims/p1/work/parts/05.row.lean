theorem lo_X4_1 : Cond.methodLink RX4 1 objectInit ∈ wsA := mA 42 rfl rfl
theorem lo_inst : Cond.instanceMethod objectInit ∈ wsA := mA 23 rfl rfl
theorem lo_code : Cond.code objectInit ⟨#[0xb1]⟩ 1 none ∈ wsA := mA 24 rfl rfl
theorem lM_X4_7 : Cond.methodLink RX4 7 Lib.Math.max.name ∈ wsA := mA 43 rfl rfl
theorem lM_st_max : Cond.static Lib.Math.max.name ∈ wsA := mA 44 rfl rfl
theorem li_java_lang_Math : Cond.initialized "java/lang/Math" ∈ wsA := mA 5 rfl rfl
theorem lM_code_max : Cond.code Lib.Math.max.name Lib.Math.max.code 2 (some .int) ∈ wsA := mA 45 rfl rfl
theorem la_int : Cond.arrayClass .int ∈ wsA := mA 53 rfl rfl
theorem inA_X4 : ∀ w ∈ u_ws RX4 TX4 2, w ∈ wsA := by
  show ∀ w ∈ ([u_lay RX4 TX4 0, u_lay RX4 TX4 1] : List Cond), w ∈ wsA
  exact List.forall_mem_cons.mpr ⟨mA 48 rfl rfl, List.forall_mem_cons.mpr ⟨mA 50 rfl rfl, fun _ h => absurd h List.not_mem_nil⟩⟩
theorem lf_X4_13 : Cond.fieldLink RX4 13 "BarcodeWand$Row" "cells" "[I" ∈ wsA := mA 46 rfl rfl
theorem lf_X4_19 : Cond.fieldLink RX4 19 "BarcodeWand$Row" "length" "I" ∈ wsA := mA 47 rfl rfl
theorem dX4_init_0 : decode cX4_init 0 = .ok (.aload_n 0, 1) := by decide +kernel
theorem dX4_init_1 : decode cX4_init 1 = .ok (.invokespecial 1, 3) := by decide +kernel
theorem dX4_init_4 : decode cX4_init 4 = .ok (.aload_n 0, 1) := by decide +kernel
theorem dX4_init_5 : decode cX4_init 5 = .ok (.iload_n 1, 1) := by decide +kernel
theorem dX4_init_6 : decode cX4_init 6 = .ok (.iconst 0, 1) := by decide +kernel
theorem dX4_init_7 : decode cX4_init 7 = .ok (.invokestatic 7, 3) := by decide +kernel
theorem dX4_init_10 : decode cX4_init 10 = .ok (.newarray .int, 2) := by decide +kernel
theorem dX4_init_12 : decode cX4_init 12 = .ok (.putfield 13, 3) := by decide +kernel
theorem dX4_init_15 : decode cX4_init 15 = .ok (.return_, 1) := by decide +kernel
theorem dX4_size_0 : decode cX4_size 0 = .ok (.aload_n 0, 1) := by decide +kernel
theorem dX4_size_1 : decode cX4_size 1 = .ok (.getfield 19, 3) := by decide +kernel
theorem dX4_size_4 : decode cX4_size 4 = .ok (.ireturn, 1) := by decide +kernel
theorem dX4_isFull_0 : decode cX4_isFull 0 = .ok (.aload_n 0, 1) := by decide +kernel
theorem dX4_isFull_1 : decode cX4_isFull 1 = .ok (.getfield 19, 3) := by decide +kernel
theorem dX4_isFull_4 : decode cX4_isFull 4 = .ok (.aload_n 0, 1) := by decide +kernel
theorem dX4_isFull_5 : decode cX4_isFull 5 = .ok (.getfield 13, 3) := by decide +kernel
theorem dX4_isFull_8 : decode cX4_isFull 8 = .ok (.arraylength, 1) := by decide +kernel
theorem dX4_isFull_9 : decode cX4_isFull 9 = .ok (.if_icmp .lt 7, 3) := by decide +kernel
theorem dX4_isFull_12 : decode cX4_isFull 12 = .ok (.iconst 1, 1) := by decide +kernel
theorem dX4_isFull_13 : decode cX4_isFull 13 = .ok (.goto 4, 3) := by decide +kernel
theorem dX4_isFull_16 : decode cX4_isFull 16 = .ok (.iconst 0, 1) := by decide +kernel
theorem dX4_isFull_17 : decode cX4_isFull 17 = .ok (.ireturn, 1) := by decide +kernel
theorem dX4_has_0 : decode cX4_has 0 = .ok (.iload_n 1, 1) := by decide +kernel
theorem dX4_has_1 : decode cX4_has 1 = .ok (.ifCond .lt 15, 3) := by decide +kernel
theorem dX4_has_4 : decode cX4_has 4 = .ok (.iload_n 1, 1) := by decide +kernel
theorem dX4_has_5 : decode cX4_has 5 = .ok (.aload_n 0, 1) := by decide +kernel
theorem dX4_has_6 : decode cX4_has 6 = .ok (.getfield 19, 3) := by decide +kernel
theorem dX4_has_9 : decode cX4_has 9 = .ok (.if_icmp .ge 7, 3) := by decide +kernel
theorem dX4_has_12 : decode cX4_has 12 = .ok (.iconst 1, 1) := by decide +kernel
theorem dX4_has_13 : decode cX4_has 13 = .ok (.goto 4, 3) := by decide +kernel
theorem dX4_has_16 : decode cX4_has 16 = .ok (.iconst 0, 1) := by decide +kernel
theorem dX4_has_17 : decode cX4_has 17 = .ok (.ireturn, 1) := by decide +kernel
theorem dX4_at_0 : decode cX4_at 0 = .ok (.iload_n 1, 1) := by decide +kernel
theorem dX4_at_1 : decode cX4_at 1 = .ok (.ifCond .lt 29, 3) := by decide +kernel
theorem dX4_at_4 : decode cX4_at 4 = .ok (.iload_n 1, 1) := by decide +kernel
theorem dX4_at_5 : decode cX4_at 5 = .ok (.aload_n 0, 1) := by decide +kernel
theorem dX4_at_6 : decode cX4_at 6 = .ok (.getfield 19, 3) := by decide +kernel
theorem dX4_at_9 : decode cX4_at 9 = .ok (.if_icmp .ge 21, 3) := by decide +kernel
theorem dX4_at_12 : decode cX4_at 12 = .ok (.iload_n 1, 1) := by decide +kernel
theorem dX4_at_13 : decode cX4_at 13 = .ok (.aload_n 0, 1) := by decide +kernel
theorem dX4_at_14 : decode cX4_at 14 = .ok (.getfield 13, 3) := by decide +kernel
theorem dX4_at_17 : decode cX4_at 17 = .ok (.arraylength, 1) := by decide +kernel
theorem dX4_at_18 : decode cX4_at 18 = .ok (.if_icmp .ge 12, 3) := by decide +kernel
theorem dX4_at_21 : decode cX4_at 21 = .ok (.aload_n 0, 1) := by decide +kernel
theorem dX4_at_22 : decode cX4_at 22 = .ok (.getfield 13, 3) := by decide +kernel
theorem dX4_at_25 : decode cX4_at 25 = .ok (.iload_n 1, 1) := by decide +kernel
theorem dX4_at_26 : decode cX4_at 26 = .ok (.iaload, 1) := by decide +kernel
theorem dX4_at_27 : decode cX4_at 27 = .ok (.goto 4, 3) := by decide +kernel
theorem dX4_at_30 : decode cX4_at 30 = .ok (.iconst 0, 1) := by decide +kernel
theorem dX4_at_31 : decode cX4_at 31 = .ok (.ireturn, 1) := by decide +kernel
set_option maxHeartbeats 4000000 in
set_option maxRecDepth 100000 in
theorem c_Row_init_9 (l : Launch) (D : va_G) (h : Nat) (sz : Nat) : k_Mv (S := Nat × ClassId) l D yX4_init cX4_init 2 none 1 1 9 14 [.ref h, .int 9] [(h, .inr (4, [.null, .int 0]))] [] (fun (u : Nat × ClassId) => match u with | (a, K) => True) (fun u => match u with | (a, K) => [(h, .inr (4, [.ref a, .int 0])), (a, .inl (K, 9, .inl (fun _ => 0)))]) (fun u => match u with | (a, K) => [(K, .int)]) sz := by
  refine Met.ofW (cc := cX4_init) (maxL := 2) (ret := none) (by decide) rfl ?_
  intro p e s m args below meth c s₁ B hml hv
  obtain ⟨rfl, hsz, hP, hK, hD0, hG⟩ := hv
  have hx := B.exec
  have hb := B.bytes
  have hr := B.returns
  have ht : ∀ v9 ∈ wsA, v9.before ([.ref h, .int 9] : List Value).toArray s = true := fun v9 h9 => atoms_spec (ws := k_ws yX4_init cX4_init 2 none) B.pre v9 (List.mem_cons_of_mem _ h9)
  have hown : s.vm.findClass RX4 = some m.cls := findClass_of_methodNamed B.named
  have S0 : k_C p s m ([.ref h, .int 9] : List Value).toArray c cX4_init 2 RX4 := ⟨hx, hb, hml, hown, ht⟩
  have hlocks := B.notSynchronized
  have hin : meth.name = "<init>" := (name_of_methodNamed B.named B.method).1
  subst hsz
  have hD := hD0.self (sz := s.heap.size)
  generalize hAe : va_A [(h, .inr (4, [.null, .int 0]))] s.heap.size = A at hD hG ⊢
  have hA : ∀ q : Nat, s.heap.size ≤ q → A q := fun q h => by rw [← hAe]; exact Or.inr h
  have hS : va_S A s.heap s.heap [] := va_S.rf
  have hl := lv_entry ([.ref h, .int 9]) (n := 2) (Nat.le_of_ble_eq_true rfl)
  rw [lg_entry_eq]
  generalize (lg_sl ([.ref h, .int 9]) ++ List.replicate (2 - (lg_sl ([.ref h, .int 9])).length) Slot.unset).toArray = ls at hl ⊢
  have hl : lv_has ls 2 [(0, .ref h), (1, .int 9)] := hl
  have hP : va_P D vwCl [(h, .inr (4, [.null, .int 0]))] s.heap := hP
  refine lv_aload_n hx hb dX4_init_0 rfl (lv_at hl 0 rfl) ?_
  refine W.objInit hx hb hown (ht _ lo_X4_1) (ht _ lo_inst) (ht _ lo_code) rfl (by rw [hml]; exact hl.1) rfl dX4_init_1 (Nat.le_of_ble_eq_true rfl) (Nat.le_of_ble_eq_true rfl) ?_
  refine W.eq (g2 := F0 m 4 ls []) rfl ?_
  refine lv_aload_n hx hb dX4_init_4 rfl (lv_at hl 0 rfl) ?_
  refine lv_iload_n hx hb dX4_init_5 rfl (lv_at hl 1 rfl) ?_
  refine lv_iconst (v := 0) hx hb dX4_init_6 (by decide) ?_
  refine va_mmax hx hb (by rw [hml]; exact hl.1.symm) hown (ht _ lM_X4_7) (ht _ lM_st_max) (ht _ li_java_lang_Math) (ht _ lM_code_max) (Nat.le_of_ble_eq_true rfl) (Nat.le_of_ble_eq_true rfl) (Nat.le_of_ble_eq_true rfl) (Nat.le_of_ble_eq_true rfl) dX4_init_7 ?_
  refine k_nrm (y := 9) (by decide) ?_
  refine va_newa (atype := .int) (ty := .int) hx hb (ht _ la_int) rfl hK hP hD hS hA (N' := 9) (a0 := (9, .inl (fun _ => 0))) (fun cA => rfl) (by decide) (by decide) (Nat.le_of_ble_eq_true rfl) (Nat.le_of_ble_eq_true rfl) (Nat.le_of_ble_eq_true rfl) dX4_init_10 (fun q_1 K_2 H hK hP hD hS => ?_)
  have hK : va_K D vwCl [(K_2, .int)] s := hK
  have hP : va_P D vwCl [(h, .inr (4, [.null, .int 0])), (q_1, .inl (K_2, 9, .inl (fun _ => 0)))] H := hP
  have hD : va_D A [(h, .inr (4, [.null, .int 0])), (q_1, .inl (K_2, 9, .inl (fun _ => 0)))] := hD
  refine W.widen (k := 1) (n := 9) (Nat.le_of_ble_eq_true rfl) (Nat.le_of_ble_eq_true rfl) ?_
  refine va_putF (D := D) (ci := 4) (v := .ref q_1) (ty := tyX4 0) (C := RX4) (T := TX4) (N := 2) hx hb ht inA_X4 tyX4 tyX4_ok nmX4 hown hK hP hD hS 0 rfl rfl 0 (by decide) (ht _ lf_X4_13) (fun _ h9 => h9) rfl hin rfl (tyX4_ok 0 (by decide)) rfl rfl (Nat.le_of_ble_eq_true rfl) dX4_init_12 (fun H locs hP hD hS => ?_)
  have hP : va_P D vwCl [(h, .inr (4, [.ref q_1, .int 0])), (q_1, .inl (K_2, 9, .inl (fun _ => 0)))] H := hP
  have hD : va_D A [(h, .inr (4, [.ref q_1, .int 0])), (q_1, .inl (K_2, 9, .inl (fun _ => 0)))] := hD
  have hP9 : va_P D vwCl [(h, .inr (4, [.ref q_1, .int 0])), (q_1, .inl (K_2, 9, .inl (fun _ => 0)))] H := hP.sub [0, 1] rfl
  have hD9 : va_D A [(h, .inr (4, [.ref q_1, .int 0])), (q_1, .inl (K_2, 9, .inl (fun _ => 0)))] := hD.sub [0, 1] (by decide) rfl
  have hK9 : va_K D vwCl [(K_2, .int)] s := hK.sub [0] rfl
  exact W.vret hx hb hr (fun t ht9 hW9 => ⟨⟨(q_1, K_2), rfl, by first | rfl | trivial | (simp only [if_true, if_false, reduceIte, and_self]; done) | simp_all, ⟨by rw [ht9]; exact hP9, va_K.moved hW9.alike hK9, hD9⟩⟩, hS.F ht9⟩) hS.2.2 dX4_init_15
set_option maxHeartbeats 4000000 in
set_option maxRecDepth 100000 in
theorem c_Row_init_41 (l : Launch) (D : va_G) (h : Nat) (sz : Nat) : k_Mv (S := Nat × ClassId) l D yX4_init cX4_init 2 none 1 1 41 14 [.ref h, .int 41] [(h, .inr (4, [.null, .int 0]))] [] (fun (u : Nat × ClassId) => match u with | (a, K) => True) (fun u => match u with | (a, K) => [(h, .inr (4, [.ref a, .int 0])), (a, .inl (K, 41, .inl (fun _ => 0)))]) (fun u => match u with | (a, K) => [(K, .int)]) sz := by
  refine Met.ofW (cc := cX4_init) (maxL := 2) (ret := none) (by decide) rfl ?_
  intro p e s m args below meth c s₁ B hml hv
  obtain ⟨rfl, hsz, hP, hK, hD0, hG⟩ := hv
  have hx := B.exec
  have hb := B.bytes
  have hr := B.returns
  have ht : ∀ v9 ∈ wsA, v9.before ([.ref h, .int 41] : List Value).toArray s = true := fun v9 h9 => atoms_spec (ws := k_ws yX4_init cX4_init 2 none) B.pre v9 (List.mem_cons_of_mem _ h9)
  have hown : s.vm.findClass RX4 = some m.cls := findClass_of_methodNamed B.named
  have S0 : k_C p s m ([.ref h, .int 41] : List Value).toArray c cX4_init 2 RX4 := ⟨hx, hb, hml, hown, ht⟩
  have hlocks := B.notSynchronized
  have hin : meth.name = "<init>" := (name_of_methodNamed B.named B.method).1
  subst hsz
  have hD := hD0.self (sz := s.heap.size)
  generalize hAe : va_A [(h, .inr (4, [.null, .int 0]))] s.heap.size = A at hD hG ⊢
  have hA : ∀ q : Nat, s.heap.size ≤ q → A q := fun q h => by rw [← hAe]; exact Or.inr h
  have hS : va_S A s.heap s.heap [] := va_S.rf
  have hl := lv_entry ([.ref h, .int 41]) (n := 2) (Nat.le_of_ble_eq_true rfl)
  rw [lg_entry_eq]
  generalize (lg_sl ([.ref h, .int 41]) ++ List.replicate (2 - (lg_sl ([.ref h, .int 41])).length) Slot.unset).toArray = ls at hl ⊢
  have hl : lv_has ls 2 [(0, .ref h), (1, .int 41)] := hl
  have hP : va_P D vwCl [(h, .inr (4, [.null, .int 0]))] s.heap := hP
  refine lv_aload_n hx hb dX4_init_0 rfl (lv_at hl 0 rfl) ?_
  refine W.objInit hx hb hown (ht _ lo_X4_1) (ht _ lo_inst) (ht _ lo_code) rfl (by rw [hml]; exact hl.1) rfl dX4_init_1 (Nat.le_of_ble_eq_true rfl) (Nat.le_of_ble_eq_true rfl) ?_
  refine W.eq (g2 := F0 m 4 ls []) rfl ?_
  refine lv_aload_n hx hb dX4_init_4 rfl (lv_at hl 0 rfl) ?_
  refine lv_iload_n hx hb dX4_init_5 rfl (lv_at hl 1 rfl) ?_
  refine lv_iconst (v := 0) hx hb dX4_init_6 (by decide) ?_
  refine va_mmax hx hb (by rw [hml]; exact hl.1.symm) hown (ht _ lM_X4_7) (ht _ lM_st_max) (ht _ li_java_lang_Math) (ht _ lM_code_max) (Nat.le_of_ble_eq_true rfl) (Nat.le_of_ble_eq_true rfl) (Nat.le_of_ble_eq_true rfl) (Nat.le_of_ble_eq_true rfl) dX4_init_7 ?_
  refine k_nrm (y := 41) (by decide) ?_
  refine va_newa (atype := .int) (ty := .int) hx hb (ht _ la_int) rfl hK hP hD hS hA (N' := 41) (a0 := (41, .inl (fun _ => 0))) (fun cA => rfl) (by decide) (by decide) (Nat.le_of_ble_eq_true rfl) (Nat.le_of_ble_eq_true rfl) (Nat.le_of_ble_eq_true rfl) dX4_init_10 (fun q_1 K_2 H hK hP hD hS => ?_)
  have hK : va_K D vwCl [(K_2, .int)] s := hK
  have hP : va_P D vwCl [(h, .inr (4, [.null, .int 0])), (q_1, .inl (K_2, 41, .inl (fun _ => 0)))] H := hP
  have hD : va_D A [(h, .inr (4, [.null, .int 0])), (q_1, .inl (K_2, 41, .inl (fun _ => 0)))] := hD
  refine W.widen (k := 1) (n := 41) (Nat.le_of_ble_eq_true rfl) (Nat.le_of_ble_eq_true rfl) ?_
  refine va_putF (D := D) (ci := 4) (v := .ref q_1) (ty := tyX4 0) (C := RX4) (T := TX4) (N := 2) hx hb ht inA_X4 tyX4 tyX4_ok nmX4 hown hK hP hD hS 0 rfl rfl 0 (by decide) (ht _ lf_X4_13) (fun _ h9 => h9) rfl hin rfl (tyX4_ok 0 (by decide)) rfl rfl (Nat.le_of_ble_eq_true rfl) dX4_init_12 (fun H locs hP hD hS => ?_)
  have hP : va_P D vwCl [(h, .inr (4, [.ref q_1, .int 0])), (q_1, .inl (K_2, 41, .inl (fun _ => 0)))] H := hP
  have hD : va_D A [(h, .inr (4, [.ref q_1, .int 0])), (q_1, .inl (K_2, 41, .inl (fun _ => 0)))] := hD
  have hP9 : va_P D vwCl [(h, .inr (4, [.ref q_1, .int 0])), (q_1, .inl (K_2, 41, .inl (fun _ => 0)))] H := hP.sub [0, 1] rfl
  have hD9 : va_D A [(h, .inr (4, [.ref q_1, .int 0])), (q_1, .inl (K_2, 41, .inl (fun _ => 0)))] := hD.sub [0, 1] (by decide) rfl
  have hK9 : va_K D vwCl [(K_2, .int)] s := hK.sub [0] rfl
  exact W.vret hx hb hr (fun t ht9 hW9 => ⟨⟨(q_1, K_2), rfl, by first | rfl | trivial | (simp only [if_true, if_false, reduceIte, and_self]; done) | simp_all, ⟨by rw [ht9]; exact hP9, va_K.moved hW9.alike hK9, hD9⟩⟩, hS.F ht9⟩) hS.2.2 dX4_init_15
set_option maxHeartbeats 4000000 in
set_option maxRecDepth 100000 in
theorem c_Row_init_10 (l : Launch) (D : va_G) (h : Nat) (sz : Nat) : k_Mv (S := Nat × ClassId) l D yX4_init cX4_init 2 none 1 1 10 14 [.ref h, .int 10] [(h, .inr (4, [.null, .int 0]))] [] (fun (u : Nat × ClassId) => match u with | (a, K) => True) (fun u => match u with | (a, K) => [(h, .inr (4, [.ref a, .int 0])), (a, .inl (K, 10, .inl (fun _ => 0)))]) (fun u => match u with | (a, K) => [(K, .int)]) sz := by
  refine Met.ofW (cc := cX4_init) (maxL := 2) (ret := none) (by decide) rfl ?_
  intro p e s m args below meth c s₁ B hml hv
  obtain ⟨rfl, hsz, hP, hK, hD0, hG⟩ := hv
  have hx := B.exec
  have hb := B.bytes
  have hr := B.returns
  have ht : ∀ v9 ∈ wsA, v9.before ([.ref h, .int 10] : List Value).toArray s = true := fun v9 h9 => atoms_spec (ws := k_ws yX4_init cX4_init 2 none) B.pre v9 (List.mem_cons_of_mem _ h9)
  have hown : s.vm.findClass RX4 = some m.cls := findClass_of_methodNamed B.named
  have S0 : k_C p s m ([.ref h, .int 10] : List Value).toArray c cX4_init 2 RX4 := ⟨hx, hb, hml, hown, ht⟩
  have hlocks := B.notSynchronized
  have hin : meth.name = "<init>" := (name_of_methodNamed B.named B.method).1
  subst hsz
  have hD := hD0.self (sz := s.heap.size)
  generalize hAe : va_A [(h, .inr (4, [.null, .int 0]))] s.heap.size = A at hD hG ⊢
  have hA : ∀ q : Nat, s.heap.size ≤ q → A q := fun q h => by rw [← hAe]; exact Or.inr h
  have hS : va_S A s.heap s.heap [] := va_S.rf
  have hl := lv_entry ([.ref h, .int 10]) (n := 2) (Nat.le_of_ble_eq_true rfl)
  rw [lg_entry_eq]
  generalize (lg_sl ([.ref h, .int 10]) ++ List.replicate (2 - (lg_sl ([.ref h, .int 10])).length) Slot.unset).toArray = ls at hl ⊢
  have hl : lv_has ls 2 [(0, .ref h), (1, .int 10)] := hl
  have hP : va_P D vwCl [(h, .inr (4, [.null, .int 0]))] s.heap := hP
  refine lv_aload_n hx hb dX4_init_0 rfl (lv_at hl 0 rfl) ?_
  refine W.objInit hx hb hown (ht _ lo_X4_1) (ht _ lo_inst) (ht _ lo_code) rfl (by rw [hml]; exact hl.1) rfl dX4_init_1 (Nat.le_of_ble_eq_true rfl) (Nat.le_of_ble_eq_true rfl) ?_
  refine W.eq (g2 := F0 m 4 ls []) rfl ?_
  refine lv_aload_n hx hb dX4_init_4 rfl (lv_at hl 0 rfl) ?_
  refine lv_iload_n hx hb dX4_init_5 rfl (lv_at hl 1 rfl) ?_
  refine lv_iconst (v := 0) hx hb dX4_init_6 (by decide) ?_
  refine va_mmax hx hb (by rw [hml]; exact hl.1.symm) hown (ht _ lM_X4_7) (ht _ lM_st_max) (ht _ li_java_lang_Math) (ht _ lM_code_max) (Nat.le_of_ble_eq_true rfl) (Nat.le_of_ble_eq_true rfl) (Nat.le_of_ble_eq_true rfl) (Nat.le_of_ble_eq_true rfl) dX4_init_7 ?_
  refine k_nrm (y := 10) (by decide) ?_
  refine va_newa (atype := .int) (ty := .int) hx hb (ht _ la_int) rfl hK hP hD hS hA (N' := 10) (a0 := (10, .inl (fun _ => 0))) (fun cA => rfl) (by decide) (by decide) (Nat.le_of_ble_eq_true rfl) (Nat.le_of_ble_eq_true rfl) (Nat.le_of_ble_eq_true rfl) dX4_init_10 (fun q_1 K_2 H hK hP hD hS => ?_)
  have hK : va_K D vwCl [(K_2, .int)] s := hK
  have hP : va_P D vwCl [(h, .inr (4, [.null, .int 0])), (q_1, .inl (K_2, 10, .inl (fun _ => 0)))] H := hP
  have hD : va_D A [(h, .inr (4, [.null, .int 0])), (q_1, .inl (K_2, 10, .inl (fun _ => 0)))] := hD
  refine W.widen (k := 1) (n := 10) (Nat.le_of_ble_eq_true rfl) (Nat.le_of_ble_eq_true rfl) ?_
  refine va_putF (D := D) (ci := 4) (v := .ref q_1) (ty := tyX4 0) (C := RX4) (T := TX4) (N := 2) hx hb ht inA_X4 tyX4 tyX4_ok nmX4 hown hK hP hD hS 0 rfl rfl 0 (by decide) (ht _ lf_X4_13) (fun _ h9 => h9) rfl hin rfl (tyX4_ok 0 (by decide)) rfl rfl (Nat.le_of_ble_eq_true rfl) dX4_init_12 (fun H locs hP hD hS => ?_)
  have hP : va_P D vwCl [(h, .inr (4, [.ref q_1, .int 0])), (q_1, .inl (K_2, 10, .inl (fun _ => 0)))] H := hP
  have hD : va_D A [(h, .inr (4, [.ref q_1, .int 0])), (q_1, .inl (K_2, 10, .inl (fun _ => 0)))] := hD
  have hP9 : va_P D vwCl [(h, .inr (4, [.ref q_1, .int 0])), (q_1, .inl (K_2, 10, .inl (fun _ => 0)))] H := hP.sub [0, 1] rfl
  have hD9 : va_D A [(h, .inr (4, [.ref q_1, .int 0])), (q_1, .inl (K_2, 10, .inl (fun _ => 0)))] := hD.sub [0, 1] (by decide) rfl
  have hK9 : va_K D vwCl [(K_2, .int)] s := hK.sub [0] rfl
  exact W.vret hx hb hr (fun t ht9 hW9 => ⟨⟨(q_1, K_2), rfl, by first | rfl | trivial | (simp only [if_true, if_false, reduceIte, and_self]; done) | simp_all, ⟨by rw [ht9]; exact hP9, va_K.moved hW9.alike hK9, hD9⟩⟩, hS.F ht9⟩) hS.2.2 dX4_init_15
set_option maxHeartbeats 4000000 in
set_option maxRecDepth 100000 in
theorem c_Row_init_60 (l : Launch) (D : va_G) (h : Nat) (sz : Nat) : k_Mv (S := Nat × ClassId) l D yX4_init cX4_init 2 none 1 1 60 14 [.ref h, .int 60] [(h, .inr (4, [.null, .int 0]))] [] (fun (u : Nat × ClassId) => match u with | (a, K) => True) (fun u => match u with | (a, K) => [(h, .inr (4, [.ref a, .int 0])), (a, .inl (K, 60, .inl (fun _ => 0)))]) (fun u => match u with | (a, K) => [(K, .int)]) sz := by
  refine Met.ofW (cc := cX4_init) (maxL := 2) (ret := none) (by decide) rfl ?_
  intro p e s m args below meth c s₁ B hml hv
  obtain ⟨rfl, hsz, hP, hK, hD0, hG⟩ := hv
  have hx := B.exec
  have hb := B.bytes
  have hr := B.returns
  have ht : ∀ v9 ∈ wsA, v9.before ([.ref h, .int 60] : List Value).toArray s = true := fun v9 h9 => atoms_spec (ws := k_ws yX4_init cX4_init 2 none) B.pre v9 (List.mem_cons_of_mem _ h9)
  have hown : s.vm.findClass RX4 = some m.cls := findClass_of_methodNamed B.named
  have S0 : k_C p s m ([.ref h, .int 60] : List Value).toArray c cX4_init 2 RX4 := ⟨hx, hb, hml, hown, ht⟩
  have hlocks := B.notSynchronized
  have hin : meth.name = "<init>" := (name_of_methodNamed B.named B.method).1
  subst hsz
  have hD := hD0.self (sz := s.heap.size)
  generalize hAe : va_A [(h, .inr (4, [.null, .int 0]))] s.heap.size = A at hD hG ⊢
  have hA : ∀ q : Nat, s.heap.size ≤ q → A q := fun q h => by rw [← hAe]; exact Or.inr h
  have hS : va_S A s.heap s.heap [] := va_S.rf
  have hl := lv_entry ([.ref h, .int 60]) (n := 2) (Nat.le_of_ble_eq_true rfl)
  rw [lg_entry_eq]
  generalize (lg_sl ([.ref h, .int 60]) ++ List.replicate (2 - (lg_sl ([.ref h, .int 60])).length) Slot.unset).toArray = ls at hl ⊢
  have hl : lv_has ls 2 [(0, .ref h), (1, .int 60)] := hl
  have hP : va_P D vwCl [(h, .inr (4, [.null, .int 0]))] s.heap := hP
  refine lv_aload_n hx hb dX4_init_0 rfl (lv_at hl 0 rfl) ?_
  refine W.objInit hx hb hown (ht _ lo_X4_1) (ht _ lo_inst) (ht _ lo_code) rfl (by rw [hml]; exact hl.1) rfl dX4_init_1 (Nat.le_of_ble_eq_true rfl) (Nat.le_of_ble_eq_true rfl) ?_
  refine W.eq (g2 := F0 m 4 ls []) rfl ?_
  refine lv_aload_n hx hb dX4_init_4 rfl (lv_at hl 0 rfl) ?_
  refine lv_iload_n hx hb dX4_init_5 rfl (lv_at hl 1 rfl) ?_
  refine lv_iconst (v := 0) hx hb dX4_init_6 (by decide) ?_
  refine va_mmax hx hb (by rw [hml]; exact hl.1.symm) hown (ht _ lM_X4_7) (ht _ lM_st_max) (ht _ li_java_lang_Math) (ht _ lM_code_max) (Nat.le_of_ble_eq_true rfl) (Nat.le_of_ble_eq_true rfl) (Nat.le_of_ble_eq_true rfl) (Nat.le_of_ble_eq_true rfl) dX4_init_7 ?_
  refine k_nrm (y := 60) (by decide) ?_
  refine va_newa (atype := .int) (ty := .int) hx hb (ht _ la_int) rfl hK hP hD hS hA (N' := 60) (a0 := (60, .inl (fun _ => 0))) (fun cA => rfl) (by decide) (by decide) (Nat.le_of_ble_eq_true rfl) (Nat.le_of_ble_eq_true rfl) (Nat.le_of_ble_eq_true rfl) dX4_init_10 (fun q_1 K_2 H hK hP hD hS => ?_)
  have hK : va_K D vwCl [(K_2, .int)] s := hK
  have hP : va_P D vwCl [(h, .inr (4, [.null, .int 0])), (q_1, .inl (K_2, 60, .inl (fun _ => 0)))] H := hP
  have hD : va_D A [(h, .inr (4, [.null, .int 0])), (q_1, .inl (K_2, 60, .inl (fun _ => 0)))] := hD
  refine W.widen (k := 1) (n := 60) (Nat.le_of_ble_eq_true rfl) (Nat.le_of_ble_eq_true rfl) ?_
  refine va_putF (D := D) (ci := 4) (v := .ref q_1) (ty := tyX4 0) (C := RX4) (T := TX4) (N := 2) hx hb ht inA_X4 tyX4 tyX4_ok nmX4 hown hK hP hD hS 0 rfl rfl 0 (by decide) (ht _ lf_X4_13) (fun _ h9 => h9) rfl hin rfl (tyX4_ok 0 (by decide)) rfl rfl (Nat.le_of_ble_eq_true rfl) dX4_init_12 (fun H locs hP hD hS => ?_)
  have hP : va_P D vwCl [(h, .inr (4, [.ref q_1, .int 0])), (q_1, .inl (K_2, 60, .inl (fun _ => 0)))] H := hP
  have hD : va_D A [(h, .inr (4, [.ref q_1, .int 0])), (q_1, .inl (K_2, 60, .inl (fun _ => 0)))] := hD
  have hP9 : va_P D vwCl [(h, .inr (4, [.ref q_1, .int 0])), (q_1, .inl (K_2, 60, .inl (fun _ => 0)))] H := hP.sub [0, 1] rfl
  have hD9 : va_D A [(h, .inr (4, [.ref q_1, .int 0])), (q_1, .inl (K_2, 60, .inl (fun _ => 0)))] := hD.sub [0, 1] (by decide) rfl
  have hK9 : va_K D vwCl [(K_2, .int)] s := hK.sub [0] rfl
  exact W.vret hx hb hr (fun t ht9 hW9 => ⟨⟨(q_1, K_2), rfl, by first | rfl | trivial | (simp only [if_true, if_false, reduceIte, and_self]; done) | simp_all, ⟨by rw [ht9]; exact hP9, va_K.moved hW9.alike hK9, hD9⟩⟩, hS.F ht9⟩) hS.2.2 dX4_init_15
set_option maxHeartbeats 4000000 in
set_option maxRecDepth 100000 in
theorem c_Row_size (l : Launch) (D : va_G) (h : Nat) (a : Nat) (n : Int32) (sz : Nat) : k_Mi (S := Unit) l D yX4_size cX4_size 1 (some .int) 0 0 0 0 [.ref h] [(h, .inr (4, [.ref a, .int n]))] [] (fun (r : Int32) (_ : Unit) => r = n) (fun _ => [(h, .inr (4, [.ref a, .int n]))]) (fun _ => []) sz := by
  refine Met.ofW (cc := cX4_size) (maxL := 1) (ret := (some .int)) (by decide) rfl ?_
  intro p e s m args below meth c s₁ B hml hv
  obtain ⟨rfl, hsz, hP, hK, hD0, hG⟩ := hv
  have hx := B.exec
  have hb := B.bytes
  have hr := B.returns
  have ht : ∀ v9 ∈ wsA, v9.before ([.ref h] : List Value).toArray s = true := fun v9 h9 => atoms_spec (ws := k_ws yX4_size cX4_size 1 (some .int)) B.pre v9 (List.mem_cons_of_mem _ h9)
  have hown : s.vm.findClass RX4 = some m.cls := findClass_of_methodNamed B.named
  have S0 : k_C p s m ([.ref h] : List Value).toArray c cX4_size 1 RX4 := ⟨hx, hb, hml, hown, ht⟩
  have hlocks := B.notSynchronized
  subst hsz
  have hD := hD0.self (sz := s.heap.size)
  generalize hAe : va_A [(h, .inr (4, [.ref a, .int n]))] s.heap.size = A at hD hG ⊢
  have hA : ∀ q : Nat, s.heap.size ≤ q → A q := fun q h => by rw [← hAe]; exact Or.inr h
  have hS : va_S A s.heap s.heap [] := va_S.rf
  have hl := lv_entry ([.ref h]) (n := 1) (Nat.le_of_ble_eq_true rfl)
  rw [lg_entry_eq]
  generalize (lg_sl ([.ref h]) ++ List.replicate (1 - (lg_sl ([.ref h])).length) Slot.unset).toArray = ls at hl ⊢
  have hl : lv_has ls 1 [(0, .ref h)] := hl
  have hP : va_P D vwCl [(h, .inr (4, [.ref a, .int n]))] s.heap := hP
  refine lv_aload_n hx hb dX4_size_0 rfl (lv_at hl 0 rfl) ?_
  refine va_get (D := D) (ci := 4) (v := .int n) (C := RX4) (T := TX4) (N := 2) hx hb ht inA_X4 hown hK hP 0 rfl rfl 1 (by decide) (ht _ lf_X4_19) (fun _ h9 => h9) rfl dX4_size_1 ?_
  have hP9 : va_P D vwCl [(h, .inr (4, [.ref a, .int n]))] s.heap := hP.sub [0] rfl
  have hD9 : va_D A [(h, .inr (4, [.ref a, .int n]))] := hD.sub [0] (by decide) rfl
  have hK9 : va_K D vwCl [] s := hK.sub [] rfl
  exact W.iret (v := n) hx hb hr (fun t ht9 hW9 => ⟨⟨n, (), rfl, by first | rfl | trivial | (simp only [if_true, if_false, reduceIte, and_self]; done) | simp_all, ⟨by rw [ht9]; exact hP9, va_K.moved hW9.alike hK9, hD9⟩⟩, hS.F ht9⟩) hS.2.2 dX4_size_4
set_option maxHeartbeats 4000000 in
set_option maxRecDepth 100000 in
theorem c_Row_isFull (l : Launch) (D : va_G) (h : Nat) (a : Nat) (K : ClassId) (cap : Nat) (n : Int32) (f : Nat → Int32) (sz : Nat) : k_Mi (S := Unit) l D yX4_isFull cX4_isFull 1 (some .boolean) 0 0 0 0 [.ref h] [(h, .inr (4, [.ref a, .int n])), (a, .inl (K, cap, .inl f))] [(K, .int)] (fun (r : Int32) (_ : Unit) => r = (if nI cap ≤ n then 1 else 0)) (fun _ => [(h, .inr (4, [.ref a, .int n])), (a, .inl (K, cap, .inl f))]) (fun _ => []) sz := by
  refine Met.ofW (cc := cX4_isFull) (maxL := 1) (ret := (some .boolean)) (by decide) rfl ?_
  intro p e s m args below meth c s₁ B hml hv
  obtain ⟨rfl, hsz, hP, hK, hD0, hG⟩ := hv
  have hx := B.exec
  have hb := B.bytes
  have hr := B.returns
  have ht : ∀ v9 ∈ wsA, v9.before ([.ref h] : List Value).toArray s = true := fun v9 h9 => atoms_spec (ws := k_ws yX4_isFull cX4_isFull 1 (some .boolean)) B.pre v9 (List.mem_cons_of_mem _ h9)
  have hown : s.vm.findClass RX4 = some m.cls := findClass_of_methodNamed B.named
  have S0 : k_C p s m ([.ref h] : List Value).toArray c cX4_isFull 1 RX4 := ⟨hx, hb, hml, hown, ht⟩
  have hlocks := B.notSynchronized
  subst hsz
  have hD := hD0.self (sz := s.heap.size)
  generalize hAe : va_A [(h, .inr (4, [.ref a, .int n])), (a, .inl (K, cap, .inl f))] s.heap.size = A at hD hG ⊢
  have hA : ∀ q : Nat, s.heap.size ≤ q → A q := fun q h => by rw [← hAe]; exact Or.inr h
  have hS : va_S A s.heap s.heap [] := va_S.rf
  have hl := lv_entry ([.ref h]) (n := 1) (Nat.le_of_ble_eq_true rfl)
  rw [lg_entry_eq]
  generalize (lg_sl ([.ref h]) ++ List.replicate (1 - (lg_sl ([.ref h])).length) Slot.unset).toArray = ls at hl ⊢
  have hl : lv_has ls 1 [(0, .ref h)] := hl
  have hP : va_P D vwCl [(h, .inr (4, [.ref a, .int n])), (a, .inl (K, cap, .inl f))] s.heap := hP
  refine lv_aload_n hx hb dX4_isFull_0 rfl (lv_at hl 0 rfl) ?_
  refine va_get (D := D) (ci := 4) (v := .int n) (C := RX4) (T := TX4) (N := 2) hx hb ht inA_X4 hown hK hP 0 rfl rfl 1 (by decide) (ht _ lf_X4_19) (fun _ h9 => h9) rfl dX4_isFull_1 ?_
  refine lv_aload_n hx hb dX4_isFull_4 rfl (lv_at hl 0 rfl) ?_
  refine va_get (D := D) (ci := 4) (v := .ref a) (C := RX4) (T := TX4) (N := 2) hx hb ht inA_X4 hown hK hP 0 rfl rfl 0 (by decide) (ht _ lf_X4_13) (fun _ h9 => h9) rfl dX4_isFull_5 ?_
  refine va_alen (v := nI cap) hx hb hK hP 1 0 rfl rfl rfl dX4_isFull_8 ?_
  refine lv_icmp_lt (tgt := 16) hx hb dX4_isFull_9 (by decide) (fun c_1 => ?_) (fun c_1 => ?_)
  · have hc9 := c_1
    refine lv_iconst (v := 0) hx hb dX4_isFull_16 (by decide) ?_
    have hP9 : va_P D vwCl [(h, .inr (4, [.ref a, .int n])), (a, .inl (K, cap, .inl f))] s.heap := hP.sub [0, 1] rfl
    have hD9 : va_D A [(h, .inr (4, [.ref a, .int n])), (a, .inl (K, cap, .inl f))] := hD.sub [0, 1] (by decide) rfl
    have hK9 : va_K D vwCl [] s := hK.sub [] rfl
    exact W.zret (v := 0) hx hb hr (rfl) (fun t ht9 hW9 => ⟨⟨0, (), rfl, by first | rfl | trivial | (simp only [c_1, if_true, if_false, reduceIte, and_self]; done) | simp_all, ⟨by rw [ht9]; exact hP9, va_K.moved hW9.alike hK9, hD9⟩⟩, hS.F ht9⟩) hS.2.2 dX4_isFull_17
  · have hc9 := c_1
    refine lv_iconst (v := 1) hx hb dX4_isFull_12 (by decide) ?_
    refine lv_goto (tgt := 17) hx hb dX4_isFull_13 (by decide) ?_
    have hP9 : va_P D vwCl [(h, .inr (4, [.ref a, .int n])), (a, .inl (K, cap, .inl f))] s.heap := hP.sub [0, 1] rfl
    have hD9 : va_D A [(h, .inr (4, [.ref a, .int n])), (a, .inl (K, cap, .inl f))] := hD.sub [0, 1] (by decide) rfl
    have hK9 : va_K D vwCl [] s := hK.sub [] rfl
    exact W.zret (v := 1) hx hb hr (rfl) (fun t ht9 hW9 => ⟨⟨1, (), rfl, by first | rfl | trivial | (simp only [c_1, if_true, if_false, reduceIte, and_self]; done) | simp_all, ⟨by rw [ht9]; exact hP9, va_K.moved hW9.alike hK9, hD9⟩⟩, hS.F ht9⟩) hS.2.2 dX4_isFull_17
set_option maxHeartbeats 4000000 in
set_option maxRecDepth 100000 in
theorem c_Row_has (l : Launch) (D : va_G) (h : Nat) (a : Nat) (n : Int32) (i : Int32) (sz : Nat) : k_Mi (S := Unit) l D yX4_has cX4_has 2 (some .boolean) 0 0 0 0 [.ref h, .int i] [(h, .inr (4, [.ref a, .int n]))] [] (fun (r : Int32) (_ : Unit) => r = (if i < 0 then 0 else if n ≤ i then 0 else 1)) (fun _ => [(h, .inr (4, [.ref a, .int n]))]) (fun _ => []) sz := by
  refine Met.ofW (cc := cX4_has) (maxL := 2) (ret := (some .boolean)) (by decide) rfl ?_
  intro p e s m args below meth c s₁ B hml hv
  obtain ⟨rfl, hsz, hP, hK, hD0, hG⟩ := hv
  have hx := B.exec
  have hb := B.bytes
  have hr := B.returns
  have ht : ∀ v9 ∈ wsA, v9.before ([.ref h, .int i] : List Value).toArray s = true := fun v9 h9 => atoms_spec (ws := k_ws yX4_has cX4_has 2 (some .boolean)) B.pre v9 (List.mem_cons_of_mem _ h9)
  have hown : s.vm.findClass RX4 = some m.cls := findClass_of_methodNamed B.named
  have S0 : k_C p s m ([.ref h, .int i] : List Value).toArray c cX4_has 2 RX4 := ⟨hx, hb, hml, hown, ht⟩
  have hlocks := B.notSynchronized
  subst hsz
  have hD := hD0.self (sz := s.heap.size)
  generalize hAe : va_A [(h, .inr (4, [.ref a, .int n]))] s.heap.size = A at hD hG ⊢
  have hA : ∀ q : Nat, s.heap.size ≤ q → A q := fun q h => by rw [← hAe]; exact Or.inr h
  have hS : va_S A s.heap s.heap [] := va_S.rf
  have hl := lv_entry ([.ref h, .int i]) (n := 2) (Nat.le_of_ble_eq_true rfl)
  rw [lg_entry_eq]
  generalize (lg_sl ([.ref h, .int i]) ++ List.replicate (2 - (lg_sl ([.ref h, .int i])).length) Slot.unset).toArray = ls at hl ⊢
  have hl : lv_has ls 2 [(0, .ref h), (1, .int i)] := hl
  have hP : va_P D vwCl [(h, .inr (4, [.ref a, .int n]))] s.heap := hP
  refine lv_iload_n hx hb dX4_has_0 rfl (lv_at hl 1 rfl) ?_
  refine lv_if_lt (tgt := 16) hx hb dX4_has_1 (by decide) (fun c_1 => ?_) (fun c_1 => ?_)
  · have hc9 := c_1
    refine lv_iconst (v := 0) hx hb dX4_has_16 (by decide) ?_
    have hP9 : va_P D vwCl [(h, .inr (4, [.ref a, .int n]))] s.heap := hP.sub [0] rfl
    have hD9 : va_D A [(h, .inr (4, [.ref a, .int n]))] := hD.sub [0] (by decide) rfl
    have hK9 : va_K D vwCl [] s := hK.sub [] rfl
    exact W.zret (v := 0) hx hb hr (rfl) (fun t ht9 hW9 => ⟨⟨0, (), rfl, by first | rfl | trivial | (simp only [c_1, if_true, if_false, reduceIte, and_self]; done) | simp_all, ⟨by rw [ht9]; exact hP9, va_K.moved hW9.alike hK9, hD9⟩⟩, hS.F ht9⟩) hS.2.2 dX4_has_17
  · have hc9 := c_1
    refine lv_iload_n hx hb dX4_has_4 rfl (lv_at hl 1 rfl) ?_
    refine lv_aload_n hx hb dX4_has_5 rfl (lv_at hl 0 rfl) ?_
    refine va_get (D := D) (ci := 4) (v := .int n) (C := RX4) (T := TX4) (N := 2) hx hb ht inA_X4 hown hK hP 0 rfl rfl 1 (by decide) (ht _ lf_X4_19) (fun _ h9 => h9) rfl dX4_has_6 ?_
    refine lv_icmp_ge (tgt := 16) hx hb dX4_has_9 (by decide) (fun c_2 => ?_) (fun c_2 => ?_)
    · have hc9 := c_2
      refine lv_iconst (v := 0) hx hb dX4_has_16 (by decide) ?_
      have hP9 : va_P D vwCl [(h, .inr (4, [.ref a, .int n]))] s.heap := hP.sub [0] rfl
      have hD9 : va_D A [(h, .inr (4, [.ref a, .int n]))] := hD.sub [0] (by decide) rfl
      have hK9 : va_K D vwCl [] s := hK.sub [] rfl
      exact W.zret (v := 0) hx hb hr (rfl) (fun t ht9 hW9 => ⟨⟨0, (), rfl, by first | rfl | trivial | (simp only [c_1, c_2, if_true, if_false, reduceIte, and_self]; done) | simp_all, ⟨by rw [ht9]; exact hP9, va_K.moved hW9.alike hK9, hD9⟩⟩, hS.F ht9⟩) hS.2.2 dX4_has_17
    · have hc9 := c_2
      refine lv_iconst (v := 1) hx hb dX4_has_12 (by decide) ?_
      refine lv_goto (tgt := 17) hx hb dX4_has_13 (by decide) ?_
      have hP9 : va_P D vwCl [(h, .inr (4, [.ref a, .int n]))] s.heap := hP.sub [0] rfl
      have hD9 : va_D A [(h, .inr (4, [.ref a, .int n]))] := hD.sub [0] (by decide) rfl
      have hK9 : va_K D vwCl [] s := hK.sub [] rfl
      exact W.zret (v := 1) hx hb hr (rfl) (fun t ht9 hW9 => ⟨⟨1, (), rfl, by first | rfl | trivial | (simp only [c_1, c_2, if_true, if_false, reduceIte, and_self]; done) | simp_all, ⟨by rw [ht9]; exact hP9, va_K.moved hW9.alike hK9, hD9⟩⟩, hS.F ht9⟩) hS.2.2 dX4_has_17
/-- a row's cell; 0 where there is none -/
def rowAt (cap : Nat) (n : Int32) (f : Nat → Int32) (i : Int32) : Int32 := if i < 0 then 0 else if n ≤ i then 0 else if nI cap ≤ i then 0 else f i.toNatClampNeg
theorem vp_in_row {cap : Nat} {i : Int32} (hc : cap < 2 ^ 31) (h0 : ¬ i < 0) (h1 : ¬ nI cap ≤ i) : vp_in i cap := by
  rcases pk_ix i hc with h | h | ⟨j, hj, rfl⟩
  · exact absurd h h0
  · exact absurd h h1
  · exact vp_in_nI hj hc
set_option maxHeartbeats 4000000 in
set_option maxRecDepth 100000 in
theorem c_Row_at (l : Launch) (D : va_G) (h : Nat) (a : Nat) (K : ClassId) (cap : Nat) (n : Int32) (f : Nat → Int32) (i : Int32) (hcap : cap < 2 ^ 31) (sz : Nat) : k_Mi (S := Unit) l D yX4_at cX4_at 2 (some .int) 0 0 0 0 [.ref h, .int i] [(h, .inr (4, [.ref a, .int n])), (a, .inl (K, cap, .inl f))] [(K, .int)] (fun (r : Int32) (_ : Unit) => r = rowAt cap n f i) (fun _ => [(h, .inr (4, [.ref a, .int n])), (a, .inl (K, cap, .inl f))]) (fun _ => []) sz := by
  refine Met.ofW (cc := cX4_at) (maxL := 2) (ret := (some .int)) (by decide) rfl ?_
  intro p e s m args below meth c s₁ B hml hv
  obtain ⟨rfl, hsz, hP, hK, hD0, hG⟩ := hv
  have hx := B.exec
  have hb := B.bytes
  have hr := B.returns
  have ht : ∀ v9 ∈ wsA, v9.before ([.ref h, .int i] : List Value).toArray s = true := fun v9 h9 => atoms_spec (ws := k_ws yX4_at cX4_at 2 (some .int)) B.pre v9 (List.mem_cons_of_mem _ h9)
  have hown : s.vm.findClass RX4 = some m.cls := findClass_of_methodNamed B.named
  have S0 : k_C p s m ([.ref h, .int i] : List Value).toArray c cX4_at 2 RX4 := ⟨hx, hb, hml, hown, ht⟩
  have hlocks := B.notSynchronized
  subst hsz
  have hD := hD0.self (sz := s.heap.size)
  generalize hAe : va_A [(h, .inr (4, [.ref a, .int n])), (a, .inl (K, cap, .inl f))] s.heap.size = A at hD hG ⊢
  have hA : ∀ q : Nat, s.heap.size ≤ q → A q := fun q h => by rw [← hAe]; exact Or.inr h
  have hS : va_S A s.heap s.heap [] := va_S.rf
  have hl := lv_entry ([.ref h, .int i]) (n := 2) (Nat.le_of_ble_eq_true rfl)
  rw [lg_entry_eq]
  generalize (lg_sl ([.ref h, .int i]) ++ List.replicate (2 - (lg_sl ([.ref h, .int i])).length) Slot.unset).toArray = ls at hl ⊢
  have hl : lv_has ls 2 [(0, .ref h), (1, .int i)] := hl
  have hP : va_P D vwCl [(h, .inr (4, [.ref a, .int n])), (a, .inl (K, cap, .inl f))] s.heap := hP
  refine lv_iload_n hx hb dX4_at_0 rfl (lv_at hl 1 rfl) ?_
  refine lv_if_lt (tgt := 30) hx hb dX4_at_1 (by decide) (fun c_1 => ?_) (fun c_1 => ?_)
  · have hc9 := c_1
    refine lv_iconst (v := 0) hx hb dX4_at_30 (by decide) ?_
    have hP9 : va_P D vwCl [(h, .inr (4, [.ref a, .int n])), (a, .inl (K, cap, .inl f))] s.heap := hP.sub [0, 1] rfl
    have hD9 : va_D A [(h, .inr (4, [.ref a, .int n])), (a, .inl (K, cap, .inl f))] := hD.sub [0, 1] (by decide) rfl
    have hK9 : va_K D vwCl [] s := hK.sub [] rfl
    exact W.iret (v := 0) hx hb hr (fun t ht9 hW9 => ⟨⟨0, (), rfl, by first | rfl | trivial | (simp only [rowAt, c_1, if_true, if_false, reduceIte, and_self]; done) | simp_all, ⟨by rw [ht9]; exact hP9, va_K.moved hW9.alike hK9, hD9⟩⟩, hS.F ht9⟩) hS.2.2 dX4_at_31
  · have hc9 := c_1
    refine lv_iload_n hx hb dX4_at_4 rfl (lv_at hl 1 rfl) ?_
    refine lv_aload_n hx hb dX4_at_5 rfl (lv_at hl 0 rfl) ?_
    refine va_get (D := D) (ci := 4) (v := .int n) (C := RX4) (T := TX4) (N := 2) hx hb ht inA_X4 hown hK hP 0 rfl rfl 1 (by decide) (ht _ lf_X4_19) (fun _ h9 => h9) rfl dX4_at_6 ?_
    refine lv_icmp_ge (tgt := 30) hx hb dX4_at_9 (by decide) (fun c_2 => ?_) (fun c_2 => ?_)
    · have hc9 := c_2
      refine lv_iconst (v := 0) hx hb dX4_at_30 (by decide) ?_
      have hP9 : va_P D vwCl [(h, .inr (4, [.ref a, .int n])), (a, .inl (K, cap, .inl f))] s.heap := hP.sub [0, 1] rfl
      have hD9 : va_D A [(h, .inr (4, [.ref a, .int n])), (a, .inl (K, cap, .inl f))] := hD.sub [0, 1] (by decide) rfl
      have hK9 : va_K D vwCl [] s := hK.sub [] rfl
      exact W.iret (v := 0) hx hb hr (fun t ht9 hW9 => ⟨⟨0, (), rfl, by first | rfl | trivial | (simp only [rowAt, c_1, c_2, if_true, if_false, reduceIte, and_self]; done) | simp_all, ⟨by rw [ht9]; exact hP9, va_K.moved hW9.alike hK9, hD9⟩⟩, hS.F ht9⟩) hS.2.2 dX4_at_31
    · have hc9 := c_2
      refine lv_iload_n hx hb dX4_at_12 rfl (lv_at hl 1 rfl) ?_
      refine lv_aload_n hx hb dX4_at_13 rfl (lv_at hl 0 rfl) ?_
      refine va_get (D := D) (ci := 4) (v := .ref a) (C := RX4) (T := TX4) (N := 2) hx hb ht inA_X4 hown hK hP 0 rfl rfl 0 (by decide) (ht _ lf_X4_13) (fun _ h9 => h9) rfl dX4_at_14 ?_
      refine va_alen (v := nI cap) hx hb hK hP 1 0 rfl rfl rfl dX4_at_17 ?_
      refine lv_icmp_ge (tgt := 30) hx hb dX4_at_18 (by decide) (fun c_3 => ?_) (fun c_3 => ?_)
      · have hc9 := c_3
        refine lv_iconst (v := 0) hx hb dX4_at_30 (by decide) ?_
        have hP9 : va_P D vwCl [(h, .inr (4, [.ref a, .int n])), (a, .inl (K, cap, .inl f))] s.heap := hP.sub [0, 1] rfl
        have hD9 : va_D A [(h, .inr (4, [.ref a, .int n])), (a, .inl (K, cap, .inl f))] := hD.sub [0, 1] (by decide) rfl
        have hK9 : va_K D vwCl [] s := hK.sub [] rfl
        exact W.iret (v := 0) hx hb hr (fun t ht9 hW9 => ⟨⟨0, (), rfl, by first | rfl | trivial | (simp only [rowAt, c_1, c_2, c_3, if_true, if_false, reduceIte, and_self]; done) | simp_all, ⟨by rw [ht9]; exact hP9, va_K.moved hW9.alike hK9, hD9⟩⟩, hS.F ht9⟩) hS.2.2 dX4_at_31
      · have hc9 := c_3
        refine lv_aload_n hx hb dX4_at_21 rfl (lv_at hl 0 rfl) ?_
        refine va_get (D := D) (ci := 4) (v := .ref a) (C := RX4) (T := TX4) (N := 2) hx hb ht inA_X4 hown hK hP 0 rfl rfl 0 (by decide) (ht _ lf_X4_13) (fun _ h9 => h9) rfl dX4_at_22 ?_
        refine lv_iload_n hx hb dX4_at_25 rfl (lv_at hl 1 rfl) ?_
        refine va_iald hx hb hK hP 1 0 rfl rfl (vp_in_row hcap c_1 c_3) dX4_at_26 ?_
        refine lv_goto (tgt := 31) hx hb dX4_at_27 (by decide) ?_
        have hP9 : va_P D vwCl [(h, .inr (4, [.ref a, .int n])), (a, .inl (K, cap, .inl f))] s.heap := hP.sub [0, 1] rfl
        have hD9 : va_D A [(h, .inr (4, [.ref a, .int n])), (a, .inl (K, cap, .inl f))] := hD.sub [0, 1] (by decide) rfl
        have hK9 : va_K D vwCl [] s := hK.sub [] rfl
        exact W.iret (v := f i.toNatClampNeg) hx hb hr (fun t ht9 hW9 => ⟨⟨f i.toNatClampNeg, (), rfl, by first | rfl | trivial | (simp only [rowAt, c_1, c_2, c_3, if_true, if_false, reduceIte, and_self]; done) | simp_all, ⟨by rw [ht9]; exact hP9, va_K.moved hW9.alike hK9, hD9⟩⟩, hS.F ht9⟩) hS.2.2 dX4_at_31
