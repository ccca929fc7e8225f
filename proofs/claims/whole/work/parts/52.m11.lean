set_option maxRecDepth 20000 in
theorem lk_X8_isPrint : Cond.code yX8_isPrint cX8_isPrint 4 (some .boolean) ∈ wsA := mA 835 rfl rfl
theorem ly_X8_isPrint : k_y yX8_isPrint 2 := ⟨by decide +kernel, by decide +kernel, by decide +kernel⟩
set_option maxRecDepth 20000 in
theorem ls_X8_isPrint : Cond.static yX8_isPrint ∈ wsA := mA 834 rfl rfl
set_option maxRecDepth 20000 in
theorem Ls_X8_54 : k_LS RX8 54 yX8_isPrint cX8_isPrint 4 (some .boolean) 2 := ⟨mA 833 rfl rfl, ls_X8_isPrint, li_BarcodeWandModel, lk_X8_isPrint, ly_X8_isPrint⟩
set_option maxRecDepth 20000 in
theorem lk_X8_goes : Cond.code yX8_goes cX8_goes 3 (some .boolean) ∈ wsA := mA 842 rfl rfl
theorem ly_X8_goes : k_y yX8_goes 2 := ⟨by decide +kernel, by decide +kernel, by decide +kernel⟩
set_option maxRecDepth 20000 in
theorem lm_X8_goes : Cond.instanceMethod yX8_goes ∈ wsA := mA 841 rfl rfl
theorem le_X8_goes : Cond.selects (yX8_goes).cls yX8_goes yX8_goes ∈ wsA := mS 21 rfl rfl
set_option maxRecDepth 20000 in
theorem Lv_X8_58 : k_LV RX8 58 yX8_goes cX8_goes 3 (some .boolean) 2 := ⟨mA 839 rfl rfl, lm_X8_goes, le_X8_goes, li_BarcodeWandModel, lk_X8_goes, ly_X8_goes⟩
set_option maxRecDepth 20000 in
theorem lk_X8_saves : Cond.code yX8_saves cX8_saves 2 none ∈ wsA := mA 846 rfl rfl
theorem ly_X8_saves : k_y yX8_saves 0 := ⟨by decide +kernel, by decide +kernel, by decide +kernel⟩
set_option maxRecDepth 20000 in
theorem lm_X8_saves : Cond.instanceMethod yX8_saves ∈ wsA := mA 845 rfl rfl
theorem le_X8_saves : Cond.selects (yX8_saves).cls yX8_saves yX8_saves ∈ wsA := mS 22 rfl rfl
set_option maxRecDepth 20000 in
theorem Lv_X8_62 : k_LV RX8 62 yX8_saves cX8_saves 2 none 0 := ⟨mA 843 rfl rfl, lm_X8_saves, le_X8_saves, li_BarcodeWandModel, lk_X8_saves, ly_X8_saves⟩
set_option maxRecDepth 20000 in
theorem lk_X8_prints : Cond.code yX8_prints cX8_prints 5 (some .int) ∈ wsA := mA 854 rfl rfl
theorem ly_X8_prints : k_y yX8_prints 2 := ⟨by decide +kernel, by decide +kernel, by decide +kernel⟩
set_option maxRecDepth 20000 in
theorem lm_X8_prints : Cond.instanceMethod yX8_prints ∈ wsA := mA 853 rfl rfl
theorem le_X8_prints : Cond.selects (yX8_prints).cls yX8_prints yX8_prints ∈ wsA := mS 24 rfl rfl
set_option maxRecDepth 20000 in
theorem Lv_X8_65 : k_LV RX8 65 yX8_prints cX8_prints 5 (some .int) 2 := ⟨mA 851 rfl rfl, lm_X8_prints, le_X8_prints, li_BarcodeWandModel, lk_X8_prints, ly_X8_prints⟩
theorem dX8_isPrint_0 : decode cX8_isPrint 0 = .ok (.iconst 1, 1) := by decide +kernel
theorem dX8_isPrint_1 : decode cX8_isPrint 1 = .ok (.istore_n 2, 1) := by decide +kernel
theorem dX8_isPrint_2 : decode cX8_isPrint 2 = .ok (.iconst 0, 1) := by decide +kernel
theorem dX8_isPrint_3 : decode cX8_isPrint 3 = .ok (.istore_n 3, 1) := by decide +kernel
theorem dX8_isPrint_4 : decode cX8_isPrint 4 = .ok (.iload_n 3, 1) := by decide +kernel
theorem dX8_isPrint_5 : decode cX8_isPrint 5 = .ok (.iload_n 1, 1) := by decide +kernel
theorem dX8_isPrint_6 : decode cX8_isPrint 6 = .ok (.if_icmp .ge 20, 3) := by decide +kernel
theorem dX8_isPrint_9 : decode cX8_isPrint 9 = .ok (.iload_n 3, 1) := by decide +kernel
theorem dX8_isPrint_10 : decode cX8_isPrint 10 = .ok (.bipush 8, 2) := by decide +kernel
theorem dX8_isPrint_12 : decode cX8_isPrint 12 = .ok (.if_icmp .ge 14, 3) := by decide +kernel
theorem dX8_isPrint_15 : decode cX8_isPrint 15 = .ok (.iload_n 2, 1) := by decide +kernel
theorem dX8_isPrint_16 : decode cX8_isPrint 16 = .ok (.bipush 10, 2) := by decide +kernel
theorem dX8_isPrint_18 : decode cX8_isPrint 18 = .ok (.imul, 1) := by decide +kernel
theorem dX8_isPrint_19 : decode cX8_isPrint 19 = .ok (.istore_n 2, 1) := by decide +kernel
theorem dX8_isPrint_20 : decode cX8_isPrint 20 = .ok (.iinc 3 1, 3) := by decide +kernel
theorem dX8_isPrint_23 : decode cX8_isPrint 23 = .ok (.goto (-19), 3) := by decide +kernel
theorem dX8_isPrint_26 : decode cX8_isPrint 26 = .ok (.iload_n 1, 1) := by decide +kernel
theorem dX8_isPrint_27 : decode cX8_isPrint 27 = .ok (.iconst 1, 1) := by decide +kernel
theorem dX8_isPrint_28 : decode cX8_isPrint 28 = .ok (.bipush 8, 2) := by decide +kernel
theorem dX8_isPrint_30 : decode cX8_isPrint 30 = .ok (.invokestatic 46, 3) := by decide +kernel
theorem dX8_isPrint_33 : decode cX8_isPrint 33 = .ok (.ifCond .eq 18, 3) := by decide +kernel
theorem dX8_isPrint_36 : decode cX8_isPrint 36 = .ok (.iload_n 0, 1) := by decide +kernel
theorem dX8_isPrint_37 : decode cX8_isPrint 37 = .ok (.iconst 0, 1) := by decide +kernel
theorem dX8_isPrint_38 : decode cX8_isPrint 38 = .ok (.iload_n 2, 1) := by decide +kernel
theorem dX8_isPrint_39 : decode cX8_isPrint 39 = .ok (.iconst 1, 1) := by decide +kernel
theorem dX8_isPrint_40 : decode cX8_isPrint 40 = .ok (.isub, 1) := by decide +kernel
theorem dX8_isPrint_41 : decode cX8_isPrint 41 = .ok (.invokestatic 46, 3) := by decide +kernel
theorem dX8_isPrint_44 : decode cX8_isPrint 44 = .ok (.ifCond .eq 7, 3) := by decide +kernel
theorem dX8_isPrint_47 : decode cX8_isPrint 47 = .ok (.iconst 1, 1) := by decide +kernel
theorem dX8_isPrint_48 : decode cX8_isPrint 48 = .ok (.goto 4, 3) := by decide +kernel
theorem dX8_isPrint_51 : decode cX8_isPrint 51 = .ok (.iconst 0, 1) := by decide +kernel
theorem dX8_isPrint_52 : decode cX8_isPrint 52 = .ok (.ireturn, 1) := by decide +kernel
theorem dX8_prints_0 : decode cX8_prints 0 = .ok (.iload_n 1, 1) := by decide +kernel
theorem dX8_prints_1 : decode cX8_prints 1 = .ok (.istore_n 3, 1) := by decide +kernel
theorem dX8_prints_2 : decode cX8_prints 2 = .ok (.iload_n 2, 1) := by decide +kernel
theorem dX8_prints_3 : decode cX8_prints 3 = .ok (.iconst 1, 1) := by decide +kernel
theorem dX8_prints_4 : decode cX8_prints 4 = .ok (.isub, 1) := by decide +kernel
theorem dX8_prints_5 : decode cX8_prints 5 = .ok (.istore 4, 2) := by decide +kernel
theorem dX8_prints_7 : decode cX8_prints 7 = .ok (.iload 4, 2) := by decide +kernel
theorem dX8_prints_9 : decode cX8_prints 9 = .ok (.ifCond .lt 27, 3) := by decide +kernel
theorem dX8_prints_12 : decode cX8_prints 12 = .ok (.aload_n 0, 1) := by decide +kernel
theorem dX8_prints_13 : decode cX8_prints 13 = .ok (.getfield 7, 3) := by decide +kernel
theorem dX8_prints_16 : decode cX8_prints 16 = .ok (.iconst 1, 1) := by decide +kernel
theorem dX8_prints_17 : decode cX8_prints 17 = .ok (.iload 4, 2) := by decide +kernel
theorem dX8_prints_19 : decode cX8_prints 19 = .ok (.iadd, 1) := by decide +kernel
theorem dX8_prints_20 : decode cX8_prints 20 = .ok (.iload_n 3, 1) := by decide +kernel
theorem dX8_prints_21 : decode cX8_prints 21 = .ok (.bipush 10, 2) := by decide +kernel
theorem dX8_prints_23 : decode cX8_prints 23 = .ok (.irem, 1) := by decide +kernel
theorem dX8_prints_24 : decode cX8_prints 24 = .ok (.iastore, 1) := by decide +kernel
theorem dX8_prints_25 : decode cX8_prints 25 = .ok (.iload_n 3, 1) := by decide +kernel
theorem dX8_prints_26 : decode cX8_prints 26 = .ok (.bipush 10, 2) := by decide +kernel
theorem dX8_prints_28 : decode cX8_prints 28 = .ok (.idiv, 1) := by decide +kernel
theorem dX8_prints_29 : decode cX8_prints 29 = .ok (.istore_n 3, 1) := by decide +kernel
theorem dX8_prints_30 : decode cX8_prints 30 = .ok (.iinc 4 (-1), 3) := by decide +kernel
theorem dX8_prints_33 : decode cX8_prints 33 = .ok (.goto (-26), 3) := by decide +kernel
theorem dX8_prints_36 : decode cX8_prints 36 = .ok (.aload_n 0, 1) := by decide +kernel
theorem dX8_prints_37 : decode cX8_prints 37 = .ok (.getfield 7, 3) := by decide +kernel
theorem dX8_prints_40 : decode cX8_prints 40 = .ok (.iconst 1, 1) := by decide +kernel
theorem dX8_prints_41 : decode cX8_prints 41 = .ok (.iload_n 2, 1) := by decide +kernel
theorem dX8_prints_42 : decode cX8_prints 42 = .ok (.iadd, 1) := by decide +kernel
theorem dX8_prints_43 : decode cX8_prints 43 = .ok (.aload_n 0, 1) := by decide +kernel
theorem dX8_prints_44 : decode cX8_prints 44 = .ok (.getfield 7, 3) := by decide +kernel
theorem dX8_prints_47 : decode cX8_prints 47 = .ok (.iconst 1, 1) := by decide +kernel
theorem dX8_prints_48 : decode cX8_prints 48 = .ok (.iload_n 2, 1) := by decide +kernel
theorem dX8_prints_49 : decode cX8_prints 49 = .ok (.invokestatic 50, 3) := by decide +kernel
theorem dX8_prints_52 : decode cX8_prints 52 = .ok (.iastore, 1) := by decide +kernel
theorem dX8_prints_53 : decode cX8_prints 53 = .ok (.aload_n 0, 1) := by decide +kernel
theorem dX8_prints_54 : decode cX8_prints 54 = .ok (.getfield 7, 3) := by decide +kernel
theorem dX8_prints_57 : decode cX8_prints 57 = .ok (.iconst 0, 1) := by decide +kernel
theorem dX8_prints_58 : decode cX8_prints 58 = .ok (.iload_n 2, 1) := by decide +kernel
theorem dX8_prints_59 : decode cX8_prints 59 = .ok (.iconst 1, 1) := by decide +kernel
theorem dX8_prints_60 : decode cX8_prints 60 = .ok (.iadd, 1) := by decide +kernel
theorem dX8_prints_61 : decode cX8_prints 61 = .ok (.iastore, 1) := by decide +kernel
theorem dX8_prints_62 : decode cX8_prints 62 = .ok (.iconst 0, 1) := by decide +kernel
theorem dX8_prints_63 : decode cX8_prints 63 = .ok (.istore 4, 2) := by decide +kernel
theorem dX8_prints_65 : decode cX8_prints 65 = .ok (.iload 4, 2) := by decide +kernel
theorem dX8_prints_67 : decode cX8_prints 67 = .ok (.bipush 41, 2) := by decide +kernel
theorem dX8_prints_69 : decode cX8_prints 69 = .ok (.if_icmp .ge 20, 3) := by decide +kernel
theorem dX8_prints_72 : decode cX8_prints 72 = .ok (.aload_n 0, 1) := by decide +kernel
theorem dX8_prints_73 : decode cX8_prints 73 = .ok (.getfield 7, 3) := by decide +kernel
theorem dX8_prints_76 : decode cX8_prints 76 = .ok (.bipush 10, 2) := by decide +kernel
theorem dX8_prints_78 : decode cX8_prints 78 = .ok (.iload 4, 2) := by decide +kernel
theorem dX8_prints_80 : decode cX8_prints 80 = .ok (.iadd, 1) := by decide +kernel
theorem dX8_prints_81 : decode cX8_prints 81 = .ok (.iconst 0, 1) := by decide +kernel
theorem dX8_prints_82 : decode cX8_prints 82 = .ok (.iastore, 1) := by decide +kernel
theorem dX8_prints_83 : decode cX8_prints 83 = .ok (.iinc 4 1, 3) := by decide +kernel
theorem dX8_prints_86 : decode cX8_prints 86 = .ok (.goto (-21), 3) := by decide +kernel
theorem dX8_prints_89 : decode cX8_prints 89 = .ok (.aload_n 0, 1) := by decide +kernel
theorem dX8_prints_90 : decode cX8_prints 90 = .ok (.getfield 7, 3) := by decide +kernel
theorem dX8_prints_93 : decode cX8_prints 93 = .ok (.iconst 1, 1) := by decide +kernel
theorem dX8_prints_94 : decode cX8_prints 94 = .ok (.iload_n 2, 1) := by decide +kernel
theorem dX8_prints_95 : decode cX8_prints 95 = .ok (.iadd, 1) := by decide +kernel
theorem dX8_prints_96 : decode cX8_prints 96 = .ok (.iaload, 1) := by decide +kernel
theorem dX8_prints_97 : decode cX8_prints 97 = .ok (.ireturn, 1) := by decide +kernel
theorem dX8_print_0 : decode cX8_print 0 = .ok (.aload_n 0, 1) := by decide +kernel
theorem dX8_print_1 : decode cX8_print 1 = .ok (.iload_n 1, 1) := by decide +kernel
theorem dX8_print_2 : decode cX8_print 2 = .ok (.iload_n 2, 1) := by decide +kernel
theorem dX8_print_3 : decode cX8_print 3 = .ok (.invokestatic 54, 3) := by decide +kernel
theorem dX8_print_6 : decode cX8_print 6 = .ok (.iconst 1, 1) := by decide +kernel
theorem dX8_print_7 : decode cX8_print 7 = .ok (.invokevirtual 58, 3) := by decide +kernel
theorem dX8_print_10 : decode cX8_print 10 = .ok (.ifCond .ne 5, 3) := by decide +kernel
theorem dX8_print_13 : decode cX8_print 13 = .ok (.iconst 0, 1) := by decide +kernel
theorem dX8_print_14 : decode cX8_print 14 = .ok (.ireturn, 1) := by decide +kernel
theorem dX8_print_15 : decode cX8_print 15 = .ok (.aload_n 0, 1) := by decide +kernel
theorem dX8_print_16 : decode cX8_print 16 = .ok (.invokevirtual 62, 3) := by decide +kernel
theorem dX8_print_19 : decode cX8_print 19 = .ok (.aload_n 0, 1) := by decide +kernel
theorem dX8_print_20 : decode cX8_print 20 = .ok (.iload_n 1, 1) := by decide +kernel
theorem dX8_print_21 : decode cX8_print 21 = .ok (.iload_n 2, 1) := by decide +kernel
theorem dX8_print_22 : decode cX8_print 22 = .ok (.invokevirtual 65, 3) := by decide +kernel
theorem dX8_print_25 : decode cX8_print 25 = .ok (.ireturn, 1) := by decide +kernel
set_option maxHeartbeats 4000000 in
set_option maxRecDepth 100000 in
theorem c_M_isPr1 (l : Launch) (D : va_G) (d : Int32) (z : Int32) (hok : pOk d z) (sz : Nat) : k_Mi (S := Unit) l D yX8_isPrint cX8_isPrint 4 (some .boolean) 1 0 0 22 [.int d, .int z] [] [] (fun (r : Int32) (_ : Unit) => r = (1)) (fun _ => []) (fun _ => []) sz := by
  refine Met.ofW (cc := cX8_isPrint) (maxL := 4) (ret := (some .boolean)) (by decide) rfl ?_
  intro p e s m args below meth c s₁ B hml hv
  obtain ⟨rfl, hsz, hP, hK, hD0, hG⟩ := hv
  have hx := B.exec
  have hb := B.bytes
  have hr := B.returns
  have ht : ∀ v9 ∈ wsA, v9.before ([.int d, .int z] : List Value).toArray s = true := fun v9 h9 => atoms_spec (ws := k_ws yX8_isPrint cX8_isPrint 4 (some .boolean)) B.pre v9 (List.mem_cons_of_mem _ h9)
  have hown : s.vm.findClass RX8 = some m.cls := findClass_of_methodNamed B.named
  have S0 : k_C p s m ([.int d, .int z] : List Value).toArray c cX8_isPrint 4 RX8 := ⟨hx, hb, hml, hown, ht⟩
  have hlocks := B.notSynchronized
  subst hsz
  have hD := hD0.self (sz := s.heap.size)
  generalize hAe : va_A [] s.heap.size = A at hD hG ⊢
  have hA : ∀ q : Nat, s.heap.size ≤ q → A q := fun q h => by rw [← hAe]; exact Or.inr h
  have hS : va_S A s.heap s.heap [] := va_S.rf
  have hl := lv_entry ([.int d, .int z]) (n := 4) (Nat.le_of_ble_eq_true rfl)
  rw [lg_entry_eq]
  generalize (lg_sl ([.int d, .int z]) ++ List.replicate (4 - (lg_sl ([.int d, .int z])).length) Slot.unset).toArray = ls at hl ⊢
  have hl : lv_has ls 4 [(0, .int d), (1, .int z)] := hl
  have hP : va_P D vwCl [] s.heap := hP
  refine lv_iconst (v := 1) hx hb dX8_isPrint_0 (by decide) ?_
  refine lv_istore_n (lv' := [(2, .int 1), (0, .int d), (1, .int z)]) hx hb dX8_isPrint_1 rfl hl (by decide) rfl (fun ls hl => ?_)
  refine lv_iconst (v := 0) hx hb dX8_isPrint_2 (by decide) ?_
  refine lv_istore_n (lv' := [(3, .int 0), (2, .int 1), (0, .int d), (1, .int z)]) hx hb dX8_isPrint_3 rfl hl (by decide) rfl (fun ls hl => ?_)
  have hl : lv_has ls 4 [(3, .int 0), (2, .int (pw10 0)), (0, .int d), (1, .int z)] := hl
  have hl : lv_has ls 4 [(3, .int (nI 0)), (2, .int (pw10 0)), (0, .int d), (1, .int z)] := hl
  refine k_loop (ι := Nat) (fun (i : Nat) H9 locs9 ls9 => (i ≤ 8) ∧ (∀ m, m < i → ¬ z ≤ nI m) ∧ va_P D vwCl [] H9 ∧ va_D A [] ∧ va_S A s.heap H9 locs9 ∧ lv_has ls9 4 [(2, .int (pw10 i)), (3, .int (nI i)), (0, .int d), (1, .int z)]) (fun (i : Nat) => 8 - i) ?_ (0) ⟨(Nat.zero_le _), (fun m9 h9 => absurd h9 (Nat.not_lt_zero m9)), hP.sub [] rfl, hD.sub [] (by decide) rfl, hS, lv_sub hl [1, 0, 2, 3] rfl⟩
  intro x9 H locs ls hF9 ih9
  obtain ⟨i, hv9⟩ : ∃ z, z = x9 := ⟨_, rfl⟩
  subst hv9
  obtain ⟨hi, hlt, hP, hD, hS, hl⟩ := hF9
  try dsimp only at ih9
  have hP : va_P D vwCl [] H := hP
  have hD : va_D A [] := hD
  have hl : lv_has ls 4 [(2, .int (pw10 i)), (3, .int (nI i)), (0, .int d), (1, .int z)] := hl
  refine lv_iload_n hx hb dX8_isPrint_4 rfl (lv_at hl 1 rfl) ?_
  refine lv_iload_n hx hb dX8_isPrint_5 rfl (lv_at hl 3 rfl) ?_
  refine lv_icmp_ge (tgt := 26) hx hb dX8_isPrint_6 (by decide) (fun c_1 => ?_) (fun c_1 => ?_)
  · have hc9 := c_1
    refine lv_iload_n hx hb dX8_isPrint_26 rfl (lv_at hl 3 rfl) ?_
    refine lv_iconst (v := 1) hx hb dX8_isPrint_27 (by decide) ?_
    refine lv_bipush (v := 8) hx hb dX8_isPrint_28 (by decide) ?_
    have ct := k_cut_of (wc := []) (wr := []) (tc := []) hG hS hA hK hP hD [] [] [] rfl rfl (by decide) (by decide) (by decide) rfl
    refine k_endi (As := [.int z, .int 1, .int 8]) ct (k_runS (As := [.int z, .int 1, .int 8]) (rest := []) S0 Ls_X8_46 ct (c_M_in l D z 1 8 H.size) hl.1 rfl (Nat.le_of_ble_eq_true rfl) rfl dX8_isPrint_30 ⟨⟨Nat.le_of_ble_eq_true rfl, Nat.le_of_ble_eq_true rfl⟩, Nat.le_of_ble_eq_true rfl, Nat.le_of_ble_eq_true rfl⟩) rfl rfl (fun r_2 _ H locs hw_3 hP hD hK hS => ?_)
    have hK : va_K D vwCl [] s := hK
    have hP : va_P D vwCl [] H := hP
    have hD : va_D A [] := hD
    rcases hw_3 with ⟨hr9, c_4, c_5⟩ | ⟨hr9, c_6⟩
    · subst hr9
      refine lv_if_eq (tgt := 51) hx hb dX8_isPrint_33 (by decide) (fun c9 => absurd c9 (by decide)) (fun _ => ?_)
      refine lv_iload_n hx hb dX8_isPrint_36 rfl (lv_at hl 2 rfl) ?_
      refine lv_iconst (v := 0) hx hb dX8_isPrint_37 (by decide) ?_
      refine lv_iload_n hx hb dX8_isPrint_38 rfl (lv_at hl 0 rfl) ?_
      refine lv_iconst (v := 1) hx hb dX8_isPrint_39 (by decide) ?_
      refine lv_isub hx hb dX8_isPrint_40 ?_
      refine k_nrm (y := (pw10 i - 1)) (rfl) ?_
      have ct := k_cut_of (wc := []) (wr := []) (tc := []) hG hS hA hK hP hD [] [] [] rfl rfl (by decide) (by decide) (by decide) rfl
      refine k_endi (As := [.int d, .int 0, .int (pw10 i - 1)]) ct (k_runS (As := [.int d, .int 0, .int (pw10 i - 1)]) (rest := []) S0 Ls_X8_46 ct (c_M_in l D d 0 (pw10 i - 1) H.size) hl.1 rfl (Nat.le_of_ble_eq_true rfl) rfl dX8_isPrint_41 ⟨⟨Nat.le_of_ble_eq_true rfl, Nat.le_of_ble_eq_true rfl⟩, Nat.le_of_ble_eq_true rfl, Nat.le_of_ble_eq_true rfl⟩) rfl rfl (fun r_7 _ H locs hw_8 hP hD hK hS => ?_)
      have hK : va_K D vwCl [] s := hK
      have hP : va_P D vwCl [] H := hP
      have hD : va_D A [] := hD
      rcases hw_8 with ⟨hr9, c_9, c_10⟩ | ⟨hr9, c_11⟩
      · subst hr9
        refine lv_if_eq (tgt := 51) hx hb dX8_isPrint_44 (by decide) (fun c9 => absurd c9 (by decide)) (fun _ => ?_)
        refine lv_iconst (v := 1) hx hb dX8_isPrint_47 (by decide) ?_
        refine lv_goto (tgt := 52) hx hb dX8_isPrint_48 (by decide) ?_
        have hP9 : va_P D vwCl [] H := hP.sub [] rfl
        have hD9 : va_D A [] := hD.sub [] (by decide) rfl
        have hK9 : va_K D vwCl [] s := hK.sub [] rfl
        exact W.zret (v := 1) hx hb hr (rfl) (fun t ht9 hW9 => ⟨⟨1, (), rfl, by rfl, ⟨by rw [ht9]; exact hP9, va_K.moved hW9.alike hK9, hD9⟩⟩, hS.F ht9⟩) hS.2.2 dX8_isPrint_52
      · subst hr9
        refine lv_if_eq (tgt := 51) hx hb dX8_isPrint_44 (by decide) (fun _ => ?_) (fun c9 => absurd (by decide) c9)
        refine lv_iconst (v := 0) hx hb dX8_isPrint_51 (by decide) ?_
        have hP9 : va_P D vwCl [] H := hP.sub [] rfl
        have hD9 : va_D A [] := hD.sub [] (by decide) rfl
        have hK9 : va_K D vwCl [] s := hK.sub [] rfl
        exact W.zret (v := 0) hx hb hr (rfl) (fun t ht9 hW9 => ⟨⟨0, (), rfl, by (obtain ⟨j, hj1, hj8, hz⟩ := cnt_of c_4 (fa_of_nlt c_5); obtain rfl := isp1 hi hlt (Or.inl c_1) j hj8 hz; exact absurd hok (fun hk => c_11.elim hk.2.2.1 (fun q9 => pw_n hj8 q9 (by have h8 := hk.2.2.2; rw [hz, nI_clamp (by omega)] at h8; exact h8)))), ⟨by rw [ht9]; exact hP9, va_K.moved hW9.alike hK9, hD9⟩⟩, hS.F ht9⟩) hS.2.2 dX8_isPrint_52
    · subst hr9
      refine lv_if_eq (tgt := 51) hx hb dX8_isPrint_33 (by decide) (fun _ => ?_) (fun c9 => absurd (by decide) c9)
      refine lv_iconst (v := 0) hx hb dX8_isPrint_51 (by decide) ?_
      have hP9 : va_P D vwCl [] H := hP.sub [] rfl
      have hD9 : va_D A [] := hD.sub [] (by decide) rfl
      have hK9 : va_K D vwCl [] s := hK.sub [] rfl
      exact W.zret (v := 0) hx hb hr (rfl) (fun t ht9 hW9 => ⟨⟨0, (), rfl, by (exact absurd hok (fun hk => rg_n c_6 ⟨hk.1, hk.2.1⟩)), ⟨by rw [ht9]; exact hP9, va_K.moved hW9.alike hK9, hD9⟩⟩, hS.F ht9⟩) hS.2.2 dX8_isPrint_52
  · have hc9 := c_1
    refine lv_iload_n hx hb dX8_isPrint_9 rfl (lv_at hl 1 rfl) ?_
    refine lv_bipush (v := 8) hx hb dX8_isPrint_10 (by decide) ?_
    refine lv_icmp_ge (tgt := 26) hx hb dX8_isPrint_12 (by decide) (fun c_12 => ?_) (fun c_12 => ?_)
    · have hc9 := c_12
      refine lv_iload_n hx hb dX8_isPrint_26 rfl (lv_at hl 3 rfl) ?_
      refine lv_iconst (v := 1) hx hb dX8_isPrint_27 (by decide) ?_
      refine lv_bipush (v := 8) hx hb dX8_isPrint_28 (by decide) ?_
      have ct := k_cut_of (wc := []) (wr := []) (tc := []) hG hS hA hK hP hD [] [] [] rfl rfl (by decide) (by decide) (by decide) rfl
      refine k_endi (As := [.int z, .int 1, .int 8]) ct (k_runS (As := [.int z, .int 1, .int 8]) (rest := []) S0 Ls_X8_46 ct (c_M_in l D z 1 8 H.size) hl.1 rfl (Nat.le_of_ble_eq_true rfl) rfl dX8_isPrint_30 ⟨⟨Nat.le_of_ble_eq_true rfl, Nat.le_of_ble_eq_true rfl⟩, Nat.le_of_ble_eq_true rfl, Nat.le_of_ble_eq_true rfl⟩) rfl rfl (fun r_13 _ H locs hw_14 hP hD hK hS => ?_)
      have hK : va_K D vwCl [] s := hK
      have hP : va_P D vwCl [] H := hP
      have hD : va_D A [] := hD
      rcases hw_14 with ⟨hr9, c_15, c_16⟩ | ⟨hr9, c_17⟩
      · subst hr9
        refine lv_if_eq (tgt := 51) hx hb dX8_isPrint_33 (by decide) (fun c9 => absurd c9 (by decide)) (fun _ => ?_)
        refine lv_iload_n hx hb dX8_isPrint_36 rfl (lv_at hl 2 rfl) ?_
        refine lv_iconst (v := 0) hx hb dX8_isPrint_37 (by decide) ?_
        refine lv_iload_n hx hb dX8_isPrint_38 rfl (lv_at hl 0 rfl) ?_
        refine lv_iconst (v := 1) hx hb dX8_isPrint_39 (by decide) ?_
        refine lv_isub hx hb dX8_isPrint_40 ?_
        refine k_nrm (y := (pw10 i - 1)) (rfl) ?_
        have ct := k_cut_of (wc := []) (wr := []) (tc := []) hG hS hA hK hP hD [] [] [] rfl rfl (by decide) (by decide) (by decide) rfl
        refine k_endi (As := [.int d, .int 0, .int (pw10 i - 1)]) ct (k_runS (As := [.int d, .int 0, .int (pw10 i - 1)]) (rest := []) S0 Ls_X8_46 ct (c_M_in l D d 0 (pw10 i - 1) H.size) hl.1 rfl (Nat.le_of_ble_eq_true rfl) rfl dX8_isPrint_41 ⟨⟨Nat.le_of_ble_eq_true rfl, Nat.le_of_ble_eq_true rfl⟩, Nat.le_of_ble_eq_true rfl, Nat.le_of_ble_eq_true rfl⟩) rfl rfl (fun r_18 _ H locs hw_19 hP hD hK hS => ?_)
        have hK : va_K D vwCl [] s := hK
        have hP : va_P D vwCl [] H := hP
        have hD : va_D A [] := hD
        rcases hw_19 with ⟨hr9, c_20, c_21⟩ | ⟨hr9, c_22⟩
        · subst hr9
          refine lv_if_eq (tgt := 51) hx hb dX8_isPrint_44 (by decide) (fun c9 => absurd c9 (by decide)) (fun _ => ?_)
          refine lv_iconst (v := 1) hx hb dX8_isPrint_47 (by decide) ?_
          refine lv_goto (tgt := 52) hx hb dX8_isPrint_48 (by decide) ?_
          have hP9 : va_P D vwCl [] H := hP.sub [] rfl
          have hD9 : va_D A [] := hD.sub [] (by decide) rfl
          have hK9 : va_K D vwCl [] s := hK.sub [] rfl
          exact W.zret (v := 1) hx hb hr (rfl) (fun t ht9 hW9 => ⟨⟨1, (), rfl, by rfl, ⟨by rw [ht9]; exact hP9, va_K.moved hW9.alike hK9, hD9⟩⟩, hS.F ht9⟩) hS.2.2 dX8_isPrint_52
        · subst hr9
          refine lv_if_eq (tgt := 51) hx hb dX8_isPrint_44 (by decide) (fun _ => ?_) (fun c9 => absurd (by decide) c9)
          refine lv_iconst (v := 0) hx hb dX8_isPrint_51 (by decide) ?_
          have hP9 : va_P D vwCl [] H := hP.sub [] rfl
          have hD9 : va_D A [] := hD.sub [] (by decide) rfl
          have hK9 : va_K D vwCl [] s := hK.sub [] rfl
          exact W.zret (v := 0) hx hb hr (rfl) (fun t ht9 hW9 => ⟨⟨0, (), rfl, by (obtain ⟨j, hj1, hj8, hz⟩ := cnt_of c_15 (fa_of_nlt c_16); obtain rfl := isp1 hi hlt (Or.inr c_12) j hj8 hz; exact absurd hok (fun hk => c_22.elim hk.2.2.1 (fun q9 => pw_n hj8 q9 (by have h8 := hk.2.2.2; rw [hz, nI_clamp (by omega)] at h8; exact h8)))), ⟨by rw [ht9]; exact hP9, va_K.moved hW9.alike hK9, hD9⟩⟩, hS.F ht9⟩) hS.2.2 dX8_isPrint_52
      · subst hr9
        refine lv_if_eq (tgt := 51) hx hb dX8_isPrint_33 (by decide) (fun _ => ?_) (fun c9 => absurd (by decide) c9)
        refine lv_iconst (v := 0) hx hb dX8_isPrint_51 (by decide) ?_
        have hP9 : va_P D vwCl [] H := hP.sub [] rfl
        have hD9 : va_D A [] := hD.sub [] (by decide) rfl
        have hK9 : va_K D vwCl [] s := hK.sub [] rfl
        exact W.zret (v := 0) hx hb hr (rfl) (fun t ht9 hW9 => ⟨⟨0, (), rfl, by (exact absurd hok (fun hk => rg_n c_17 ⟨hk.1, hk.2.1⟩)), ⟨by rw [ht9]; exact hP9, va_K.moved hW9.alike hK9, hD9⟩⟩, hS.F ht9⟩) hS.2.2 dX8_isPrint_52
    · have hc9 := c_12
      have hik : i + 1 ≤ 8 := by rcases Nat.lt_or_ge i 8 with q9 | q9; exact q9; exact absurd (nI_le (a := 8) q9 (by omega)) c_12
      refine lv_iload_n hx hb dX8_isPrint_15 rfl (lv_at hl 0 rfl) ?_
      refine lv_bipush (v := 10) hx hb dX8_isPrint_16 (by decide) ?_
      refine lv_imul hx hb dX8_isPrint_18 ?_
      refine k_nrm (y := (pw10 (i + 1))) (rfl) ?_
      refine lv_istore_n (lv' := [(2, .int (pw10 (i + 1))), (3, .int (nI i)), (0, .int d), (1, .int z)]) hx hb dX8_isPrint_19 rfl hl (by decide) rfl (fun ls hl => ?_)
      obtain ⟨x_23, ex_23⟩ : ∃ z : Int32, z = (nI i) + 1 := ⟨_, rfl⟩
      refine lv_iinc (v := x_23) (lv' := [(3, .int x_23), (2, .int (pw10 (i + 1))), (0, .int d), (1, .int z)]) hx hb dX8_isPrint_20 hl (k := 1) rfl (by rw [ex_23]; rfl) (by decide) rfl (fun ls hl => ?_)
      refine lv_goto (tgt := 4) hx hb dX8_isPrint_23 (by decide) ?_
      have he9 : x_23 = (nI (i + 1)) := by rw [ex_23]; exact nI_1 i
      rw [he9] at hl
      have hl : lv_has ls 4 [(3, .int (nI (i + 1))), (2, .int (pw10 (i + 1))), (0, .int d), (1, .int z)] := hl
      exact ih9 (i + 1) H locs ls (by omega) ⟨hik, (lt_s hlt c_1), hP.sub [] rfl, hD.sub [] (by decide) rfl, hS, lv_sub hl [1, 0, 2, 3] rfl⟩
set_option maxHeartbeats 4000000 in
set_option maxRecDepth 100000 in
theorem c_M_isPr0 (l : Launch) (D : va_G) (d : Int32) (z : Int32) (hok : ¬ pOk d z) (sz : Nat) : k_Mi (S := Unit) l D yX8_isPrint cX8_isPrint 4 (some .boolean) 1 0 0 22 [.int d, .int z] [] [] (fun (r : Int32) (_ : Unit) => r = (0)) (fun _ => []) (fun _ => []) sz := by
  refine Met.ofW (cc := cX8_isPrint) (maxL := 4) (ret := (some .boolean)) (by decide) rfl ?_
  intro p e s m args below meth c s₁ B hml hv
  obtain ⟨rfl, hsz, hP, hK, hD0, hG⟩ := hv
  have hx := B.exec
  have hb := B.bytes
  have hr := B.returns
  have ht : ∀ v9 ∈ wsA, v9.before ([.int d, .int z] : List Value).toArray s = true := fun v9 h9 => atoms_spec (ws := k_ws yX8_isPrint cX8_isPrint 4 (some .boolean)) B.pre v9 (List.mem_cons_of_mem _ h9)
  have hown : s.vm.findClass RX8 = some m.cls := findClass_of_methodNamed B.named
  have S0 : k_C p s m ([.int d, .int z] : List Value).toArray c cX8_isPrint 4 RX8 := ⟨hx, hb, hml, hown, ht⟩
  have hlocks := B.notSynchronized
  subst hsz
  have hD := hD0.self (sz := s.heap.size)
  generalize hAe : va_A [] s.heap.size = A at hD hG ⊢
  have hA : ∀ q : Nat, s.heap.size ≤ q → A q := fun q h => by rw [← hAe]; exact Or.inr h
  have hS : va_S A s.heap s.heap [] := va_S.rf
  have hl := lv_entry ([.int d, .int z]) (n := 4) (Nat.le_of_ble_eq_true rfl)
  rw [lg_entry_eq]
  generalize (lg_sl ([.int d, .int z]) ++ List.replicate (4 - (lg_sl ([.int d, .int z])).length) Slot.unset).toArray = ls at hl ⊢
  have hl : lv_has ls 4 [(0, .int d), (1, .int z)] := hl
  have hP : va_P D vwCl [] s.heap := hP
  refine lv_iconst (v := 1) hx hb dX8_isPrint_0 (by decide) ?_
  refine lv_istore_n (lv' := [(2, .int 1), (0, .int d), (1, .int z)]) hx hb dX8_isPrint_1 rfl hl (by decide) rfl (fun ls hl => ?_)
  refine lv_iconst (v := 0) hx hb dX8_isPrint_2 (by decide) ?_
  refine lv_istore_n (lv' := [(3, .int 0), (2, .int 1), (0, .int d), (1, .int z)]) hx hb dX8_isPrint_3 rfl hl (by decide) rfl (fun ls hl => ?_)
  have hl : lv_has ls 4 [(3, .int 0), (2, .int (pw10 0)), (0, .int d), (1, .int z)] := hl
  have hl : lv_has ls 4 [(3, .int (nI 0)), (2, .int (pw10 0)), (0, .int d), (1, .int z)] := hl
  refine k_loop (ι := Nat) (fun (i : Nat) H9 locs9 ls9 => (i ≤ 8) ∧ (∀ m, m < i → ¬ z ≤ nI m) ∧ va_P D vwCl [] H9 ∧ va_D A [] ∧ va_S A s.heap H9 locs9 ∧ lv_has ls9 4 [(2, .int (pw10 i)), (3, .int (nI i)), (0, .int d), (1, .int z)]) (fun (i : Nat) => 8 - i) ?_ (0) ⟨(Nat.zero_le _), (fun m9 h9 => absurd h9 (Nat.not_lt_zero m9)), hP.sub [] rfl, hD.sub [] (by decide) rfl, hS, lv_sub hl [1, 0, 2, 3] rfl⟩
  intro x9 H locs ls hF9 ih9
  obtain ⟨i, hv9⟩ : ∃ z, z = x9 := ⟨_, rfl⟩
  subst hv9
  obtain ⟨hi, hlt, hP, hD, hS, hl⟩ := hF9
  try dsimp only at ih9
  have hP : va_P D vwCl [] H := hP
  have hD : va_D A [] := hD
  have hl : lv_has ls 4 [(2, .int (pw10 i)), (3, .int (nI i)), (0, .int d), (1, .int z)] := hl
  refine lv_iload_n hx hb dX8_isPrint_4 rfl (lv_at hl 1 rfl) ?_
  refine lv_iload_n hx hb dX8_isPrint_5 rfl (lv_at hl 3 rfl) ?_
  refine lv_icmp_ge (tgt := 26) hx hb dX8_isPrint_6 (by decide) (fun c_1 => ?_) (fun c_1 => ?_)
  · have hc9 := c_1
    refine lv_iload_n hx hb dX8_isPrint_26 rfl (lv_at hl 3 rfl) ?_
    refine lv_iconst (v := 1) hx hb dX8_isPrint_27 (by decide) ?_
    refine lv_bipush (v := 8) hx hb dX8_isPrint_28 (by decide) ?_
    have ct := k_cut_of (wc := []) (wr := []) (tc := []) hG hS hA hK hP hD [] [] [] rfl rfl (by decide) (by decide) (by decide) rfl
    refine k_endi (As := [.int z, .int 1, .int 8]) ct (k_runS (As := [.int z, .int 1, .int 8]) (rest := []) S0 Ls_X8_46 ct (c_M_in l D z 1 8 H.size) hl.1 rfl (Nat.le_of_ble_eq_true rfl) rfl dX8_isPrint_30 ⟨⟨Nat.le_of_ble_eq_true rfl, Nat.le_of_ble_eq_true rfl⟩, Nat.le_of_ble_eq_true rfl, Nat.le_of_ble_eq_true rfl⟩) rfl rfl (fun r_2 _ H locs hw_3 hP hD hK hS => ?_)
    have hK : va_K D vwCl [] s := hK
    have hP : va_P D vwCl [] H := hP
    have hD : va_D A [] := hD
    rcases hw_3 with ⟨hr9, c_4, c_5⟩ | ⟨hr9, c_6⟩
    · subst hr9
      refine lv_if_eq (tgt := 51) hx hb dX8_isPrint_33 (by decide) (fun c9 => absurd c9 (by decide)) (fun _ => ?_)
      refine lv_iload_n hx hb dX8_isPrint_36 rfl (lv_at hl 2 rfl) ?_
      refine lv_iconst (v := 0) hx hb dX8_isPrint_37 (by decide) ?_
      refine lv_iload_n hx hb dX8_isPrint_38 rfl (lv_at hl 0 rfl) ?_
      refine lv_iconst (v := 1) hx hb dX8_isPrint_39 (by decide) ?_
      refine lv_isub hx hb dX8_isPrint_40 ?_
      refine k_nrm (y := (pw10 i - 1)) (rfl) ?_
      have ct := k_cut_of (wc := []) (wr := []) (tc := []) hG hS hA hK hP hD [] [] [] rfl rfl (by decide) (by decide) (by decide) rfl
      refine k_endi (As := [.int d, .int 0, .int (pw10 i - 1)]) ct (k_runS (As := [.int d, .int 0, .int (pw10 i - 1)]) (rest := []) S0 Ls_X8_46 ct (c_M_in l D d 0 (pw10 i - 1) H.size) hl.1 rfl (Nat.le_of_ble_eq_true rfl) rfl dX8_isPrint_41 ⟨⟨Nat.le_of_ble_eq_true rfl, Nat.le_of_ble_eq_true rfl⟩, Nat.le_of_ble_eq_true rfl, Nat.le_of_ble_eq_true rfl⟩) rfl rfl (fun r_7 _ H locs hw_8 hP hD hK hS => ?_)
      have hK : va_K D vwCl [] s := hK
      have hP : va_P D vwCl [] H := hP
      have hD : va_D A [] := hD
      rcases hw_8 with ⟨hr9, c_9, c_10⟩ | ⟨hr9, c_11⟩
      · subst hr9
        refine lv_if_eq (tgt := 51) hx hb dX8_isPrint_44 (by decide) (fun c9 => absurd c9 (by decide)) (fun _ => ?_)
        refine lv_iconst (v := 1) hx hb dX8_isPrint_47 (by decide) ?_
        refine lv_goto (tgt := 52) hx hb dX8_isPrint_48 (by decide) ?_
        have hP9 : va_P D vwCl [] H := hP.sub [] rfl
        have hD9 : va_D A [] := hD.sub [] (by decide) rfl
        have hK9 : va_K D vwCl [] s := hK.sub [] rfl
        exact W.zret (v := 1) hx hb hr (rfl) (fun t ht9 hW9 => ⟨⟨1, (), rfl, by (obtain ⟨j, hj1, hj8, hz⟩ := cnt_of c_4 (fa_of_nlt c_5); obtain rfl := isp1 hi hlt (Or.inl c_1) j hj8 hz; exact absurd ⟨c_4, fa_of_nlt c_5, c_9, by rw [hz, nI_clamp (by omega)]; exact pw_y hj8 c_10⟩ hok), ⟨by rw [ht9]; exact hP9, va_K.moved hW9.alike hK9, hD9⟩⟩, hS.F ht9⟩) hS.2.2 dX8_isPrint_52
      · subst hr9
        refine lv_if_eq (tgt := 51) hx hb dX8_isPrint_44 (by decide) (fun _ => ?_) (fun c9 => absurd (by decide) c9)
        refine lv_iconst (v := 0) hx hb dX8_isPrint_51 (by decide) ?_
        have hP9 : va_P D vwCl [] H := hP.sub [] rfl
        have hD9 : va_D A [] := hD.sub [] (by decide) rfl
        have hK9 : va_K D vwCl [] s := hK.sub [] rfl
        exact W.zret (v := 0) hx hb hr (rfl) (fun t ht9 hW9 => ⟨⟨0, (), rfl, by rfl, ⟨by rw [ht9]; exact hP9, va_K.moved hW9.alike hK9, hD9⟩⟩, hS.F ht9⟩) hS.2.2 dX8_isPrint_52
    · subst hr9
      refine lv_if_eq (tgt := 51) hx hb dX8_isPrint_33 (by decide) (fun _ => ?_) (fun c9 => absurd (by decide) c9)
      refine lv_iconst (v := 0) hx hb dX8_isPrint_51 (by decide) ?_
      have hP9 : va_P D vwCl [] H := hP.sub [] rfl
      have hD9 : va_D A [] := hD.sub [] (by decide) rfl
      have hK9 : va_K D vwCl [] s := hK.sub [] rfl
      exact W.zret (v := 0) hx hb hr (rfl) (fun t ht9 hW9 => ⟨⟨0, (), rfl, by rfl, ⟨by rw [ht9]; exact hP9, va_K.moved hW9.alike hK9, hD9⟩⟩, hS.F ht9⟩) hS.2.2 dX8_isPrint_52
  · have hc9 := c_1
    refine lv_iload_n hx hb dX8_isPrint_9 rfl (lv_at hl 1 rfl) ?_
    refine lv_bipush (v := 8) hx hb dX8_isPrint_10 (by decide) ?_
    refine lv_icmp_ge (tgt := 26) hx hb dX8_isPrint_12 (by decide) (fun c_12 => ?_) (fun c_12 => ?_)
    · have hc9 := c_12
      refine lv_iload_n hx hb dX8_isPrint_26 rfl (lv_at hl 3 rfl) ?_
      refine lv_iconst (v := 1) hx hb dX8_isPrint_27 (by decide) ?_
      refine lv_bipush (v := 8) hx hb dX8_isPrint_28 (by decide) ?_
      have ct := k_cut_of (wc := []) (wr := []) (tc := []) hG hS hA hK hP hD [] [] [] rfl rfl (by decide) (by decide) (by decide) rfl
      refine k_endi (As := [.int z, .int 1, .int 8]) ct (k_runS (As := [.int z, .int 1, .int 8]) (rest := []) S0 Ls_X8_46 ct (c_M_in l D z 1 8 H.size) hl.1 rfl (Nat.le_of_ble_eq_true rfl) rfl dX8_isPrint_30 ⟨⟨Nat.le_of_ble_eq_true rfl, Nat.le_of_ble_eq_true rfl⟩, Nat.le_of_ble_eq_true rfl, Nat.le_of_ble_eq_true rfl⟩) rfl rfl (fun r_13 _ H locs hw_14 hP hD hK hS => ?_)
      have hK : va_K D vwCl [] s := hK
      have hP : va_P D vwCl [] H := hP
      have hD : va_D A [] := hD
      rcases hw_14 with ⟨hr9, c_15, c_16⟩ | ⟨hr9, c_17⟩
      · subst hr9
        refine lv_if_eq (tgt := 51) hx hb dX8_isPrint_33 (by decide) (fun c9 => absurd c9 (by decide)) (fun _ => ?_)
        refine lv_iload_n hx hb dX8_isPrint_36 rfl (lv_at hl 2 rfl) ?_
        refine lv_iconst (v := 0) hx hb dX8_isPrint_37 (by decide) ?_
        refine lv_iload_n hx hb dX8_isPrint_38 rfl (lv_at hl 0 rfl) ?_
        refine lv_iconst (v := 1) hx hb dX8_isPrint_39 (by decide) ?_
        refine lv_isub hx hb dX8_isPrint_40 ?_
        refine k_nrm (y := (pw10 i - 1)) (rfl) ?_
        have ct := k_cut_of (wc := []) (wr := []) (tc := []) hG hS hA hK hP hD [] [] [] rfl rfl (by decide) (by decide) (by decide) rfl
        refine k_endi (As := [.int d, .int 0, .int (pw10 i - 1)]) ct (k_runS (As := [.int d, .int 0, .int (pw10 i - 1)]) (rest := []) S0 Ls_X8_46 ct (c_M_in l D d 0 (pw10 i - 1) H.size) hl.1 rfl (Nat.le_of_ble_eq_true rfl) rfl dX8_isPrint_41 ⟨⟨Nat.le_of_ble_eq_true rfl, Nat.le_of_ble_eq_true rfl⟩, Nat.le_of_ble_eq_true rfl, Nat.le_of_ble_eq_true rfl⟩) rfl rfl (fun r_18 _ H locs hw_19 hP hD hK hS => ?_)
        have hK : va_K D vwCl [] s := hK
        have hP : va_P D vwCl [] H := hP
        have hD : va_D A [] := hD
        rcases hw_19 with ⟨hr9, c_20, c_21⟩ | ⟨hr9, c_22⟩
        · subst hr9
          refine lv_if_eq (tgt := 51) hx hb dX8_isPrint_44 (by decide) (fun c9 => absurd c9 (by decide)) (fun _ => ?_)
          refine lv_iconst (v := 1) hx hb dX8_isPrint_47 (by decide) ?_
          refine lv_goto (tgt := 52) hx hb dX8_isPrint_48 (by decide) ?_
          have hP9 : va_P D vwCl [] H := hP.sub [] rfl
          have hD9 : va_D A [] := hD.sub [] (by decide) rfl
          have hK9 : va_K D vwCl [] s := hK.sub [] rfl
          exact W.zret (v := 1) hx hb hr (rfl) (fun t ht9 hW9 => ⟨⟨1, (), rfl, by (obtain ⟨j, hj1, hj8, hz⟩ := cnt_of c_15 (fa_of_nlt c_16); obtain rfl := isp1 hi hlt (Or.inr c_12) j hj8 hz; exact absurd ⟨c_15, fa_of_nlt c_16, c_20, by rw [hz, nI_clamp (by omega)]; exact pw_y hj8 c_21⟩ hok), ⟨by rw [ht9]; exact hP9, va_K.moved hW9.alike hK9, hD9⟩⟩, hS.F ht9⟩) hS.2.2 dX8_isPrint_52
        · subst hr9
          refine lv_if_eq (tgt := 51) hx hb dX8_isPrint_44 (by decide) (fun _ => ?_) (fun c9 => absurd (by decide) c9)
          refine lv_iconst (v := 0) hx hb dX8_isPrint_51 (by decide) ?_
          have hP9 : va_P D vwCl [] H := hP.sub [] rfl
          have hD9 : va_D A [] := hD.sub [] (by decide) rfl
          have hK9 : va_K D vwCl [] s := hK.sub [] rfl
          exact W.zret (v := 0) hx hb hr (rfl) (fun t ht9 hW9 => ⟨⟨0, (), rfl, by rfl, ⟨by rw [ht9]; exact hP9, va_K.moved hW9.alike hK9, hD9⟩⟩, hS.F ht9⟩) hS.2.2 dX8_isPrint_52
      · subst hr9
        refine lv_if_eq (tgt := 51) hx hb dX8_isPrint_33 (by decide) (fun _ => ?_) (fun c9 => absurd (by decide) c9)
        refine lv_iconst (v := 0) hx hb dX8_isPrint_51 (by decide) ?_
        have hP9 : va_P D vwCl [] H := hP.sub [] rfl
        have hD9 : va_D A [] := hD.sub [] (by decide) rfl
        have hK9 : va_K D vwCl [] s := hK.sub [] rfl
        exact W.zret (v := 0) hx hb hr (rfl) (fun t ht9 hW9 => ⟨⟨0, (), rfl, by rfl, ⟨by rw [ht9]; exact hP9, va_K.moved hW9.alike hK9, hD9⟩⟩, hS.F ht9⟩) hS.2.2 dX8_isPrint_52
    · have hc9 := c_12
      have hik : i + 1 ≤ 8 := by rcases Nat.lt_or_ge i 8 with q9 | q9; exact q9; exact absurd (nI_le (a := 8) q9 (by omega)) c_12
      refine lv_iload_n hx hb dX8_isPrint_15 rfl (lv_at hl 0 rfl) ?_
      refine lv_bipush (v := 10) hx hb dX8_isPrint_16 (by decide) ?_
      refine lv_imul hx hb dX8_isPrint_18 ?_
      refine k_nrm (y := (pw10 (i + 1))) (rfl) ?_
      refine lv_istore_n (lv' := [(2, .int (pw10 (i + 1))), (3, .int (nI i)), (0, .int d), (1, .int z)]) hx hb dX8_isPrint_19 rfl hl (by decide) rfl (fun ls hl => ?_)
      obtain ⟨x_23, ex_23⟩ : ∃ z : Int32, z = (nI i) + 1 := ⟨_, rfl⟩
      refine lv_iinc (v := x_23) (lv' := [(3, .int x_23), (2, .int (pw10 (i + 1))), (0, .int d), (1, .int z)]) hx hb dX8_isPrint_20 hl (k := 1) rfl (by rw [ex_23]; rfl) (by decide) rfl (fun ls hl => ?_)
      refine lv_goto (tgt := 4) hx hb dX8_isPrint_23 (by decide) ?_
      have he9 : x_23 = (nI (i + 1)) := by rw [ex_23]; exact nI_1 i
      rw [he9] at hl
      have hl : lv_has ls 4 [(3, .int (nI (i + 1))), (2, .int (pw10 (i + 1))), (0, .int d), (1, .int z)] := hl
      exact ih9 (i + 1) H locs ls (by omega) ⟨hik, (lt_s hlt c_1), hP.sub [] rfl, hD.sub [] (by decide) rfl, hS, lv_sub hl [1, 0, 2, 3] rfl⟩
set_option maxHeartbeats 4000000 in
set_option maxRecDepth 100000 in
theorem c_M_prints (l : Launch) (D : va_G) (mo : Nat) (ms : Nat) (sv : Int32) (mb : Nat) (ty : Int32) (th : Int32) (mk : Nat) (ml : Int32) (mfd : Nat) (mf : Int32) (sp : Int32) (on : Int32) (tw : Int32) (K : ClassId) (sf : Nat → Int32) (d : Int32) (j : Nat) (hj1 : 1 ≤ j) (hj8 : j ≤ 8) (sz : Nat) : k_Mi (S := Unit) l D yX8_prints cX8_prints 5 (some .int) 1 0 0 24 [.ref mo, .int d, .int (nI j)] [(mo, .inr (8, [.ref ms, .int sv, .ref mb, .int ty, .int th, .ref mk, .int ml, .ref mfd, .int mf, .int sp, .int on, .int tw])), (ms, .inl (K, 889, .inl sf))] [(K, .int)] (fun (r : Int32) (_ : Unit) => r = (chkd (cS d j))) (fun _ => [(mo, .inr (8, [.ref ms, .int sv, .ref mb, .int ty, .int th, .ref mk, .int ml, .ref mfd, .int mf, .int sp, .int on, .int tw])), (ms, .inl (K, 889, .inl (zrM (upd (upd (dgs d 1 j sf j) (1 + j) (chkd (cS d j))) 0 (nI (j + 1))) 41)))]) (fun _ => []) sz := by
  refine Met.ofW (cc := cX8_prints) (maxL := 5) (ret := (some .int)) (by decide) rfl ?_
  intro p e s m args below meth c s₁ B hml hv
  obtain ⟨rfl, hsz, hP, hK, hD0, hG⟩ := hv
  have hx := B.exec
  have hb := B.bytes
  have hr := B.returns
  have ht : ∀ v9 ∈ wsA, v9.before ([.ref mo, .int d, .int (nI j)] : List Value).toArray s = true := fun v9 h9 => atoms_spec (ws := k_ws yX8_prints cX8_prints 5 (some .int)) B.pre v9 (List.mem_cons_of_mem _ h9)
  have hown : s.vm.findClass RX8 = some m.cls := findClass_of_methodNamed B.named
  have S0 : k_C p s m ([.ref mo, .int d, .int (nI j)] : List Value).toArray c cX8_prints 5 RX8 := ⟨hx, hb, hml, hown, ht⟩
  have hlocks := B.notSynchronized
  subst hsz
  have hD := hD0.self (sz := s.heap.size)
  generalize hAe : va_A [(mo, .inr (8, [.ref ms, .int sv, .ref mb, .int ty, .int th, .ref mk, .int ml, .ref mfd, .int mf, .int sp, .int on, .int tw])), (ms, .inl (K, 889, .inl sf))] s.heap.size = A at hD hG ⊢
  have hA : ∀ q : Nat, s.heap.size ≤ q → A q := fun q h => by rw [← hAe]; exact Or.inr h
  have hS : va_S A s.heap s.heap [] := va_S.rf
  have hl := lv_entry ([.ref mo, .int d, .int (nI j)]) (n := 5) (Nat.le_of_ble_eq_true rfl)
  rw [lg_entry_eq]
  generalize (lg_sl ([.ref mo, .int d, .int (nI j)]) ++ List.replicate (5 - (lg_sl ([.ref mo, .int d, .int (nI j)])).length) Slot.unset).toArray = ls at hl ⊢
  have hl : lv_has ls 5 [(0, .ref mo), (1, .int d), (2, .int (nI j))] := hl
  have hP : va_P D vwCl [(mo, .inr (8, [.ref ms, .int sv, .ref mb, .int ty, .int th, .ref mk, .int ml, .ref mfd, .int mf, .int sp, .int on, .int tw])), (ms, .inl (K, 889, .inl sf))] s.heap := hP
  refine lv_iload_n hx hb dX8_prints_0 rfl (lv_at hl 1 rfl) ?_
  refine lv_istore_n (lv' := [(3, .int d), (0, .ref mo), (1, .int d), (2, .int (nI j))]) hx hb dX8_prints_1 rfl hl (by decide) rfl (fun ls hl => ?_)
  refine lv_iload_n hx hb dX8_prints_2 rfl (lv_at hl 3 rfl) ?_
  refine lv_iconst (v := 1) hx hb dX8_prints_3 (by decide) ?_
  refine lv_isub hx hb dX8_prints_4 ?_
  refine k_nrm (y := (kd j 0)) (rfl) ?_
  refine lv_istore (lv' := [(4, .int (kd j 0)), (3, .int d), (0, .ref mo), (1, .int d), (2, .int (nI j))]) hx hb dX8_prints_5 hl (by decide) rfl (fun ls hl => ?_)
  have hl : lv_has ls 5 [(4, .int (kd j 0)), (3, .int (rs d 0)), (0, .ref mo), (1, .int d), (2, .int (nI j))] := hl
  have hf_1 : (sf : Nat → Int32) = (dgs d 1 j sf 0) := (dgs_0 d 1 j sf).symm
  have hP : va_P D vwCl [(mo, .inr (8, [.ref ms, .int sv, .ref mb, .int ty, .int th, .ref mk, .int ml, .ref mfd, .int mf, .int sp, .int on, .int tw])), (ms, .inl (K, 889, .inl (dgs d 1 j sf 0)))] s.heap := (congrArg (fun z9 : Nat → Int32 => va_P D vwCl [(mo, .inr (8, [.ref ms, .int sv, .ref mb, .int ty, .int th, .ref mk, .int ml, .ref mfd, .int mf, .int sp, .int on, .int tw])), (ms, .inl (K, 889, .inl z9))] s.heap) hf_1).mp hP
  have hD : va_D A [(mo, .inr (8, [.ref ms, .int sv, .ref mb, .int ty, .int th, .ref mk, .int ml, .ref mfd, .int mf, .int sp, .int on, .int tw])), (ms, .inl (K, 889, .inl (dgs d 1 j sf 0)))] := (congrArg (fun z9 : Nat → Int32 => va_D A [(mo, .inr (8, [.ref ms, .int sv, .ref mb, .int ty, .int th, .ref mk, .int ml, .ref mfd, .int mf, .int sp, .int on, .int tw])), (ms, .inl (K, 889, .inl z9))]) hf_1).mp hD
  refine k_loop (ι := Nat) (fun (i : Nat) H9 locs9 ls9 => (i ≤ j) ∧ va_P D vwCl [(mo, .inr (8, [.ref ms, .int sv, .ref mb, .int ty, .int th, .ref mk, .int ml, .ref mfd, .int mf, .int sp, .int on, .int tw])), (ms, .inl (K, 889, .inl (dgs d 1 j sf i)))] H9 ∧ va_D A [(mo, .inr (8, [.ref ms, .int sv, .ref mb, .int ty, .int th, .ref mk, .int ml, .ref mfd, .int mf, .int sp, .int on, .int tw])), (ms, .inl (K, 889, .inl (dgs d 1 j sf i)))] ∧ va_S A s.heap H9 locs9 ∧ lv_has ls9 5 [(3, .int (rs d i)), (4, .int (kd j i)), (0, .ref mo), (1, .int d), (2, .int (nI j))]) (fun (i : Nat) => j - i) ?_ (0) ⟨(Nat.zero_le _), hP.sub [0, 1] rfl, hD.sub [0, 1] (by decide) rfl, hS, lv_sub hl [1, 0, 2, 3, 4] rfl⟩
  intro x9 H locs ls hF9 ih9
  obtain ⟨i, hv9⟩ : ∃ z, z = x9 := ⟨_, rfl⟩
  subst hv9
  obtain ⟨hi, hP, hD, hS, hl⟩ := hF9
  try dsimp only at ih9
  have hP : va_P D vwCl [(mo, .inr (8, [.ref ms, .int sv, .ref mb, .int ty, .int th, .ref mk, .int ml, .ref mfd, .int mf, .int sp, .int on, .int tw])), (ms, .inl (K, 889, .inl (dgs d 1 j sf i)))] H := hP
  have hD : va_D A [(mo, .inr (8, [.ref ms, .int sv, .ref mb, .int ty, .int th, .ref mk, .int ml, .ref mfd, .int mf, .int sp, .int on, .int tw])), (ms, .inl (K, 889, .inl (dgs d 1 j sf i)))] := hD
  have hl : lv_has ls 5 [(3, .int (rs d i)), (4, .int (kd j i)), (0, .ref mo), (1, .int d), (2, .int (nI j))] := hl
  refine lv_iload hx hb dX8_prints_7 (lv_at hl 1 rfl) ?_
  refine lv_if_lt (tgt := 36) hx hb dX8_prints_9 (by decide) (fun c_2 => ?_) (fun c_2 => ?_)
  · have hc9 := c_2
    obtain rfl : j = i := by rcases Nat.lt_or_ge i j with q9 | q9; exact absurd c_2 (kd_pos q9 (by omega)); omega
    refine lv_aload_n hx hb dX8_prints_36 rfl (lv_at hl 2 rfl) ?_
    refine va_get (D := D) (ci := 8) (v := .ref ms) (C := RX8) (T := TX8) (N := 12) hx hb ht inA_X8 hown hK hP 0 rfl rfl 0 (by decide) (ht _ lf_X8_7) (fun _ h9 => h9) rfl dX8_prints_37 ?_
    refine lv_iconst (v := 1) hx hb dX8_prints_40 (by decide) ?_
    refine lv_iload_n hx hb dX8_prints_41 rfl (lv_at hl 4 rfl) ?_
    refine lv_iadd hx hb dX8_prints_42 ?_
    refine k_nrm (y := (nI (1 + j))) (nI_add 1 j) ?_
    refine lv_aload_n hx hb dX8_prints_43 rfl (lv_at hl 2 rfl) ?_
    refine va_get (D := D) (ci := 8) (v := .ref ms) (C := RX8) (T := TX8) (N := 12) hx hb ht inA_X8 hown hK hP 0 rfl rfl 0 (by decide) (ht _ lf_X8_7) (fun _ h9 => h9) rfl dX8_prints_44 ?_
    refine lv_iconst (v := 1) hx hb dX8_prints_47 (by decide) ?_
    refine lv_iload_n hx hb dX8_prints_48 rfl (lv_at hl 4 rfl) ?_
    have ct := k_cut_of (wc := [(ms, .inl (K, 889, .inl (dgs d 1 j sf j)))]) (wr := [(mo, .inr (8, [.ref ms, .int sv, .ref mb, .int ty, .int th, .ref mk, .int ml, .ref mfd, .int mf, .int sp, .int on, .int tw]))]) (tc := [(K, .int)]) hG hS hA hK hP hD [1] [0] [0] rfl rfl (by decide) (by decide) (by decide) rfl
    refine k_endi (As := [.ref ms, .int 1, .int (nI j)]) ct (k_runS (As := [.ref ms, .int 1, .int (nI j)]) (rest := [.int (nI (1 + j)), .ref ms]) S0 Ls_X8_50 ct (c_M_checkS l D ms K (dgs d 1 j sf j) j (by first | assumption | omega) H.size) hl.1 rfl (Nat.le_of_ble_eq_true rfl) rfl dX8_prints_49 ⟨⟨Nat.le_of_ble_eq_true rfl, Nat.le_of_ble_eq_true rfl⟩, Nat.le_of_ble_eq_true rfl, Nat.le_of_ble_eq_true rfl⟩) rfl rfl (fun r_3 _ H locs hw_4 hP hD hK hS => ?_)
    have hK : va_K D vwCl [(K, .int)] s := hK
    have hP : va_P D vwCl [(mo, .inr (8, [.ref ms, .int sv, .ref mb, .int ty, .int th, .ref mk, .int ml, .ref mfd, .int mf, .int sp, .int on, .int tw])), (ms, .inl (K, 889, .inl (dgs d 1 j sf j)))] H := hP
    have hD : va_D A [(mo, .inr (8, [.ref ms, .int sv, .ref mb, .int ty, .int th, .ref mk, .int ml, .ref mfd, .int mf, .int sp, .int on, .int tw])), (ms, .inl (K, 889, .inl (dgs d 1 j sf j)))] := hD
    have hw_4 : r_3 = (chkd (csum (fun q9 => (dgs d 1 j sf j) (1 + q9)) j j)) := hw_4
    have hw_4 := hw_4.symm
    subst hw_4
    refine k_nrm (y := (chkd (csum (fun q9 => (dgs d 1 j sf j) (1 + q9)) j j))) rfl ?_
    refine k_nrm (y := (chkd (cS d j))) (by rw [tS_all (d := d) (fun x9 h9 => dgs_at (o := 1) h9)]) ?_
    refine va_iast hx hb hK hP hD hS 1 0 rfl rfl (vp_in_nI (by omega) (by decide)) dX8_prints_52 (fun H locs hP hD hS => ?_)
    have hP : va_P D vwCl [(mo, .inr (8, [.ref ms, .int sv, .ref mb, .int ty, .int th, .ref mk, .int ml, .ref mfd, .int mf, .int sp, .int on, .int tw])), (ms, .inl (K, 889, .inl (upd (dgs d 1 j sf j) ((nI (1 + j)).toNatClampNeg) (chkd (cS d j)))))] H := hP
    have hD : va_D A [(mo, .inr (8, [.ref ms, .int sv, .ref mb, .int ty, .int th, .ref mk, .int ml, .ref mfd, .int mf, .int sp, .int on, .int tw])), (ms, .inl (K, 889, .inl (upd (dgs d 1 j sf j) ((nI (1 + j)).toNatClampNeg) (chkd (cS d j)))))] := hD
    have hf9 : upd (dgs d 1 j sf j) ((nI (1 + j)).toNatClampNeg) (chkd (cS d j)) = (upd (dgs d 1 j sf j) (1 + j) (chkd (cS d j))) := by rw [nI_clamp (by omega)]
    rw [hf9] at hP hD
    have hP : va_P D vwCl [(mo, .inr (8, [.ref ms, .int sv, .ref mb, .int ty, .int th, .ref mk, .int ml, .ref mfd, .int mf, .int sp, .int on, .int tw])), (ms, .inl (K, 889, .inl (upd (dgs d 1 j sf j) (1 + j) (chkd (cS d j)))))] H := hP
    have hD : va_D A [(mo, .inr (8, [.ref ms, .int sv, .ref mb, .int ty, .int th, .ref mk, .int ml, .ref mfd, .int mf, .int sp, .int on, .int tw])), (ms, .inl (K, 889, .inl (upd (dgs d 1 j sf j) (1 + j) (chkd (cS d j)))))] := hD
    refine lv_aload_n hx hb dX8_prints_53 rfl (lv_at hl 2 rfl) ?_
    refine va_get (D := D) (ci := 8) (v := .ref ms) (C := RX8) (T := TX8) (N := 12) hx hb ht inA_X8 hown hK hP 0 rfl rfl 0 (by decide) (ht _ lf_X8_7) (fun _ h9 => h9) rfl dX8_prints_54 ?_
    refine lv_iconst (v := 0) hx hb dX8_prints_57 (by decide) ?_
    refine lv_iload_n hx hb dX8_prints_58 rfl (lv_at hl 4 rfl) ?_
    refine lv_iconst (v := 1) hx hb dX8_prints_59 (by decide) ?_
    refine lv_iadd hx hb dX8_prints_60 ?_
    refine k_nrm (y := (nI (j + 1))) (nI_1 j) ?_
    refine va_iast hx hb hK hP hD hS 1 0 rfl rfl (by unfold vp_in; decide) dX8_prints_61 (fun H locs hP hD hS => ?_)
    have hP : va_P D vwCl [(mo, .inr (8, [.ref ms, .int sv, .ref mb, .int ty, .int th, .ref mk, .int ml, .ref mfd, .int mf, .int sp, .int on, .int tw])), (ms, .inl (K, 889, .inl (upd (upd (dgs d 1 j sf j) (1 + j) (chkd (cS d j))) ((0 : Int32).toNatClampNeg) (nI (j + 1)))))] H := hP
    have hD : va_D A [(mo, .inr (8, [.ref ms, .int sv, .ref mb, .int ty, .int th, .ref mk, .int ml, .ref mfd, .int mf, .int sp, .int on, .int tw])), (ms, .inl (K, 889, .inl (upd (upd (dgs d 1 j sf j) (1 + j) (chkd (cS d j))) ((0 : Int32).toNatClampNeg) (nI (j + 1)))))] := hD
    have hf9 : upd (upd (dgs d 1 j sf j) (1 + j) (chkd (cS d j))) ((0 : Int32).toNatClampNeg) (nI (j + 1)) = (upd (upd (dgs d 1 j sf j) (1 + j) (chkd (cS d j))) 0 (nI (j + 1))) := rfl
    rw [hf9] at hP hD
    have hP : va_P D vwCl [(mo, .inr (8, [.ref ms, .int sv, .ref mb, .int ty, .int th, .ref mk, .int ml, .ref mfd, .int mf, .int sp, .int on, .int tw])), (ms, .inl (K, 889, .inl (upd (upd (dgs d 1 j sf j) (1 + j) (chkd (cS d j))) 0 (nI (j + 1)))))] H := hP
    have hD : va_D A [(mo, .inr (8, [.ref ms, .int sv, .ref mb, .int ty, .int th, .ref mk, .int ml, .ref mfd, .int mf, .int sp, .int on, .int tw])), (ms, .inl (K, 889, .inl (upd (upd (dgs d 1 j sf j) (1 + j) (chkd (cS d j))) 0 (nI (j + 1)))))] := hD
    refine lv_iconst (v := 0) hx hb dX8_prints_62 (by decide) ?_
    refine lv_istore (lv' := [(4, .int 0), (3, .int (rs d j)), (0, .ref mo), (1, .int d), (2, .int (nI j))]) hx hb dX8_prints_63 hl (by decide) rfl (fun ls hl => ?_)
    have hl : lv_has ls 5 [(4, .int (nI 0)), (3, .int (rs d j)), (0, .ref mo), (1, .int d), (2, .int (nI j))] := hl
    have hf_5 : ((upd (upd (dgs d 1 j sf j) (1 + j) (chkd (cS d j))) 0 (nI (j + 1))) : Nat → Int32) = (zrM (upd (upd (dgs d 1 j sf j) (1 + j) (chkd (cS d j))) 0 (nI (j + 1))) 0) := (zr_0 _).symm
    have hP : va_P D vwCl [(mo, .inr (8, [.ref ms, .int sv, .ref mb, .int ty, .int th, .ref mk, .int ml, .ref mfd, .int mf, .int sp, .int on, .int tw])), (ms, .inl (K, 889, .inl (zrM (upd (upd (dgs d 1 j sf j) (1 + j) (chkd (cS d j))) 0 (nI (j + 1))) 0)))] H := (congrArg (fun z9 : Nat → Int32 => va_P D vwCl [(mo, .inr (8, [.ref ms, .int sv, .ref mb, .int ty, .int th, .ref mk, .int ml, .ref mfd, .int mf, .int sp, .int on, .int tw])), (ms, .inl (K, 889, .inl z9))] H) hf_5).mp hP
    have hD : va_D A [(mo, .inr (8, [.ref ms, .int sv, .ref mb, .int ty, .int th, .ref mk, .int ml, .ref mfd, .int mf, .int sp, .int on, .int tw])), (ms, .inl (K, 889, .inl (zrM (upd (upd (dgs d 1 j sf j) (1 + j) (chkd (cS d j))) 0 (nI (j + 1))) 0)))] := (congrArg (fun z9 : Nat → Int32 => va_D A [(mo, .inr (8, [.ref ms, .int sv, .ref mb, .int ty, .int th, .ref mk, .int ml, .ref mfd, .int mf, .int sp, .int on, .int tw])), (ms, .inl (K, 889, .inl z9))]) hf_5).mp hD
    refine k_loop (ι := Nat) (fun (k : Nat) H9 locs9 ls9 => (k ≤ 41) ∧ va_P D vwCl [(mo, .inr (8, [.ref ms, .int sv, .ref mb, .int ty, .int th, .ref mk, .int ml, .ref mfd, .int mf, .int sp, .int on, .int tw])), (ms, .inl (K, 889, .inl (zrM (upd (upd (dgs d 1 j sf j) (1 + j) (chkd (cS d j))) 0 (nI (j + 1))) k)))] H9 ∧ va_D A [(mo, .inr (8, [.ref ms, .int sv, .ref mb, .int ty, .int th, .ref mk, .int ml, .ref mfd, .int mf, .int sp, .int on, .int tw])), (ms, .inl (K, 889, .inl (zrM (upd (upd (dgs d 1 j sf j) (1 + j) (chkd (cS d j))) 0 (nI (j + 1))) k)))] ∧ va_S A s.heap H9 locs9 ∧ lv_has ls9 5 [(4, .int (nI k)), (0, .ref mo), (1, .int d), (2, .int (nI j))]) (fun (k : Nat) => 41 - k) ?_ (0) ⟨(Nat.zero_le _), hP.sub [0, 1] rfl, hD.sub [0, 1] (by decide) rfl, hS, lv_sub hl [0, 2, 3, 4] rfl⟩
    intro x9 H locs ls hF9 ih9
    obtain ⟨k, hv9⟩ : ∃ z, z = x9 := ⟨_, rfl⟩
    subst hv9
    obtain ⟨hk, hP, hD, hS, hl⟩ := hF9
    try dsimp only at ih9
    have hP : va_P D vwCl [(mo, .inr (8, [.ref ms, .int sv, .ref mb, .int ty, .int th, .ref mk, .int ml, .ref mfd, .int mf, .int sp, .int on, .int tw])), (ms, .inl (K, 889, .inl (zrM (upd (upd (dgs d 1 j sf j) (1 + j) (chkd (cS d j))) 0 (nI (j + 1))) k)))] H := hP
    have hD : va_D A [(mo, .inr (8, [.ref ms, .int sv, .ref mb, .int ty, .int th, .ref mk, .int ml, .ref mfd, .int mf, .int sp, .int on, .int tw])), (ms, .inl (K, 889, .inl (zrM (upd (upd (dgs d 1 j sf j) (1 + j) (chkd (cS d j))) 0 (nI (j + 1))) k)))] := hD
    have hl : lv_has ls 5 [(4, .int (nI k)), (0, .ref mo), (1, .int d), (2, .int (nI j))] := hl
    refine lv_iload hx hb dX8_prints_65 (lv_at hl 0 rfl) ?_
    refine lv_bipush (v := 41) hx hb dX8_prints_67 (by decide) ?_
    refine lv_icmp_ge (tgt := 89) hx hb dX8_prints_69 (by decide) (fun c_6 => ?_) (fun c_6 => ?_)
    · have hc9 := c_6
      obtain rfl : 41 = k := by rcases Nat.lt_or_ge k 41 with q9 | q9; exact absurd c_6 (nI_ge (b := 41) q9 (by omega)); omega
      refine lv_aload_n hx hb dX8_prints_89 rfl (lv_at hl 1 rfl) ?_
      refine va_get (D := D) (ci := 8) (v := .ref ms) (C := RX8) (T := TX8) (N := 12) hx hb ht inA_X8 hown hK hP 0 rfl rfl 0 (by decide) (ht _ lf_X8_7) (fun _ h9 => h9) rfl dX8_prints_90 ?_
      refine lv_iconst (v := 1) hx hb dX8_prints_93 (by decide) ?_
      refine lv_iload_n hx hb dX8_prints_94 rfl (lv_at hl 3 rfl) ?_
      refine lv_iadd hx hb dX8_prints_95 ?_
      refine k_nrm (y := (nI (1 + j))) (nI_add 1 j) ?_
      refine va_iald hx hb hK hP 1 0 rfl rfl (vp_in_nI (by omega) (by decide)) dX8_prints_96 ?_
      refine k_nrm (y := (chkd (cS d j))) (by rw [nI_clamp (by omega), zr_no (by omega), pk_un (by omega), pk_us]) ?_
      have hP9 : va_P D vwCl [(mo, .inr (8, [.ref ms, .int sv, .ref mb, .int ty, .int th, .ref mk, .int ml, .ref mfd, .int mf, .int sp, .int on, .int tw])), (ms, .inl (K, 889, .inl (zrM (upd (upd (dgs d 1 j sf j) (1 + j) (chkd (cS d j))) 0 (nI (j + 1))) 41)))] H := hP.sub [0, 1] rfl
      have hD9 : va_D A [(mo, .inr (8, [.ref ms, .int sv, .ref mb, .int ty, .int th, .ref mk, .int ml, .ref mfd, .int mf, .int sp, .int on, .int tw])), (ms, .inl (K, 889, .inl (zrM (upd (upd (dgs d 1 j sf j) (1 + j) (chkd (cS d j))) 0 (nI (j + 1))) 41)))] := hD.sub [0, 1] (by decide) rfl
      have hK9 : va_K D vwCl [] s := hK.sub [] rfl
      exact W.iret (v := (chkd (cS d j))) hx hb hr (fun t ht9 hW9 => ⟨⟨(chkd (cS d j)), (), rfl, by first | rfl | trivial | (simp only [hi, c_2, hk, c_6, if_true, if_false, reduceIte, and_self]; done) | simp_all, ⟨by rw [ht9]; exact hP9, va_K.moved hW9.alike hK9, hD9⟩⟩, hS.F ht9⟩) hS.2.2 dX8_prints_97
    · have hc9 := c_6
      have hkk : k + 1 ≤ 41 := by rcases Nat.lt_or_ge k 41 with q9 | q9; exact q9; exact absurd (nI_le (a := 41) q9 (by omega)) c_6
      refine lv_aload_n hx hb dX8_prints_72 rfl (lv_at hl 1 rfl) ?_
      refine va_get (D := D) (ci := 8) (v := .ref ms) (C := RX8) (T := TX8) (N := 12) hx hb ht inA_X8 hown hK hP 0 rfl rfl 0 (by decide) (ht _ lf_X8_7) (fun _ h9 => h9) rfl dX8_prints_73 ?_
      refine lv_bipush (v := 10) hx hb dX8_prints_76 (by decide) ?_
      refine lv_iload hx hb dX8_prints_78 (lv_at hl 0 rfl) ?_
      refine lv_iadd hx hb dX8_prints_80 ?_
      refine k_nrm (y := (nI (10 + k))) (nI_add 10 k) ?_
      refine lv_iconst (v := 0) hx hb dX8_prints_81 (by decide) ?_
      refine va_iast hx hb hK hP hD hS 1 0 rfl rfl (vp_in_nI (by omega) (by decide)) dX8_prints_82 (fun H locs hP hD hS => ?_)
      have hP : va_P D vwCl [(mo, .inr (8, [.ref ms, .int sv, .ref mb, .int ty, .int th, .ref mk, .int ml, .ref mfd, .int mf, .int sp, .int on, .int tw])), (ms, .inl (K, 889, .inl (upd (zrM (upd (upd (dgs d 1 j sf j) (1 + j) (chkd (cS d j))) 0 (nI (j + 1))) k) ((nI (10 + k)).toNatClampNeg) 0)))] H := hP
      have hD : va_D A [(mo, .inr (8, [.ref ms, .int sv, .ref mb, .int ty, .int th, .ref mk, .int ml, .ref mfd, .int mf, .int sp, .int on, .int tw])), (ms, .inl (K, 889, .inl (upd (zrM (upd (upd (dgs d 1 j sf j) (1 + j) (chkd (cS d j))) 0 (nI (j + 1))) k) ((nI (10 + k)).toNatClampNeg) 0)))] := hD
      have hf9 : upd (zrM (upd (upd (dgs d 1 j sf j) (1 + j) (chkd (cS d j))) 0 (nI (j + 1))) k) ((nI (10 + k)).toNatClampNeg) 0 = (zrM (upd (upd (dgs d 1 j sf j) (1 + j) (chkd (cS d j))) 0 (nI (j + 1))) (k + 1)) := by rw [nI_clamp (by omega)]; exact zr_s _ k
      rw [hf9] at hP hD
      have hP : va_P D vwCl [(mo, .inr (8, [.ref ms, .int sv, .ref mb, .int ty, .int th, .ref mk, .int ml, .ref mfd, .int mf, .int sp, .int on, .int tw])), (ms, .inl (K, 889, .inl (zrM (upd (upd (dgs d 1 j sf j) (1 + j) (chkd (cS d j))) 0 (nI (j + 1))) (k + 1))))] H := hP
      have hD : va_D A [(mo, .inr (8, [.ref ms, .int sv, .ref mb, .int ty, .int th, .ref mk, .int ml, .ref mfd, .int mf, .int sp, .int on, .int tw])), (ms, .inl (K, 889, .inl (zrM (upd (upd (dgs d 1 j sf j) (1 + j) (chkd (cS d j))) 0 (nI (j + 1))) (k + 1))))] := hD
      obtain ⟨x_7, ex_7⟩ : ∃ z : Int32, z = (nI k) + 1 := ⟨_, rfl⟩
      refine lv_iinc (v := x_7) (lv' := [(4, .int x_7), (0, .ref mo), (1, .int d), (2, .int (nI j))]) hx hb dX8_prints_83 hl (k := 0) rfl (by rw [ex_7]; rfl) (by decide) rfl (fun ls hl => ?_)
      refine lv_goto (tgt := 65) hx hb dX8_prints_86 (by decide) ?_
      have he9 : x_7 = (nI (k + 1)) := by rw [ex_7]; exact nI_1 k
      rw [he9] at hl
      have hl : lv_has ls 5 [(4, .int (nI (k + 1))), (0, .ref mo), (1, .int d), (2, .int (nI j))] := hl
      exact ih9 (k + 1) H locs ls (by omega) ⟨hkk, hP.sub [0, 1] rfl, hD.sub [0, 1] (by decide) rfl, hS, lv_sub hl [0, 1, 2, 3] rfl⟩
  · have hc9 := c_2
    have hik : i + 1 ≤ j := by rcases Nat.lt_or_ge i j with q9 | q9; exact q9; exact absurd (kd_neg q9 (by omega)) c_2
    refine lv_aload_n hx hb dX8_prints_12 rfl (lv_at hl 2 rfl) ?_
    refine va_get (D := D) (ci := 8) (v := .ref ms) (C := RX8) (T := TX8) (N := 12) hx hb ht inA_X8 hown hK hP 0 rfl rfl 0 (by decide) (ht _ lf_X8_7) (fun _ h9 => h9) rfl dX8_prints_13 ?_
    refine lv_iconst (v := 1) hx hb dX8_prints_16 (by decide) ?_
    refine lv_iload hx hb dX8_prints_17 (lv_at hl 1 rfl) ?_
    refine lv_iadd hx hb dX8_prints_19 ?_
    refine k_nrm (y := (nI (1 + (j - 1 - i)))) (by rw [kd_lt hik]; exact nI_add 1 _) ?_
    refine lv_iload_n hx hb dX8_prints_20 rfl (lv_at hl 0 rfl) ?_
    refine lv_bipush (v := 10) hx hb dX8_prints_21 (by decide) ?_
    refine lv_irem hx hb dX8_prints_23 (by decide) ?_
    refine k_nrm (y := (rem10 (rs d i))) (rfl) ?_
    refine va_iast hx hb hK hP hD hS 1 0 rfl rfl (vp_in_nI (by omega) (by decide)) dX8_prints_24 (fun H locs hP hD hS => ?_)
    have hP : va_P D vwCl [(mo, .inr (8, [.ref ms, .int sv, .ref mb, .int ty, .int th, .ref mk, .int ml, .ref mfd, .int mf, .int sp, .int on, .int tw])), (ms, .inl (K, 889, .inl (upd (dgs d 1 j sf i) ((nI (1 + (j - 1 - i))).toNatClampNeg) (rem10 (rs d i)))))] H := hP
    have hD : va_D A [(mo, .inr (8, [.ref ms, .int sv, .ref mb, .int ty, .int th, .ref mk, .int ml, .ref mfd, .int mf, .int sp, .int on, .int tw])), (ms, .inl (K, 889, .inl (upd (dgs d 1 j sf i) ((nI (1 + (j - 1 - i))).toNatClampNeg) (rem10 (rs d i)))))] := hD
    have hf9 : upd (dgs d 1 j sf i) ((nI (1 + (j - 1 - i))).toNatClampNeg) (rem10 (rs d i)) = (dgs d 1 j sf (i + 1)) := by rw [nI_clamp (by omega)]; exact dgs_s hik
    rw [hf9] at hP hD
    have hP : va_P D vwCl [(mo, .inr (8, [.ref ms, .int sv, .ref mb, .int ty, .int th, .ref mk, .int ml, .ref mfd, .int mf, .int sp, .int on, .int tw])), (ms, .inl (K, 889, .inl (dgs d 1 j sf (i + 1))))] H := hP
    have hD : va_D A [(mo, .inr (8, [.ref ms, .int sv, .ref mb, .int ty, .int th, .ref mk, .int ml, .ref mfd, .int mf, .int sp, .int on, .int tw])), (ms, .inl (K, 889, .inl (dgs d 1 j sf (i + 1))))] := hD
    refine lv_iload_n hx hb dX8_prints_25 rfl (lv_at hl 0 rfl) ?_
    refine lv_bipush (v := 10) hx hb dX8_prints_26 (by decide) ?_
    refine lv_idiv hx hb dX8_prints_28 (by decide) ?_
    refine k_nrm (y := (rs d (i + 1))) (rfl) ?_
    refine lv_istore_n (lv' := [(3, .int (rs d (i + 1))), (4, .int (kd j i)), (0, .ref mo), (1, .int d), (2, .int (nI j))]) hx hb dX8_prints_29 rfl hl (by decide) rfl (fun ls hl => ?_)
    obtain ⟨x_8, ex_8⟩ : ∃ z : Int32, z = (kd j i) + (-1) := ⟨_, rfl⟩
    refine lv_iinc (v := x_8) (lv' := [(4, .int x_8), (3, .int (rs d (i + 1))), (0, .ref mo), (1, .int d), (2, .int (nI j))]) hx hb dX8_prints_30 hl (k := 1) rfl (by rw [ex_8]; rfl) (by decide) rfl (fun ls hl => ?_)
    refine lv_goto (tgt := 7) hx hb dX8_prints_33 (by decide) ?_
    have he9 : x_8 = (kd j (i + 1)) := by rw [ex_8]; exact kd_s j i
    rw [he9] at hl
    have hl : lv_has ls 5 [(4, .int (kd j (i + 1))), (3, .int (rs d (i + 1))), (0, .ref mo), (1, .int d), (2, .int (nI j))] := hl
    exact ih9 (i + 1) H locs ls (by omega) ⟨hik, hP.sub [0, 1] rfl, hD.sub [0, 1] (by decide) rfl, hS, lv_sub hl [1, 0, 2, 3, 4] rfl⟩
set_option maxHeartbeats 4000000 in
set_option maxRecDepth 100000 in
theorem c_M_print (l : Launch) (D : va_G) (mo : Nat) (ms : Nat) (kp : Nat) (mb : Nat) (ty : Int32) (th : Int32) (mk : Nat) (ml : Int32) (mfd : Nat) (mf : Int32) (sp : Int32) (on : Int32) (tw : Int32) (K : ClassId) (sf : Nat → Int32) (x : ST) (d : Int32) (j : Nat) (hR : RS x sf) (hbx : bST x) (hkp : kp ≤ 6) (hj1 : 1 ≤ j) (hj8 : j ≤ 8) (hd0 : ¬ d < 0) (hd1 : d < pw10 j) (sz : Nat) : k_Mi (S := Nat → Int32) l D yX8_print cX8_print 3 (some .int) 2 0 0 48 [.ref mo, .int d, .int (nI j)] [(mo, .inr (8, [.ref ms, .int (nI kp), .ref mb, .int ty, .int th, .ref mk, .int ml, .ref mfd, .int mf, .int sp, .int on, .int tw])), (ms, .inl (K, 889, .inl sf))] [(K, .int)] (fun (r : Int32) (sg : Nat → Int32) => r = (chkd (cS d j)) ∧ RS (setP d j x) sg ∧ hiEq sg (svM kp sf)) (fun sg => [(mo, .inr (8, [.ref ms, .int (nI (min (kp + 1) 6)), .ref mb, .int ty, .int 0, .ref mk, .int ml, .ref mfd, .int mf, .int sp, .int on, .int tw])), (ms, .inl (K, 889, .inl sg))]) (fun sg => []) sz := by
  refine Met.ofW (cc := cX8_print) (maxL := 3) (ret := (some .int)) (by decide) rfl ?_
  intro p e s m args below meth c s₁ B hml hv
  obtain ⟨rfl, hsz, hP, hK, hD0, hG⟩ := hv
  have hx := B.exec
  have hb := B.bytes
  have hr := B.returns
  have ht : ∀ v9 ∈ wsA, v9.before ([.ref mo, .int d, .int (nI j)] : List Value).toArray s = true := fun v9 h9 => atoms_spec (ws := k_ws yX8_print cX8_print 3 (some .int)) B.pre v9 (List.mem_cons_of_mem _ h9)
  have hown : s.vm.findClass RX8 = some m.cls := findClass_of_methodNamed B.named
  have S0 : k_C p s m ([.ref mo, .int d, .int (nI j)] : List Value).toArray c cX8_print 3 RX8 := ⟨hx, hb, hml, hown, ht⟩
  have hlocks := B.notSynchronized
  subst hsz
  have hD := hD0.self (sz := s.heap.size)
  generalize hAe : va_A [(mo, .inr (8, [.ref ms, .int (nI kp), .ref mb, .int ty, .int th, .ref mk, .int ml, .ref mfd, .int mf, .int sp, .int on, .int tw])), (ms, .inl (K, 889, .inl sf))] s.heap.size = A at hD hG ⊢
  have hA : ∀ q : Nat, s.heap.size ≤ q → A q := fun q h => by rw [← hAe]; exact Or.inr h
  have hS : va_S A s.heap s.heap [] := va_S.rf
  have hl := lv_entry ([.ref mo, .int d, .int (nI j)]) (n := 3) (Nat.le_of_ble_eq_true rfl)
  rw [lg_entry_eq]
  generalize (lg_sl ([.ref mo, .int d, .int (nI j)]) ++ List.replicate (3 - (lg_sl ([.ref mo, .int d, .int (nI j)])).length) Slot.unset).toArray = ls at hl ⊢
  have hl : lv_has ls 3 [(0, .ref mo), (1, .int d), (2, .int (nI j))] := hl
  have hP : va_P D vwCl [(mo, .inr (8, [.ref ms, .int (nI kp), .ref mb, .int ty, .int th, .ref mk, .int ml, .ref mfd, .int mf, .int sp, .int on, .int tw])), (ms, .inl (K, 889, .inl sf))] s.heap := hP
  have hR9 := hR
  have hlx9 : True := trivial
  obtain ⟨q0, q1, q2, h51, q4, h93, ⟨h94, q7⟩, h125, h126⟩ := hR
  obtain ⟨b1, b2, b3, b4⟩ := bST_le hbx
  refine lv_aload_n hx hb dX8_print_0 rfl (lv_at hl 0 rfl) ?_
  refine lv_iload_n hx hb dX8_print_1 rfl (lv_at hl 1 rfl) ?_
  refine lv_iload_n hx hb dX8_print_2 rfl (lv_at hl 2 rfl) ?_
  have ct := k_cut_of (wc := []) (wr := [(mo, .inr (8, [.ref ms, .int (nI kp), .ref mb, .int ty, .int th, .ref mk, .int ml, .ref mfd, .int mf, .int sp, .int on, .int tw])), (ms, .inl (K, 889, .inl sf))]) (tc := []) hG hS hA hK hP hD [] [0, 1] [] rfl rfl (by decide) (by decide) (by decide) rfl
  refine k_endi (As := [.int d, .int (nI j)]) ct (k_runS (As := [.int d, .int (nI j)]) (rest := [.ref mo]) S0 Ls_X8_54 ct (c_M_isPr1 l D d (nI j) (⟨nI_nlt (b := 1) hj1 (by omega), nI_le (b := 8) hj8 (by decide), hd0, by rw [nI_clamp (by omega)]; exact hd1⟩) s.heap.size) hl.1 rfl (Nat.le_of_ble_eq_true rfl) rfl dX8_print_3 ⟨⟨Nat.le_of_ble_eq_true rfl, Nat.le_of_ble_eq_true rfl⟩, Nat.le_of_ble_eq_true rfl, Nat.le_of_ble_eq_true rfl⟩) rfl rfl (fun r_1 _ H locs hw_2 hP hD hK hS => ?_)
  have hK : va_K D vwCl [(K, .int)] s := hK
  have hP : va_P D vwCl [(mo, .inr (8, [.ref ms, .int (nI kp), .ref mb, .int ty, .int th, .ref mk, .int ml, .ref mfd, .int mf, .int sp, .int on, .int tw])), (ms, .inl (K, 889, .inl sf))] H := hP
  have hD : va_D A [(mo, .inr (8, [.ref ms, .int (nI kp), .ref mb, .int ty, .int th, .ref mk, .int ml, .ref mfd, .int mf, .int sp, .int on, .int tw])), (ms, .inl (K, 889, .inl sf))] := hD
  have hw_2 : r_1 = (1) := hw_2
  have hw_2 := hw_2.symm
  subst hw_2
  refine k_nrm (y := 1) rfl ?_
  refine lv_iconst (v := 1) hx hb dX8_print_6 (by decide) ?_
  have ct := k_cut_of (wc := [(mo, .inr (8, [.ref ms, .int (nI kp), .ref mb, .int ty, .int th, .ref mk, .int ml, .ref mfd, .int mf, .int sp, .int on, .int tw]))]) (wr := [(ms, .inl (K, 889, .inl sf))]) (tc := []) hG hS hA hK hP hD [0] [1] [] rfl rfl (by decide) (by decide) (by decide) rfl
  refine k_endi (As := [.ref mo, .int 1, .int 1]) ct (k_runV (As := [.int 1, .int 1]) (rest := []) S0 Lv_X8_58 rfl (ci := 8) (q0 := 0) rfl rfl ct (c_M_goes11 l D mo ms (nI kp) mb ty th mk ml mfd mf sp on tw H.size) hl.1 rfl (Nat.le_of_ble_eq_true rfl) rfl dX8_print_7 ⟨⟨Nat.le_of_ble_eq_true rfl, Nat.le_of_ble_eq_true rfl⟩, Nat.le_of_ble_eq_true rfl, Nat.le_of_ble_eq_true rfl⟩) rfl rfl (fun r_3 _ H locs hw_4 hP hD hK hS => ?_)
  have hK : va_K D vwCl [(K, .int)] s := hK
  have hP : va_P D vwCl [(ms, .inl (K, 889, .inl sf)), (mo, .inr (8, [.ref ms, .int (nI kp), .ref mb, .int ty, .int 0, .ref mk, .int ml, .ref mfd, .int mf, .int sp, .int on, .int tw]))] H := hP
  have hD : va_D A [(ms, .inl (K, 889, .inl sf)), (mo, .inr (8, [.ref ms, .int (nI kp), .ref mb, .int ty, .int 0, .ref mk, .int ml, .ref mfd, .int mf, .int sp, .int on, .int tw]))] := hD
  have hw_4 : r_3 = (1) := hw_4
  have hw_4 := hw_4.symm
  subst hw_4
  refine k_nrm (y := 1) rfl ?_
  refine lv_if_ne (tgt := 15) hx hb dX8_print_10 (by decide) (fun _ => ?_) (fun c9 => absurd c9 (by decide))
  refine lv_aload_n hx hb dX8_print_15 rfl (lv_at hl 0 rfl) ?_
  have ct := k_cut_of (wc := [(mo, .inr (8, [.ref ms, .int (nI kp), .ref mb, .int ty, .int 0, .ref mk, .int ml, .ref mfd, .int mf, .int sp, .int on, .int tw])), (ms, .inl (K, 889, .inl sf))]) (wr := []) (tc := [(K, .int)]) hG hS hA hK hP hD [1, 0] [] [0] rfl rfl (by decide) (by decide) (by decide) rfl
  refine k_endv (As := [.ref mo]) ct (k_runV (As := []) (rest := []) S0 Lv_X8_62 rfl (ci := 8) (q0 := 0) rfl rfl ct (c_M_saves l D mo ms kp mb ty 0 mk ml mfd mf sp on tw K sf (by first | assumption | omega) H.size) hl.1 rfl (Nat.le_of_ble_eq_true rfl) rfl dX8_print_16 ⟨⟨Nat.le_of_ble_eq_true rfl, Nat.le_of_ble_eq_true rfl⟩, Nat.le_of_ble_eq_true rfl, Nat.le_of_ble_eq_true rfl⟩) rfl rfl (fun _ _ H locs hw_6 hP hD hK hS => ?_)
  have hK : va_K D vwCl [(K, .int)] s := hK
  have hP : va_P D vwCl [(mo, .inr (8, [.ref ms, .int (nI (min (kp + 1) 6)), .ref mb, .int ty, .int 0, .ref mk, .int ml, .ref mfd, .int mf, .int sp, .int on, .int tw])), (ms, .inl (K, 889, .inl (svM kp sf)))] H := hP
  have hD : va_D A [(mo, .inr (8, [.ref ms, .int (nI (min (kp + 1) 6)), .ref mb, .int ty, .int 0, .ref mk, .int ml, .ref mfd, .int mf, .int sp, .int on, .int tw])), (ms, .inl (K, 889, .inl (svM kp sf)))] := hD
  have hRs : RS x (svM kp sf) := RS_sv hbx hR9
  have hRs9 := hRs
  obtain ⟨k0, k1, k2, h51s, k4, h93s, ⟨h94s, k7⟩, h125s, h126s⟩ := hRs
  refine lv_aload_n hx hb dX8_print_19 rfl (lv_at hl 0 rfl) ?_
  refine lv_iload_n hx hb dX8_print_20 rfl (lv_at hl 1 rfl) ?_
  refine lv_iload_n hx hb dX8_print_21 rfl (lv_at hl 2 rfl) ?_
  have ct := k_cut_of (wc := [(mo, .inr (8, [.ref ms, .int (nI (min (kp + 1) 6)), .ref mb, .int ty, .int 0, .ref mk, .int ml, .ref mfd, .int mf, .int sp, .int on, .int tw])), (ms, .inl (K, 889, .inl (svM kp sf)))]) (wr := []) (tc := [(K, .int)]) hG hS hA hK hP hD [0, 1] [] [0] rfl rfl (by decide) (by decide) (by decide) rfl
  refine k_endi (As := [.ref mo, .int d, .int (nI j)]) ct (k_runV (As := [.int d, .int (nI j)]) (rest := []) S0 Lv_X8_65 rfl (ci := 8) (q0 := 0) rfl rfl ct (c_M_prints l D mo ms (nI (min (kp + 1) 6)) mb ty 0 mk ml mfd mf sp on tw K (svM kp sf) d j (by assumption) (by assumption) H.size) hl.1 rfl (Nat.le_of_ble_eq_true rfl) rfl dX8_print_22 ⟨⟨Nat.le_of_ble_eq_true rfl, Nat.le_of_ble_eq_true rfl⟩, Nat.le_of_ble_eq_true rfl, Nat.le_of_ble_eq_true rfl⟩) rfl rfl (fun r_7 _ H locs hw_8 hP hD hK hS => ?_)
  have hK : va_K D vwCl [(K, .int)] s := hK
  have hP : va_P D vwCl [(mo, .inr (8, [.ref ms, .int (nI (min (kp + 1) 6)), .ref mb, .int ty, .int 0, .ref mk, .int ml, .ref mfd, .int mf, .int sp, .int on, .int tw])), (ms, .inl (K, 889, .inl (zrM (upd (upd (dgs d 1 j (svM kp sf) j) (1 + j) (chkd (cS d j))) 0 (nI (j + 1))) 41)))] H := hP
  have hD : va_D A [(mo, .inr (8, [.ref ms, .int (nI (min (kp + 1) 6)), .ref mb, .int ty, .int 0, .ref mk, .int ml, .ref mfd, .int mf, .int sp, .int on, .int tw])), (ms, .inl (K, 889, .inl (zrM (upd (upd (dgs d 1 j (svM kp sf) j) (1 + j) (chkd (cS d j))) 0 (nI (j + 1))) 41)))] := hD
  have hw_8 : r_7 = (chkd (cS d j)) := hw_8
  have hw_8 := hw_8.symm
  subst hw_8
  refine k_nrm (y := (chkd (cS d j))) rfl ?_
  have hP9 : va_P D vwCl [(mo, .inr (8, [.ref ms, .int (nI (min (kp + 1) 6)), .ref mb, .int ty, .int 0, .ref mk, .int ml, .ref mfd, .int mf, .int sp, .int on, .int tw])), (ms, .inl (K, 889, .inl (zrM (upd (upd (dgs d 1 j (svM kp sf) j) (1 + j) (chkd (cS d j))) 0 (nI (j + 1))) 41)))] H := hP.sub [0, 1] rfl
  have hD9 : va_D A [(mo, .inr (8, [.ref ms, .int (nI (min (kp + 1) 6)), .ref mb, .int ty, .int 0, .ref mk, .int ml, .ref mfd, .int mf, .int sp, .int on, .int tw])), (ms, .inl (K, 889, .inl (zrM (upd (upd (dgs d 1 j (svM kp sf) j) (1 + j) (chkd (cS d j))) 0 (nI (j + 1))) 41)))] := hD.sub [0, 1] (by decide) rfl
  have hK9 : va_K D vwCl [] s := hK.sub [] rfl
  exact W.iret (v := (chkd (cS d j))) hx hb hr (fun t ht9 hW9 => ⟨⟨(chkd (cS d j)), (zrM (upd (upd (dgs d 1 j (svM kp sf) j) (1 + j) (chkd (cS d j))) 0 (nI (j + 1))) 41), rfl, by exact ⟨rfl, RS_print hbx hRs9 hj8⟩, ⟨by rw [ht9]; exact hP9, va_K.moved hW9.alike hK9, hD9⟩⟩, hS.F ht9⟩) hS.2.2 dX8_print_25
set_option maxHeartbeats 4000000 in
set_option maxRecDepth 100000 in
theorem c_M_printX (l : Launch) (D : va_G) (mo : Nat) (ms : Nat) (sv : Int32) (mb : Nat) (ty : Int32) (th : Int32) (mk : Nat) (ml : Int32) (mfd : Nat) (mf : Int32) (sp : Int32) (on : Int32) (tw : Int32) (K : ClassId) (sf : Nat → Int32) (x : ST) (d : Int32) (z : Int32) (hR : RS x sf) (hbx : bST x) (hok : ¬ pOk d z) (sz : Nat) : k_Mi (S := Unit) l D yX8_print cX8_print 3 (some .int) 2 0 0 45 [.ref mo, .int d, .int z] [(mo, .inr (8, [.ref ms, .int sv, .ref mb, .int ty, .int th, .ref mk, .int ml, .ref mfd, .int mf, .int sp, .int on, .int tw])), (ms, .inl (K, 889, .inl sf))] [(K, .int)] (fun (r : Int32) (_ : Unit) => r = (0)) (fun _ => [(mo, .inr (8, [.ref ms, .int sv, .ref mb, .int ty, .int 1, .ref mk, .int ml, .ref mfd, .int mf, .int sp, .int on, .int tw])), (ms, .inl (K, 889, .inl sf))]) (fun _ => []) sz := by
  refine Met.ofW (cc := cX8_print) (maxL := 3) (ret := (some .int)) (by decide) rfl ?_
  intro p e s m args below meth c s₁ B hml hv
  obtain ⟨rfl, hsz, hP, hK, hD0, hG⟩ := hv
  have hx := B.exec
  have hb := B.bytes
  have hr := B.returns
  have ht : ∀ v9 ∈ wsA, v9.before ([.ref mo, .int d, .int z] : List Value).toArray s = true := fun v9 h9 => atoms_spec (ws := k_ws yX8_print cX8_print 3 (some .int)) B.pre v9 (List.mem_cons_of_mem _ h9)
  have hown : s.vm.findClass RX8 = some m.cls := findClass_of_methodNamed B.named
  have S0 : k_C p s m ([.ref mo, .int d, .int z] : List Value).toArray c cX8_print 3 RX8 := ⟨hx, hb, hml, hown, ht⟩
  have hlocks := B.notSynchronized
  subst hsz
  have hD := hD0.self (sz := s.heap.size)
  generalize hAe : va_A [(mo, .inr (8, [.ref ms, .int sv, .ref mb, .int ty, .int th, .ref mk, .int ml, .ref mfd, .int mf, .int sp, .int on, .int tw])), (ms, .inl (K, 889, .inl sf))] s.heap.size = A at hD hG ⊢
  have hA : ∀ q : Nat, s.heap.size ≤ q → A q := fun q h => by rw [← hAe]; exact Or.inr h
  have hS : va_S A s.heap s.heap [] := va_S.rf
  have hl := lv_entry ([.ref mo, .int d, .int z]) (n := 3) (Nat.le_of_ble_eq_true rfl)
  rw [lg_entry_eq]
  generalize (lg_sl ([.ref mo, .int d, .int z]) ++ List.replicate (3 - (lg_sl ([.ref mo, .int d, .int z])).length) Slot.unset).toArray = ls at hl ⊢
  have hl : lv_has ls 3 [(0, .ref mo), (1, .int d), (2, .int z)] := hl
  have hP : va_P D vwCl [(mo, .inr (8, [.ref ms, .int sv, .ref mb, .int ty, .int th, .ref mk, .int ml, .ref mfd, .int mf, .int sp, .int on, .int tw])), (ms, .inl (K, 889, .inl sf))] s.heap := hP
  have hR9 := hR
  have hlx9 : True := trivial
  obtain ⟨q0, q1, q2, h51, q4, h93, ⟨h94, q7⟩, h125, h126⟩ := hR
  obtain ⟨b1, b2, b3, b4⟩ := bST_le hbx
  refine lv_aload_n hx hb dX8_print_0 rfl (lv_at hl 0 rfl) ?_
  refine lv_iload_n hx hb dX8_print_1 rfl (lv_at hl 1 rfl) ?_
  refine lv_iload_n hx hb dX8_print_2 rfl (lv_at hl 2 rfl) ?_
  have ct := k_cut_of (wc := []) (wr := [(mo, .inr (8, [.ref ms, .int sv, .ref mb, .int ty, .int th, .ref mk, .int ml, .ref mfd, .int mf, .int sp, .int on, .int tw])), (ms, .inl (K, 889, .inl sf))]) (tc := []) hG hS hA hK hP hD [] [0, 1] [] rfl rfl (by decide) (by decide) (by decide) rfl
  refine k_endi (As := [.int d, .int z]) ct (k_runS (As := [.int d, .int z]) (rest := [.ref mo]) S0 Ls_X8_54 ct (c_M_isPr0 l D d z (by assumption) s.heap.size) hl.1 rfl (Nat.le_of_ble_eq_true rfl) rfl dX8_print_3 ⟨⟨Nat.le_of_ble_eq_true rfl, Nat.le_of_ble_eq_true rfl⟩, Nat.le_of_ble_eq_true rfl, Nat.le_of_ble_eq_true rfl⟩) rfl rfl (fun r_1 _ H locs hw_2 hP hD hK hS => ?_)
  have hK : va_K D vwCl [(K, .int)] s := hK
  have hP : va_P D vwCl [(mo, .inr (8, [.ref ms, .int sv, .ref mb, .int ty, .int th, .ref mk, .int ml, .ref mfd, .int mf, .int sp, .int on, .int tw])), (ms, .inl (K, 889, .inl sf))] H := hP
  have hD : va_D A [(mo, .inr (8, [.ref ms, .int sv, .ref mb, .int ty, .int th, .ref mk, .int ml, .ref mfd, .int mf, .int sp, .int on, .int tw])), (ms, .inl (K, 889, .inl sf))] := hD
  have hw_2 : r_1 = (0) := hw_2
  have hw_2 := hw_2.symm
  subst hw_2
  refine k_nrm (y := 0) rfl ?_
  refine lv_iconst (v := 1) hx hb dX8_print_6 (by decide) ?_
  have ct := k_cut_of (wc := [(mo, .inr (8, [.ref ms, .int sv, .ref mb, .int ty, .int th, .ref mk, .int ml, .ref mfd, .int mf, .int sp, .int on, .int tw]))]) (wr := [(ms, .inl (K, 889, .inl sf))]) (tc := []) hG hS hA hK hP hD [0] [1] [] rfl rfl (by decide) (by decide) (by decide) rfl
  refine k_endi (As := [.ref mo, .int 0, .int 1]) ct (k_runV (As := [.int 0, .int 1]) (rest := []) S0 Lv_X8_58 rfl (ci := 8) (q0 := 0) rfl rfl ct (c_M_goes0 l D mo ms sv mb ty th mk ml mfd mf sp on tw 1 H.size) hl.1 rfl (Nat.le_of_ble_eq_true rfl) rfl dX8_print_7 ⟨⟨Nat.le_of_ble_eq_true rfl, Nat.le_of_ble_eq_true rfl⟩, Nat.le_of_ble_eq_true rfl, Nat.le_of_ble_eq_true rfl⟩) rfl rfl (fun r_3 _ H locs hw_4 hP hD hK hS => ?_)
  have hK : va_K D vwCl [(K, .int)] s := hK
  have hP : va_P D vwCl [(ms, .inl (K, 889, .inl sf)), (mo, .inr (8, [.ref ms, .int sv, .ref mb, .int ty, .int 1, .ref mk, .int ml, .ref mfd, .int mf, .int sp, .int on, .int tw]))] H := hP
  have hD : va_D A [(ms, .inl (K, 889, .inl sf)), (mo, .inr (8, [.ref ms, .int sv, .ref mb, .int ty, .int 1, .ref mk, .int ml, .ref mfd, .int mf, .int sp, .int on, .int tw]))] := hD
  have hw_4 : r_3 = (0) := hw_4
  have hw_4 := hw_4.symm
  subst hw_4
  refine k_nrm (y := 0) rfl ?_
  refine lv_if_ne (tgt := 15) hx hb dX8_print_10 (by decide) (fun c9 => absurd (by decide) c9) (fun _ => ?_)
  refine lv_iconst (v := 0) hx hb dX8_print_13 (by decide) ?_
  have hP9 : va_P D vwCl [(mo, .inr (8, [.ref ms, .int sv, .ref mb, .int ty, .int 1, .ref mk, .int ml, .ref mfd, .int mf, .int sp, .int on, .int tw])), (ms, .inl (K, 889, .inl sf))] H := hP.sub [1, 0] rfl
  have hD9 : va_D A [(mo, .inr (8, [.ref ms, .int sv, .ref mb, .int ty, .int 1, .ref mk, .int ml, .ref mfd, .int mf, .int sp, .int on, .int tw])), (ms, .inl (K, 889, .inl sf))] := hD.sub [1, 0] (by decide) rfl
  have hK9 : va_K D vwCl [] s := hK.sub [] rfl
  exact W.iret (v := 0) hx hb hr (fun t ht9 hW9 => ⟨⟨0, (), rfl, by first | rfl | trivial | (simp only [if_true, if_false, reduceIte, and_self]; done) | simp_all, ⟨by rw [ht9]; exact hP9, va_K.moved hW9.alike hK9, hD9⟩⟩, hS.F ht9⟩) hS.2.2 dX8_print_14
