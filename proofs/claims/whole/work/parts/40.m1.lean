set_option maxRecDepth 20000 in
theorem inA_X8 : ∀ w ∈ u_ws RX8 TX8 12, w ∈ wsA := by
  show ∀ w ∈ ([u_lay RX8 TX8 0, u_lay RX8 TX8 1, u_lay RX8 TX8 2, u_lay RX8 TX8 3, u_lay RX8 TX8 4, u_lay RX8 TX8 5, u_lay RX8 TX8 6, u_lay RX8 TX8 7, u_lay RX8 TX8 8, u_lay RX8 TX8 9, u_lay RX8 TX8 10, u_lay RX8 TX8 11] : List Cond), w ∈ wsA
  exact List.forall_mem_cons.mpr ⟨mA 799 rfl rfl, List.forall_mem_cons.mpr ⟨mA 801 rfl rfl, List.forall_mem_cons.mpr ⟨mA 803 rfl rfl, List.forall_mem_cons.mpr ⟨mA 805 rfl rfl, List.forall_mem_cons.mpr ⟨mA 807 rfl rfl, List.forall_mem_cons.mpr ⟨mA 809 rfl rfl, List.forall_mem_cons.mpr ⟨mA 811 rfl rfl, List.forall_mem_cons.mpr ⟨mA 813 rfl rfl, List.forall_mem_cons.mpr ⟨mA 815 rfl rfl, List.forall_mem_cons.mpr ⟨mA 817 rfl rfl, List.forall_mem_cons.mpr ⟨mA 819 rfl rfl, List.forall_mem_cons.mpr ⟨mA 821 rfl rfl, fun _ h => absurd h List.not_mem_nil⟩⟩⟩⟩⟩⟩⟩⟩⟩⟩⟩⟩
set_option maxRecDepth 20000 in
theorem lf_X8_23 : Cond.fieldLink RX8 23 "BarcodeWandModel" "thrown" "I" ∈ wsA := mA 791 rfl rfl
theorem li_BarcodeWandModel : Cond.initialized "BarcodeWandModel" ∈ wsA := mA 10 rfl rfl
set_option maxRecDepth 20000 in
theorem lk_X8_pattern : Cond.code yX8_pattern cX8_pattern 1 (some .int) ∈ wsA := mA 891 rfl rfl
theorem ly_X8_pattern : k_y yX8_pattern 1 := ⟨by decide +kernel, by decide +kernel, by decide +kernel⟩
set_option maxRecDepth 20000 in
theorem ls_X8_pattern : Cond.static yX8_pattern ∈ wsA := mA 890 rfl rfl
set_option maxRecDepth 20000 in
theorem Ls_X8_34 : k_LS RX8 34 yX8_pattern cX8_pattern 1 (some .int) 1 := ⟨mA 889 rfl rfl, ls_X8_pattern, li_BarcodeWandModel, lk_X8_pattern, ly_X8_pattern⟩
theorem dX8_in_0 : decode cX8_in 0 = .ok (.iload_n 0, 1) := by decide +kernel
theorem dX8_in_1 : decode cX8_in 1 = .ok (.iload_n 1, 1) := by decide +kernel
theorem dX8_in_2 : decode cX8_in 2 = .ok (.if_icmp .lt 12, 3) := by decide +kernel
theorem dX8_in_5 : decode cX8_in 5 = .ok (.iload_n 0, 1) := by decide +kernel
theorem dX8_in_6 : decode cX8_in 6 = .ok (.iload_n 2, 1) := by decide +kernel
theorem dX8_in_7 : decode cX8_in 7 = .ok (.if_icmp .gt 7, 3) := by decide +kernel
theorem dX8_in_10 : decode cX8_in 10 = .ok (.iconst 1, 1) := by decide +kernel
theorem dX8_in_11 : decode cX8_in 11 = .ok (.goto 4, 3) := by decide +kernel
theorem dX8_in_14 : decode cX8_in 14 = .ok (.iconst 0, 1) := by decide +kernel
theorem dX8_in_15 : decode cX8_in 15 = .ok (.ireturn, 1) := by decide +kernel
theorem dX8_goes_0 : decode cX8_goes 0 = .ok (.aload_n 0, 1) := by decide +kernel
theorem dX8_goes_1 : decode cX8_goes 1 = .ok (.iload_n 1, 1) := by decide +kernel
theorem dX8_goes_2 : decode cX8_goes 2 = .ok (.ifCond .ne 7, 3) := by decide +kernel
theorem dX8_goes_5 : decode cX8_goes 5 = .ok (.iconst 1, 1) := by decide +kernel
theorem dX8_goes_6 : decode cX8_goes 6 = .ok (.goto 12, 3) := by decide +kernel
theorem dX8_goes_9 : decode cX8_goes 9 = .ok (.iload_n 2, 1) := by decide +kernel
theorem dX8_goes_10 : decode cX8_goes 10 = .ok (.ifCond .ne 7, 3) := by decide +kernel
theorem dX8_goes_13 : decode cX8_goes 13 = .ok (.iconst 2, 1) := by decide +kernel
theorem dX8_goes_14 : decode cX8_goes 14 = .ok (.goto 4, 3) := by decide +kernel
theorem dX8_goes_17 : decode cX8_goes 17 = .ok (.iconst 0, 1) := by decide +kernel
theorem dX8_goes_18 : decode cX8_goes 18 = .ok (.putfield 23, 3) := by decide +kernel
theorem dX8_goes_21 : decode cX8_goes 21 = .ok (.aload_n 0, 1) := by decide +kernel
theorem dX8_goes_22 : decode cX8_goes 22 = .ok (.getfield 23, 3) := by decide +kernel
theorem dX8_goes_25 : decode cX8_goes 25 = .ok (.ifCond .ne 7, 3) := by decide +kernel
theorem dX8_goes_28 : decode cX8_goes 28 = .ok (.iconst 1, 1) := by decide +kernel
theorem dX8_goes_29 : decode cX8_goes 29 = .ok (.goto 4, 3) := by decide +kernel
theorem dX8_goes_32 : decode cX8_goes 32 = .ok (.iconst 0, 1) := by decide +kernel
theorem dX8_goes_33 : decode cX8_goes 33 = .ok (.ireturn, 1) := by decide +kernel
theorem dX8_thrown_0 : decode cX8_thrown 0 = .ok (.aload_n 0, 1) := by decide +kernel
theorem dX8_thrown_1 : decode cX8_thrown 1 = .ok (.getfield 23, 3) := by decide +kernel
theorem dX8_thrown_4 : decode cX8_thrown 4 = .ok (.ireturn, 1) := by decide +kernel
theorem dX8_size_0 : decode cX8_size 0 = .ok (.iload_n 0, 1) := by decide +kernel
theorem dX8_size_1 : decode cX8_size 1 = .ok (.ifCond .ge 8, 3) := by decide +kernel
theorem dX8_size_4 : decode cX8_size 4 = .ok (.iload_n 0, 1) := by decide +kernel
theorem dX8_size_5 : decode cX8_size 5 = .ok (.ineg, 1) := by decide +kernel
theorem dX8_size_6 : decode cX8_size 6 = .ok (.goto 4, 3) := by decide +kernel
theorem dX8_size_9 : decode cX8_size 9 = .ok (.iload_n 0, 1) := by decide +kernel
theorem dX8_size_10 : decode cX8_size 10 = .ok (.ireturn, 1) := by decide +kernel
theorem dX8_pattern_0 : decode cX8_pattern 0 = .ok (.iload_n 0, 1) := by decide +kernel
theorem dX8_pattern_1 : decode cX8_pattern 1 = .ok (.tableswitch 87 0 8 #[51, 55, 59, 63, 67, 71, 75, 79, 83], 51) := by decide +kernel
theorem dX8_pattern_52 : decode cX8_pattern 52 = .ok (.sipush 3211, 3) := by decide +kernel
theorem dX8_pattern_55 : decode cX8_pattern 55 = .ok (.ireturn, 1) := by decide +kernel
theorem dX8_pattern_56 : decode cX8_pattern 56 = .ok (.sipush 2221, 3) := by decide +kernel
theorem dX8_pattern_59 : decode cX8_pattern 59 = .ok (.ireturn, 1) := by decide +kernel
theorem dX8_pattern_60 : decode cX8_pattern 60 = .ok (.sipush 2122, 3) := by decide +kernel
theorem dX8_pattern_63 : decode cX8_pattern 63 = .ok (.ireturn, 1) := by decide +kernel
theorem dX8_pattern_64 : decode cX8_pattern 64 = .ok (.sipush 1411, 3) := by decide +kernel
theorem dX8_pattern_67 : decode cX8_pattern 67 = .ok (.ireturn, 1) := by decide +kernel
theorem dX8_pattern_68 : decode cX8_pattern 68 = .ok (.sipush 1132, 3) := by decide +kernel
theorem dX8_pattern_71 : decode cX8_pattern 71 = .ok (.ireturn, 1) := by decide +kernel
theorem dX8_pattern_72 : decode cX8_pattern 72 = .ok (.sipush 1231, 3) := by decide +kernel
theorem dX8_pattern_75 : decode cX8_pattern 75 = .ok (.ireturn, 1) := by decide +kernel
theorem dX8_pattern_76 : decode cX8_pattern 76 = .ok (.sipush 1114, 3) := by decide +kernel
theorem dX8_pattern_79 : decode cX8_pattern 79 = .ok (.ireturn, 1) := by decide +kernel
theorem dX8_pattern_80 : decode cX8_pattern 80 = .ok (.sipush 1312, 3) := by decide +kernel
theorem dX8_pattern_83 : decode cX8_pattern 83 = .ok (.ireturn, 1) := by decide +kernel
theorem dX8_pattern_84 : decode cX8_pattern 84 = .ok (.sipush 1213, 3) := by decide +kernel
theorem dX8_pattern_87 : decode cX8_pattern 87 = .ok (.ireturn, 1) := by decide +kernel
theorem dX8_pattern_88 : decode cX8_pattern 88 = .ok (.sipush 3112, 3) := by decide +kernel
theorem dX8_pattern_91 : decode cX8_pattern 91 = .ok (.ireturn, 1) := by decide +kernel
theorem dX8_widthOf_0 : decode cX8_widthOf 0 = .ok (.iload_n 0, 1) := by decide +kernel
theorem dX8_widthOf_1 : decode cX8_widthOf 1 = .ok (.invokestatic 34, 3) := by decide +kernel
theorem dX8_widthOf_4 : decode cX8_widthOf 4 = .ok (.istore_n 2, 1) := by decide +kernel
theorem dX8_widthOf_5 : decode cX8_widthOf 5 = .ok (.iload_n 1, 1) := by decide +kernel
theorem dX8_widthOf_6 : decode cX8_widthOf 6 = .ok (.istore_n 3, 1) := by decide +kernel
theorem dX8_widthOf_7 : decode cX8_widthOf 7 = .ok (.iload_n 3, 1) := by decide +kernel
theorem dX8_widthOf_8 : decode cX8_widthOf 8 = .ok (.iconst 3, 1) := by decide +kernel
theorem dX8_widthOf_9 : decode cX8_widthOf 9 = .ok (.if_icmp .ge 14, 3) := by decide +kernel
theorem dX8_widthOf_12 : decode cX8_widthOf 12 = .ok (.iload_n 2, 1) := by decide +kernel
theorem dX8_widthOf_13 : decode cX8_widthOf 13 = .ok (.bipush 10, 2) := by decide +kernel
theorem dX8_widthOf_15 : decode cX8_widthOf 15 = .ok (.idiv, 1) := by decide +kernel
theorem dX8_widthOf_16 : decode cX8_widthOf 16 = .ok (.istore_n 2, 1) := by decide +kernel
theorem dX8_widthOf_17 : decode cX8_widthOf 17 = .ok (.iinc 3 1, 3) := by decide +kernel
theorem dX8_widthOf_20 : decode cX8_widthOf 20 = .ok (.goto (-13), 3) := by decide +kernel
theorem dX8_widthOf_23 : decode cX8_widthOf 23 = .ok (.iload_n 2, 1) := by decide +kernel
theorem dX8_widthOf_24 : decode cX8_widthOf 24 = .ok (.bipush 10, 2) := by decide +kernel
theorem dX8_widthOf_26 : decode cX8_widthOf 26 = .ok (.irem, 1) := by decide +kernel
theorem dX8_widthOf_27 : decode cX8_widthOf 27 = .ok (.ireturn, 1) := by decide +kernel
set_option maxHeartbeats 4000000 in
set_option maxRecDepth 100000 in
theorem c_M_in1 (l : Launch) (D : va_G) (v : Int32) (lo : Int32) (hi : Int32) (hlo : ¬ v < lo) (hhi : ¬ hi < v) (sz : Nat) : k_Mi (S := Unit) l D yX8_in cX8_in 3 (some .boolean) 0 0 0 0 [.int v, .int lo, .int hi] [] [] (fun (r : Int32) (_ : Unit) => r = (1)) (fun _ => []) (fun _ => []) sz := by
  refine Met.ofW (cc := cX8_in) (maxL := 3) (ret := (some .boolean)) (by decide) rfl ?_
  intro p e s m args below meth c s₁ B hml hv
  obtain ⟨rfl, hsz, hP, hK, hD0, hG⟩ := hv
  have hx := B.exec
  have hb := B.bytes
  have hr := B.returns
  have ht : ∀ v9 ∈ wsA, v9.before ([.int v, .int lo, .int hi] : List Value).toArray s = true := fun v9 h9 => atoms_spec (ws := k_ws yX8_in cX8_in 3 (some .boolean)) B.pre v9 (List.mem_cons_of_mem _ h9)
  have hown : s.vm.findClass RX8 = some m.cls := findClass_of_methodNamed B.named
  have S0 : k_C p s m ([.int v, .int lo, .int hi] : List Value).toArray c cX8_in 3 RX8 := ⟨hx, hb, hml, hown, ht⟩
  have hlocks := B.notSynchronized
  subst hsz
  have hD := hD0.self (sz := s.heap.size)
  generalize hAe : va_A [] s.heap.size = A at hD hG ⊢
  have hA : ∀ q : Nat, s.heap.size ≤ q → A q := fun q h => by rw [← hAe]; exact Or.inr h
  have hS : va_S A s.heap s.heap [] := va_S.rf
  have hl := lv_entry ([.int v, .int lo, .int hi]) (n := 3) (Nat.le_of_ble_eq_true rfl)
  rw [lg_entry_eq]
  generalize (lg_sl ([.int v, .int lo, .int hi]) ++ List.replicate (3 - (lg_sl ([.int v, .int lo, .int hi])).length) Slot.unset).toArray = ls at hl ⊢
  have hl : lv_has ls 3 [(0, .int v), (1, .int lo), (2, .int hi)] := hl
  have hP : va_P D vwCl [] s.heap := hP
  refine lv_iload_n hx hb dX8_in_0 rfl (lv_at hl 0 rfl) ?_
  refine lv_iload_n hx hb dX8_in_1 rfl (lv_at hl 1 rfl) ?_
  refine lv_icmp_lt (tgt := 14) hx hb dX8_in_2 (by decide) (fun c9 => absurd c9 hlo) (fun c_1 => ?_)
  refine lv_iload_n hx hb dX8_in_5 rfl (lv_at hl 0 rfl) ?_
  refine lv_iload_n hx hb dX8_in_6 rfl (lv_at hl 2 rfl) ?_
  refine lv_icmp_gt (tgt := 14) hx hb dX8_in_7 (by decide) (fun c9 => absurd c9 hhi) (fun c_2 => ?_)
  refine lv_iconst (v := 1) hx hb dX8_in_10 (by decide) ?_
  refine lv_goto (tgt := 15) hx hb dX8_in_11 (by decide) ?_
  have hP9 : va_P D vwCl [] s.heap := hP.sub [] rfl
  have hD9 : va_D A [] := hD.sub [] (by decide) rfl
  have hK9 : va_K D vwCl [] s := hK.sub [] rfl
  exact W.zret (v := 1) hx hb hr (rfl) (fun t ht9 hW9 => ⟨⟨1, (), rfl, by first | rfl | trivial | (simp only [c_1, c_2, if_true, if_false, reduceIte, and_self]; done) | simp_all, ⟨by rw [ht9]; exact hP9, va_K.moved hW9.alike hK9, hD9⟩⟩, hS.F ht9⟩) hS.2.2 dX8_in_15
set_option maxHeartbeats 4000000 in
set_option maxRecDepth 100000 in
theorem c_M_in0 (l : Launch) (D : va_G) (v : Int32) (lo : Int32) (hi : Int32) (hn : v < lo ∨ hi < v) (sz : Nat) : k_Mi (S := Unit) l D yX8_in cX8_in 3 (some .boolean) 0 0 0 0 [.int v, .int lo, .int hi] [] [] (fun (r : Int32) (_ : Unit) => r = (0)) (fun _ => []) (fun _ => []) sz := by
  refine Met.ofW (cc := cX8_in) (maxL := 3) (ret := (some .boolean)) (by decide) rfl ?_
  intro p e s m args below meth c s₁ B hml hv
  obtain ⟨rfl, hsz, hP, hK, hD0, hG⟩ := hv
  have hx := B.exec
  have hb := B.bytes
  have hr := B.returns
  have ht : ∀ v9 ∈ wsA, v9.before ([.int v, .int lo, .int hi] : List Value).toArray s = true := fun v9 h9 => atoms_spec (ws := k_ws yX8_in cX8_in 3 (some .boolean)) B.pre v9 (List.mem_cons_of_mem _ h9)
  have hown : s.vm.findClass RX8 = some m.cls := findClass_of_methodNamed B.named
  have S0 : k_C p s m ([.int v, .int lo, .int hi] : List Value).toArray c cX8_in 3 RX8 := ⟨hx, hb, hml, hown, ht⟩
  have hlocks := B.notSynchronized
  subst hsz
  have hD := hD0.self (sz := s.heap.size)
  generalize hAe : va_A [] s.heap.size = A at hD hG ⊢
  have hA : ∀ q : Nat, s.heap.size ≤ q → A q := fun q h => by rw [← hAe]; exact Or.inr h
  have hS : va_S A s.heap s.heap [] := va_S.rf
  have hl := lv_entry ([.int v, .int lo, .int hi]) (n := 3) (Nat.le_of_ble_eq_true rfl)
  rw [lg_entry_eq]
  generalize (lg_sl ([.int v, .int lo, .int hi]) ++ List.replicate (3 - (lg_sl ([.int v, .int lo, .int hi])).length) Slot.unset).toArray = ls at hl ⊢
  have hl : lv_has ls 3 [(0, .int v), (1, .int lo), (2, .int hi)] := hl
  have hP : va_P D vwCl [] s.heap := hP
  refine lv_iload_n hx hb dX8_in_0 rfl (lv_at hl 0 rfl) ?_
  refine lv_iload_n hx hb dX8_in_1 rfl (lv_at hl 1 rfl) ?_
  refine lv_icmp_lt (tgt := 14) hx hb dX8_in_2 (by decide) (fun c_1 => ?_) (fun c_1 => ?_)
  · have hc9 := c_1
    refine lv_iconst (v := 0) hx hb dX8_in_14 (by decide) ?_
    have hP9 : va_P D vwCl [] s.heap := hP.sub [] rfl
    have hD9 : va_D A [] := hD.sub [] (by decide) rfl
    have hK9 : va_K D vwCl [] s := hK.sub [] rfl
    exact W.zret (v := 0) hx hb hr (rfl) (fun t ht9 hW9 => ⟨⟨0, (), rfl, by first | rfl | trivial | (simp only [c_1, if_true, if_false, reduceIte, and_self]; done) | simp_all, ⟨by rw [ht9]; exact hP9, va_K.moved hW9.alike hK9, hD9⟩⟩, hS.F ht9⟩) hS.2.2 dX8_in_15
  · have hc9 := c_1
    refine lv_iload_n hx hb dX8_in_5 rfl (lv_at hl 0 rfl) ?_
    refine lv_iload_n hx hb dX8_in_6 rfl (lv_at hl 2 rfl) ?_
    refine lv_icmp_gt (tgt := 14) hx hb dX8_in_7 (by decide) (fun c_2 => ?_) (fun c9 => absurd (hn.resolve_left c_1) c9)
    refine lv_iconst (v := 0) hx hb dX8_in_14 (by decide) ?_
    have hP9 : va_P D vwCl [] s.heap := hP.sub [] rfl
    have hD9 : va_D A [] := hD.sub [] (by decide) rfl
    have hK9 : va_K D vwCl [] s := hK.sub [] rfl
    exact W.zret (v := 0) hx hb hr (rfl) (fun t ht9 hW9 => ⟨⟨0, (), rfl, by first | rfl | trivial | (simp only [c_1, c_2, if_true, if_false, reduceIte, and_self]; done) | simp_all, ⟨by rw [ht9]; exact hP9, va_K.moved hW9.alike hK9, hD9⟩⟩, hS.F ht9⟩) hS.2.2 dX8_in_15
set_option maxHeartbeats 4000000 in
set_option maxRecDepth 100000 in
theorem c_M_in (l : Launch) (D : va_G) (v : Int32) (lo : Int32) (hi : Int32) (sz : Nat) : k_Mi (S := Unit) l D yX8_in cX8_in 3 (some .boolean) 0 0 0 0 [.int v, .int lo, .int hi] [] [] (fun (r : Int32) (_ : Unit) => (r = 1 ∧ ¬ v < lo ∧ ¬ hi < v) ∨ (r = 0 ∧ (v < lo ∨ hi < v))) (fun _ => []) (fun _ => []) sz := by
  refine Met.ofW (cc := cX8_in) (maxL := 3) (ret := (some .boolean)) (by decide) rfl ?_
  intro p e s m args below meth c s₁ B hml hv
  obtain ⟨rfl, hsz, hP, hK, hD0, hG⟩ := hv
  have hx := B.exec
  have hb := B.bytes
  have hr := B.returns
  have ht : ∀ v9 ∈ wsA, v9.before ([.int v, .int lo, .int hi] : List Value).toArray s = true := fun v9 h9 => atoms_spec (ws := k_ws yX8_in cX8_in 3 (some .boolean)) B.pre v9 (List.mem_cons_of_mem _ h9)
  have hown : s.vm.findClass RX8 = some m.cls := findClass_of_methodNamed B.named
  have S0 : k_C p s m ([.int v, .int lo, .int hi] : List Value).toArray c cX8_in 3 RX8 := ⟨hx, hb, hml, hown, ht⟩
  have hlocks := B.notSynchronized
  subst hsz
  have hD := hD0.self (sz := s.heap.size)
  generalize hAe : va_A [] s.heap.size = A at hD hG ⊢
  have hA : ∀ q : Nat, s.heap.size ≤ q → A q := fun q h => by rw [← hAe]; exact Or.inr h
  have hS : va_S A s.heap s.heap [] := va_S.rf
  have hl := lv_entry ([.int v, .int lo, .int hi]) (n := 3) (Nat.le_of_ble_eq_true rfl)
  rw [lg_entry_eq]
  generalize (lg_sl ([.int v, .int lo, .int hi]) ++ List.replicate (3 - (lg_sl ([.int v, .int lo, .int hi])).length) Slot.unset).toArray = ls at hl ⊢
  have hl : lv_has ls 3 [(0, .int v), (1, .int lo), (2, .int hi)] := hl
  have hP : va_P D vwCl [] s.heap := hP
  refine lv_iload_n hx hb dX8_in_0 rfl (lv_at hl 0 rfl) ?_
  refine lv_iload_n hx hb dX8_in_1 rfl (lv_at hl 1 rfl) ?_
  refine lv_icmp_lt (tgt := 14) hx hb dX8_in_2 (by decide) (fun c_1 => ?_) (fun c_1 => ?_)
  · have hc9 := c_1
    refine lv_iconst (v := 0) hx hb dX8_in_14 (by decide) ?_
    have hP9 : va_P D vwCl [] s.heap := hP.sub [] rfl
    have hD9 : va_D A [] := hD.sub [] (by decide) rfl
    have hK9 : va_K D vwCl [] s := hK.sub [] rfl
    exact W.zret (v := 0) hx hb hr (rfl) (fun t ht9 hW9 => ⟨⟨0, (), rfl, by exact Or.inr ⟨rfl, Or.inl c_1⟩, ⟨by rw [ht9]; exact hP9, va_K.moved hW9.alike hK9, hD9⟩⟩, hS.F ht9⟩) hS.2.2 dX8_in_15
  · have hc9 := c_1
    refine lv_iload_n hx hb dX8_in_5 rfl (lv_at hl 0 rfl) ?_
    refine lv_iload_n hx hb dX8_in_6 rfl (lv_at hl 2 rfl) ?_
    refine lv_icmp_gt (tgt := 14) hx hb dX8_in_7 (by decide) (fun c_2 => ?_) (fun c_2 => ?_)
    · have hc9 := c_2
      refine lv_iconst (v := 0) hx hb dX8_in_14 (by decide) ?_
      have hP9 : va_P D vwCl [] s.heap := hP.sub [] rfl
      have hD9 : va_D A [] := hD.sub [] (by decide) rfl
      have hK9 : va_K D vwCl [] s := hK.sub [] rfl
      exact W.zret (v := 0) hx hb hr (rfl) (fun t ht9 hW9 => ⟨⟨0, (), rfl, by exact Or.inr ⟨rfl, Or.inr c_2⟩, ⟨by rw [ht9]; exact hP9, va_K.moved hW9.alike hK9, hD9⟩⟩, hS.F ht9⟩) hS.2.2 dX8_in_15
    · have hc9 := c_2
      refine lv_iconst (v := 1) hx hb dX8_in_10 (by decide) ?_
      refine lv_goto (tgt := 15) hx hb dX8_in_11 (by decide) ?_
      have hP9 : va_P D vwCl [] s.heap := hP.sub [] rfl
      have hD9 : va_D A [] := hD.sub [] (by decide) rfl
      have hK9 : va_K D vwCl [] s := hK.sub [] rfl
      exact W.zret (v := 1) hx hb hr (rfl) (fun t ht9 hW9 => ⟨⟨1, (), rfl, by exact Or.inl ⟨rfl, c_1, c_2⟩, ⟨by rw [ht9]; exact hP9, va_K.moved hW9.alike hK9, hD9⟩⟩, hS.F ht9⟩) hS.2.2 dX8_in_15
set_option maxHeartbeats 4000000 in
set_option maxRecDepth 100000 in
theorem c_M_goes11 (l : Launch) (D : va_G) (mo : Nat) (ms : Nat) (sv : Int32) (mb : Nat) (ty : Int32) (th : Int32) (mk : Nat) (ml : Int32) (mfd : Nat) (mf : Int32) (sp : Int32) (on : Int32) (tw : Int32) (sz : Nat) : k_Mi (S := Unit) l D yX8_goes cX8_goes 3 (some .boolean) 0 0 0 0 [.ref mo, .int 1, .int 1] [(mo, .inr (8, [.ref ms, .int sv, .ref mb, .int ty, .int th, .ref mk, .int ml, .ref mfd, .int mf, .int sp, .int on, .int tw]))] [] (fun (r : Int32) (_ : Unit) => r = (1)) (fun _ => [(mo, .inr (8, [.ref ms, .int sv, .ref mb, .int ty, .int 0, .ref mk, .int ml, .ref mfd, .int mf, .int sp, .int on, .int tw]))]) (fun _ => []) sz := by
  refine Met.ofW (cc := cX8_goes) (maxL := 3) (ret := (some .boolean)) (by decide) rfl ?_
  intro p e s m args below meth c s₁ B hml hv
  obtain ⟨rfl, hsz, hP, hK, hD0, hG⟩ := hv
  have hx := B.exec
  have hb := B.bytes
  have hr := B.returns
  have ht : ∀ v9 ∈ wsA, v9.before ([.ref mo, .int 1, .int 1] : List Value).toArray s = true := fun v9 h9 => atoms_spec (ws := k_ws yX8_goes cX8_goes 3 (some .boolean)) B.pre v9 (List.mem_cons_of_mem _ h9)
  have hown : s.vm.findClass RX8 = some m.cls := findClass_of_methodNamed B.named
  have S0 : k_C p s m ([.ref mo, .int 1, .int 1] : List Value).toArray c cX8_goes 3 RX8 := ⟨hx, hb, hml, hown, ht⟩
  have hlocks := B.notSynchronized
  subst hsz
  have hD := hD0.self (sz := s.heap.size)
  generalize hAe : va_A [(mo, .inr (8, [.ref ms, .int sv, .ref mb, .int ty, .int th, .ref mk, .int ml, .ref mfd, .int mf, .int sp, .int on, .int tw]))] s.heap.size = A at hD hG ⊢
  have hA : ∀ q : Nat, s.heap.size ≤ q → A q := fun q h => by rw [← hAe]; exact Or.inr h
  have hS : va_S A s.heap s.heap [] := va_S.rf
  have hl := lv_entry ([.ref mo, .int 1, .int 1]) (n := 3) (Nat.le_of_ble_eq_true rfl)
  rw [lg_entry_eq]
  generalize (lg_sl ([.ref mo, .int 1, .int 1]) ++ List.replicate (3 - (lg_sl ([.ref mo, .int 1, .int 1])).length) Slot.unset).toArray = ls at hl ⊢
  have hl : lv_has ls 3 [(0, .ref mo), (1, .int 1), (2, .int 1)] := hl
  have hP : va_P D vwCl [(mo, .inr (8, [.ref ms, .int sv, .ref mb, .int ty, .int th, .ref mk, .int ml, .ref mfd, .int mf, .int sp, .int on, .int tw]))] s.heap := hP
  refine lv_aload_n hx hb dX8_goes_0 rfl (lv_at hl 0 rfl) ?_
  refine lv_iload_n hx hb dX8_goes_1 rfl (lv_at hl 1 rfl) ?_
  refine lv_if_ne (tgt := 9) hx hb dX8_goes_2 (by decide) (fun _ => ?_) (fun c9 => absurd c9 (by decide))
  refine lv_iload_n hx hb dX8_goes_9 rfl (lv_at hl 2 rfl) ?_
  refine lv_if_ne (tgt := 17) hx hb dX8_goes_10 (by decide) (fun _ => ?_) (fun c9 => absurd c9 (by decide))
  refine lv_iconst (v := 0) hx hb dX8_goes_17 (by decide) ?_
  refine va_put (D := D) (ci := 8) (v := .int 0) (ty := .int) (C := RX8) (T := TX8) (N := 12) hx hb ht inA_X8 tyX8 tyX8_ok nmX8 hown hK hP hD hS 0 rfl rfl 4 (by decide) (ht _ lf_X8_23) (fun _ h9 => h9) rfl (tyX8_ok 4 (by decide)) rfl rfl (Nat.le_of_ble_eq_true rfl) dX8_goes_18 (fun H locs hP hD hS => ?_)
  have hP : va_P D vwCl [(mo, .inr (8, [.ref ms, .int sv, .ref mb, .int ty, .int 0, .ref mk, .int ml, .ref mfd, .int mf, .int sp, .int on, .int tw]))] H := hP
  have hD : va_D A [(mo, .inr (8, [.ref ms, .int sv, .ref mb, .int ty, .int 0, .ref mk, .int ml, .ref mfd, .int mf, .int sp, .int on, .int tw]))] := hD
  refine lv_aload_n hx hb dX8_goes_21 rfl (lv_at hl 0 rfl) ?_
  refine va_get (D := D) (ci := 8) (v := .int 0) (C := RX8) (T := TX8) (N := 12) hx hb ht inA_X8 hown hK hP 0 rfl rfl 4 (by decide) (ht _ lf_X8_23) (fun _ h9 => h9) rfl dX8_goes_22 ?_
  refine lv_if_ne (tgt := 32) hx hb dX8_goes_25 (by decide) (fun c9 => absurd (by decide) c9) (fun _ => ?_)
  refine lv_iconst (v := 1) hx hb dX8_goes_28 (by decide) ?_
  refine lv_goto (tgt := 33) hx hb dX8_goes_29 (by decide) ?_
  have hP9 : va_P D vwCl [(mo, .inr (8, [.ref ms, .int sv, .ref mb, .int ty, .int 0, .ref mk, .int ml, .ref mfd, .int mf, .int sp, .int on, .int tw]))] H := hP.sub [0] rfl
  have hD9 : va_D A [(mo, .inr (8, [.ref ms, .int sv, .ref mb, .int ty, .int 0, .ref mk, .int ml, .ref mfd, .int mf, .int sp, .int on, .int tw]))] := hD.sub [0] (by decide) rfl
  have hK9 : va_K D vwCl [] s := hK.sub [] rfl
  exact W.zret (v := 1) hx hb hr (rfl) (fun t ht9 hW9 => ⟨⟨1, (), rfl, by first | rfl | trivial | (simp only [if_true, if_false, reduceIte, and_self]; done) | simp_all, ⟨by rw [ht9]; exact hP9, va_K.moved hW9.alike hK9, hD9⟩⟩, hS.F ht9⟩) hS.2.2 dX8_goes_33
set_option maxHeartbeats 4000000 in
set_option maxRecDepth 100000 in
theorem c_M_goes0 (l : Launch) (D : va_G) (mo : Nat) (ms : Nat) (sv : Int32) (mb : Nat) (ty : Int32) (th : Int32) (mk : Nat) (ml : Int32) (mfd : Nat) (mf : Int32) (sp : Int32) (on : Int32) (tw : Int32) (b : Int32) (sz : Nat) : k_Mi (S := Unit) l D yX8_goes cX8_goes 3 (some .boolean) 0 0 0 0 [.ref mo, .int 0, .int b] [(mo, .inr (8, [.ref ms, .int sv, .ref mb, .int ty, .int th, .ref mk, .int ml, .ref mfd, .int mf, .int sp, .int on, .int tw]))] [] (fun (r : Int32) (_ : Unit) => r = (0)) (fun _ => [(mo, .inr (8, [.ref ms, .int sv, .ref mb, .int ty, .int 1, .ref mk, .int ml, .ref mfd, .int mf, .int sp, .int on, .int tw]))]) (fun _ => []) sz := by
  refine Met.ofW (cc := cX8_goes) (maxL := 3) (ret := (some .boolean)) (by decide) rfl ?_
  intro p e s m args below meth c s₁ B hml hv
  obtain ⟨rfl, hsz, hP, hK, hD0, hG⟩ := hv
  have hx := B.exec
  have hb := B.bytes
  have hr := B.returns
  have ht : ∀ v9 ∈ wsA, v9.before ([.ref mo, .int 0, .int b] : List Value).toArray s = true := fun v9 h9 => atoms_spec (ws := k_ws yX8_goes cX8_goes 3 (some .boolean)) B.pre v9 (List.mem_cons_of_mem _ h9)
  have hown : s.vm.findClass RX8 = some m.cls := findClass_of_methodNamed B.named
  have S0 : k_C p s m ([.ref mo, .int 0, .int b] : List Value).toArray c cX8_goes 3 RX8 := ⟨hx, hb, hml, hown, ht⟩
  have hlocks := B.notSynchronized
  subst hsz
  have hD := hD0.self (sz := s.heap.size)
  generalize hAe : va_A [(mo, .inr (8, [.ref ms, .int sv, .ref mb, .int ty, .int th, .ref mk, .int ml, .ref mfd, .int mf, .int sp, .int on, .int tw]))] s.heap.size = A at hD hG ⊢
  have hA : ∀ q : Nat, s.heap.size ≤ q → A q := fun q h => by rw [← hAe]; exact Or.inr h
  have hS : va_S A s.heap s.heap [] := va_S.rf
  have hl := lv_entry ([.ref mo, .int 0, .int b]) (n := 3) (Nat.le_of_ble_eq_true rfl)
  rw [lg_entry_eq]
  generalize (lg_sl ([.ref mo, .int 0, .int b]) ++ List.replicate (3 - (lg_sl ([.ref mo, .int 0, .int b])).length) Slot.unset).toArray = ls at hl ⊢
  have hl : lv_has ls 3 [(0, .ref mo), (1, .int 0), (2, .int b)] := hl
  have hP : va_P D vwCl [(mo, .inr (8, [.ref ms, .int sv, .ref mb, .int ty, .int th, .ref mk, .int ml, .ref mfd, .int mf, .int sp, .int on, .int tw]))] s.heap := hP
  refine lv_aload_n hx hb dX8_goes_0 rfl (lv_at hl 0 rfl) ?_
  refine lv_iload_n hx hb dX8_goes_1 rfl (lv_at hl 1 rfl) ?_
  refine lv_if_ne (tgt := 9) hx hb dX8_goes_2 (by decide) (fun c9 => absurd (by decide) c9) (fun _ => ?_)
  refine lv_iconst (v := 1) hx hb dX8_goes_5 (by decide) ?_
  refine lv_goto (tgt := 18) hx hb dX8_goes_6 (by decide) ?_
  refine va_put (D := D) (ci := 8) (v := .int 1) (ty := .int) (C := RX8) (T := TX8) (N := 12) hx hb ht inA_X8 tyX8 tyX8_ok nmX8 hown hK hP hD hS 0 rfl rfl 4 (by decide) (ht _ lf_X8_23) (fun _ h9 => h9) rfl (tyX8_ok 4 (by decide)) rfl rfl (Nat.le_of_ble_eq_true rfl) dX8_goes_18 (fun H locs hP hD hS => ?_)
  have hP : va_P D vwCl [(mo, .inr (8, [.ref ms, .int sv, .ref mb, .int ty, .int 1, .ref mk, .int ml, .ref mfd, .int mf, .int sp, .int on, .int tw]))] H := hP
  have hD : va_D A [(mo, .inr (8, [.ref ms, .int sv, .ref mb, .int ty, .int 1, .ref mk, .int ml, .ref mfd, .int mf, .int sp, .int on, .int tw]))] := hD
  refine lv_aload_n hx hb dX8_goes_21 rfl (lv_at hl 0 rfl) ?_
  refine va_get (D := D) (ci := 8) (v := .int 1) (C := RX8) (T := TX8) (N := 12) hx hb ht inA_X8 hown hK hP 0 rfl rfl 4 (by decide) (ht _ lf_X8_23) (fun _ h9 => h9) rfl dX8_goes_22 ?_
  refine lv_if_ne (tgt := 32) hx hb dX8_goes_25 (by decide) (fun _ => ?_) (fun c9 => absurd c9 (by decide))
  refine lv_iconst (v := 0) hx hb dX8_goes_32 (by decide) ?_
  have hP9 : va_P D vwCl [(mo, .inr (8, [.ref ms, .int sv, .ref mb, .int ty, .int 1, .ref mk, .int ml, .ref mfd, .int mf, .int sp, .int on, .int tw]))] H := hP.sub [0] rfl
  have hD9 : va_D A [(mo, .inr (8, [.ref ms, .int sv, .ref mb, .int ty, .int 1, .ref mk, .int ml, .ref mfd, .int mf, .int sp, .int on, .int tw]))] := hD.sub [0] (by decide) rfl
  have hK9 : va_K D vwCl [] s := hK.sub [] rfl
  exact W.zret (v := 0) hx hb hr (rfl) (fun t ht9 hW9 => ⟨⟨0, (), rfl, by first | rfl | trivial | (simp only [if_true, if_false, reduceIte, and_self]; done) | simp_all, ⟨by rw [ht9]; exact hP9, va_K.moved hW9.alike hK9, hD9⟩⟩, hS.F ht9⟩) hS.2.2 dX8_goes_33
set_option maxHeartbeats 4000000 in
set_option maxRecDepth 100000 in
theorem c_M_goes10 (l : Launch) (D : va_G) (mo : Nat) (ms : Nat) (sv : Int32) (mb : Nat) (ty : Int32) (th : Int32) (mk : Nat) (ml : Int32) (mfd : Nat) (mf : Int32) (sp : Int32) (on : Int32) (tw : Int32) (sz : Nat) : k_Mi (S := Unit) l D yX8_goes cX8_goes 3 (some .boolean) 0 0 0 0 [.ref mo, .int 1, .int 0] [(mo, .inr (8, [.ref ms, .int sv, .ref mb, .int ty, .int th, .ref mk, .int ml, .ref mfd, .int mf, .int sp, .int on, .int tw]))] [] (fun (r : Int32) (_ : Unit) => r = (0)) (fun _ => [(mo, .inr (8, [.ref ms, .int sv, .ref mb, .int ty, .int 2, .ref mk, .int ml, .ref mfd, .int mf, .int sp, .int on, .int tw]))]) (fun _ => []) sz := by
  refine Met.ofW (cc := cX8_goes) (maxL := 3) (ret := (some .boolean)) (by decide) rfl ?_
  intro p e s m args below meth c s₁ B hml hv
  obtain ⟨rfl, hsz, hP, hK, hD0, hG⟩ := hv
  have hx := B.exec
  have hb := B.bytes
  have hr := B.returns
  have ht : ∀ v9 ∈ wsA, v9.before ([.ref mo, .int 1, .int 0] : List Value).toArray s = true := fun v9 h9 => atoms_spec (ws := k_ws yX8_goes cX8_goes 3 (some .boolean)) B.pre v9 (List.mem_cons_of_mem _ h9)
  have hown : s.vm.findClass RX8 = some m.cls := findClass_of_methodNamed B.named
  have S0 : k_C p s m ([.ref mo, .int 1, .int 0] : List Value).toArray c cX8_goes 3 RX8 := ⟨hx, hb, hml, hown, ht⟩
  have hlocks := B.notSynchronized
  subst hsz
  have hD := hD0.self (sz := s.heap.size)
  generalize hAe : va_A [(mo, .inr (8, [.ref ms, .int sv, .ref mb, .int ty, .int th, .ref mk, .int ml, .ref mfd, .int mf, .int sp, .int on, .int tw]))] s.heap.size = A at hD hG ⊢
  have hA : ∀ q : Nat, s.heap.size ≤ q → A q := fun q h => by rw [← hAe]; exact Or.inr h
  have hS : va_S A s.heap s.heap [] := va_S.rf
  have hl := lv_entry ([.ref mo, .int 1, .int 0]) (n := 3) (Nat.le_of_ble_eq_true rfl)
  rw [lg_entry_eq]
  generalize (lg_sl ([.ref mo, .int 1, .int 0]) ++ List.replicate (3 - (lg_sl ([.ref mo, .int 1, .int 0])).length) Slot.unset).toArray = ls at hl ⊢
  have hl : lv_has ls 3 [(0, .ref mo), (1, .int 1), (2, .int 0)] := hl
  have hP : va_P D vwCl [(mo, .inr (8, [.ref ms, .int sv, .ref mb, .int ty, .int th, .ref mk, .int ml, .ref mfd, .int mf, .int sp, .int on, .int tw]))] s.heap := hP
  refine lv_aload_n hx hb dX8_goes_0 rfl (lv_at hl 0 rfl) ?_
  refine lv_iload_n hx hb dX8_goes_1 rfl (lv_at hl 1 rfl) ?_
  refine lv_if_ne (tgt := 9) hx hb dX8_goes_2 (by decide) (fun _ => ?_) (fun c9 => absurd c9 (by decide))
  refine lv_iload_n hx hb dX8_goes_9 rfl (lv_at hl 2 rfl) ?_
  refine lv_if_ne (tgt := 17) hx hb dX8_goes_10 (by decide) (fun c9 => absurd (by decide) c9) (fun _ => ?_)
  refine lv_iconst (v := 2) hx hb dX8_goes_13 (by decide) ?_
  refine lv_goto (tgt := 18) hx hb dX8_goes_14 (by decide) ?_
  refine va_put (D := D) (ci := 8) (v := .int 2) (ty := .int) (C := RX8) (T := TX8) (N := 12) hx hb ht inA_X8 tyX8 tyX8_ok nmX8 hown hK hP hD hS 0 rfl rfl 4 (by decide) (ht _ lf_X8_23) (fun _ h9 => h9) rfl (tyX8_ok 4 (by decide)) rfl rfl (Nat.le_of_ble_eq_true rfl) dX8_goes_18 (fun H locs hP hD hS => ?_)
  have hP : va_P D vwCl [(mo, .inr (8, [.ref ms, .int sv, .ref mb, .int ty, .int 2, .ref mk, .int ml, .ref mfd, .int mf, .int sp, .int on, .int tw]))] H := hP
  have hD : va_D A [(mo, .inr (8, [.ref ms, .int sv, .ref mb, .int ty, .int 2, .ref mk, .int ml, .ref mfd, .int mf, .int sp, .int on, .int tw]))] := hD
  refine lv_aload_n hx hb dX8_goes_21 rfl (lv_at hl 0 rfl) ?_
  refine va_get (D := D) (ci := 8) (v := .int 2) (C := RX8) (T := TX8) (N := 12) hx hb ht inA_X8 hown hK hP 0 rfl rfl 4 (by decide) (ht _ lf_X8_23) (fun _ h9 => h9) rfl dX8_goes_22 ?_
  refine lv_if_ne (tgt := 32) hx hb dX8_goes_25 (by decide) (fun _ => ?_) (fun c9 => absurd c9 (by decide))
  refine lv_iconst (v := 0) hx hb dX8_goes_32 (by decide) ?_
  have hP9 : va_P D vwCl [(mo, .inr (8, [.ref ms, .int sv, .ref mb, .int ty, .int 2, .ref mk, .int ml, .ref mfd, .int mf, .int sp, .int on, .int tw]))] H := hP.sub [0] rfl
  have hD9 : va_D A [(mo, .inr (8, [.ref ms, .int sv, .ref mb, .int ty, .int 2, .ref mk, .int ml, .ref mfd, .int mf, .int sp, .int on, .int tw]))] := hD.sub [0] (by decide) rfl
  have hK9 : va_K D vwCl [] s := hK.sub [] rfl
  exact W.zret (v := 0) hx hb hr (rfl) (fun t ht9 hW9 => ⟨⟨0, (), rfl, by first | rfl | trivial | (simp only [if_true, if_false, reduceIte, and_self]; done) | simp_all, ⟨by rw [ht9]; exact hP9, va_K.moved hW9.alike hK9, hD9⟩⟩, hS.F ht9⟩) hS.2.2 dX8_goes_33
set_option maxHeartbeats 4000000 in
set_option maxRecDepth 100000 in
theorem c_M_thrown (l : Launch) (D : va_G) (mo : Nat) (ms : Nat) (sv : Int32) (mb : Nat) (ty : Int32) (th : Int32) (mk : Nat) (ml : Int32) (mfd : Nat) (mf : Int32) (sp : Int32) (on : Int32) (tw : Int32) (sz : Nat) : k_Mi (S := Unit) l D yX8_thrown cX8_thrown 1 (some .int) 0 0 0 0 [.ref mo] [(mo, .inr (8, [.ref ms, .int sv, .ref mb, .int ty, .int th, .ref mk, .int ml, .ref mfd, .int mf, .int sp, .int on, .int tw]))] [] (fun (r : Int32) (_ : Unit) => r = th) (fun _ => [(mo, .inr (8, [.ref ms, .int sv, .ref mb, .int ty, .int th, .ref mk, .int ml, .ref mfd, .int mf, .int sp, .int on, .int tw]))]) (fun _ => []) sz := by
  refine Met.ofW (cc := cX8_thrown) (maxL := 1) (ret := (some .int)) (by decide) rfl ?_
  intro p e s m args below meth c s₁ B hml hv
  obtain ⟨rfl, hsz, hP, hK, hD0, hG⟩ := hv
  have hx := B.exec
  have hb := B.bytes
  have hr := B.returns
  have ht : ∀ v9 ∈ wsA, v9.before ([.ref mo] : List Value).toArray s = true := fun v9 h9 => atoms_spec (ws := k_ws yX8_thrown cX8_thrown 1 (some .int)) B.pre v9 (List.mem_cons_of_mem _ h9)
  have hown : s.vm.findClass RX8 = some m.cls := findClass_of_methodNamed B.named
  have S0 : k_C p s m ([.ref mo] : List Value).toArray c cX8_thrown 1 RX8 := ⟨hx, hb, hml, hown, ht⟩
  have hlocks := B.notSynchronized
  subst hsz
  have hD := hD0.self (sz := s.heap.size)
  generalize hAe : va_A [(mo, .inr (8, [.ref ms, .int sv, .ref mb, .int ty, .int th, .ref mk, .int ml, .ref mfd, .int mf, .int sp, .int on, .int tw]))] s.heap.size = A at hD hG ⊢
  have hA : ∀ q : Nat, s.heap.size ≤ q → A q := fun q h => by rw [← hAe]; exact Or.inr h
  have hS : va_S A s.heap s.heap [] := va_S.rf
  have hl := lv_entry ([.ref mo]) (n := 1) (Nat.le_of_ble_eq_true rfl)
  rw [lg_entry_eq]
  generalize (lg_sl ([.ref mo]) ++ List.replicate (1 - (lg_sl ([.ref mo])).length) Slot.unset).toArray = ls at hl ⊢
  have hl : lv_has ls 1 [(0, .ref mo)] := hl
  have hP : va_P D vwCl [(mo, .inr (8, [.ref ms, .int sv, .ref mb, .int ty, .int th, .ref mk, .int ml, .ref mfd, .int mf, .int sp, .int on, .int tw]))] s.heap := hP
  refine lv_aload_n hx hb dX8_thrown_0 rfl (lv_at hl 0 rfl) ?_
  refine va_get (D := D) (ci := 8) (v := .int th) (C := RX8) (T := TX8) (N := 12) hx hb ht inA_X8 hown hK hP 0 rfl rfl 4 (by decide) (ht _ lf_X8_23) (fun _ h9 => h9) rfl dX8_thrown_1 ?_
  have hP9 : va_P D vwCl [(mo, .inr (8, [.ref ms, .int sv, .ref mb, .int ty, .int th, .ref mk, .int ml, .ref mfd, .int mf, .int sp, .int on, .int tw]))] s.heap := hP.sub [0] rfl
  have hD9 : va_D A [(mo, .inr (8, [.ref ms, .int sv, .ref mb, .int ty, .int th, .ref mk, .int ml, .ref mfd, .int mf, .int sp, .int on, .int tw]))] := hD.sub [0] (by decide) rfl
  have hK9 : va_K D vwCl [] s := hK.sub [] rfl
  exact W.iret (v := th) hx hb hr (fun t ht9 hW9 => ⟨⟨th, (), rfl, by first | rfl | trivial | (simp only [if_true, if_false, reduceIte, and_self]; done) | simp_all, ⟨by rw [ht9]; exact hP9, va_K.moved hW9.alike hK9, hD9⟩⟩, hS.F ht9⟩) hS.2.2 dX8_thrown_4
/-! ===== numbers of the reference ===== -/
def absF (v : Int32) : Int32 := if 0 ≤ v then v else -v
def patF (d : Nat) : Int32 := [3211, 2221, 2122, 1411, 1132, 1231, 1114, 1312, 1213, 3112].getD d 0
theorem wdt_0 : ∀ d, d ≤ 9 → patF d / 10 / 10 / 10 - patF d / 10 / 10 / 10 / 10 * 10 = wdt (4 * d + 0) := by decide +kernel
theorem wdt_1 : ∀ d, d ≤ 9 → patF d / 10 / 10 - patF d / 10 / 10 / 10 * 10 = wdt (4 * d + 1) := by decide +kernel
theorem wdt_2 : ∀ d, d ≤ 9 → patF d / 10 - patF d / 10 / 10 * 10 = wdt (4 * d + 2) := by decide +kernel
theorem wdt_3 : ∀ d, d ≤ 9 → patF d - patF d / 10 * 10 = wdt (4 * d + 3) := by decide +kernel
/-- a label's elements -/
def lnN (nd : Nat) : Nat := if nd = 0 then 0 else 4 * nd + 5
theorem lnN_0 {nd : Nat} (h : nd = 0) : lnN nd = 0 := if_pos h
theorem lnN_1 {nd : Nat} (h : ¬ nd = 0) : lnN nd = 4 * nd + 5 := if_neg h
theorem lnN_41 {nd : Nat} (h : nd ≤ 9) : lnN nd ≤ 41 := by
  unfold lnN
  split <;> omega
theorem lnN_or (nd : Nat) : (nd = 0 ∧ lnN nd = 0) ∨ (¬ nd = 0 ∧ lnN nd = 4 * nd + 5) := by
  by_cases h : nd = 0
  · exact Or.inl ⟨h, lnN_0 h⟩
  · exact Or.inr ⟨h, lnN_1 h⟩
theorem ew_9 {ns nd e : Nat} (hns : ns = lnN nd) (he : e < ns) : 9 ≤ ns := by
  have := lnN_or nd
  omega
theorem ew_41 {ns nd : Nat} (hns : ns = lnN nd) (h : nd ≤ 9) : ns ≤ 41 := by rw [hns]; exact lnN_41 h
theorem ew_lt {e ns nd : Nat} (hns : ns = lnN nd) (h9 : nd ≤ 9) (hen : e < ns) (h2 : ¬ nI e = nI ns - 2) (h1 : ¬ nI e = nI ns - 1) : ns = 4 * nd + 5 ∧ e < ns - 2 := by
  have h := lnN_or nd
  refine ⟨by omega, ?_⟩
  rcases Nat.lt_or_ge e (ns - 2) with q | q
  · exact q
  · rcases (show e = ns - 2 ∨ e = ns - 1 by omega) with e9 | e9
    · exact absurd (by rw [e9]; exact (pk_sub (b := 2) (by omega)).symm) h2
    · exact absurd (by rw [e9]; exact (pk_sub (b := 1) (by omega)).symm) h1
theorem wid_in {nd ns k i d : Nat} {df : Nat → Int32} (hn : nd ≤ 9) (hs : ns = 4 * nd + 5) (hk : k < nd) (hi : i < 4) (hd : d ≤ 9) (h : df k = nI d) : widF nd df (nI ns) (nI (3 + 4 * k + i)) = wdt (4 * d + i) := by
  have e1 : nI (3 + 4 * k + i) - 3 = nI (4 * k + i) := by
    rw [show (3 : Int32) = nI 3 from rfl, pk_sub (by omega), show 3 + 4 * k + i - 3 = 4 * k + i from by omega]
  have e2 : nI (4 * k + i) / 4 = nI k := by
    rw [show (4 : Int32) = nI 4 from rfl, pk_div (by omega) (by omega) (by omega), show (4 * k + i) / 4 = k from by omega]
  have e3 : nI (4 * k + i) - nI k * 4 = nI i := by
    rw [show (4 : Int32) = nI 4 from rfl, pk_mul, pk_sub (by omega), show 4 * k + i - k * 4 = i from by omega]
  have ep : plF nd df (nI (3 + 4 * k + i)) = nI (4 * d + i) := by
    unfold plF
    rw [e1, e2, e3, rowAt_lt hk hn (by decide), h, show (4 : Int32) = nI 4 from rfl, pk_mul, nI_add]
  unfold widF
  rw [ep, if_neg (show ¬ nI (3 + 4 * k + i) < (3 : Int32) from nI_nlt (b := 3) (by omega) (by omega)), if_neg ?_, if_pos ?_, if_neg (nI_pos (by omega)), if_neg (show ¬ (40 : Int32) ≤ nI (4 * d + i) from nI_ge (b := 40) (by omega) (by decide)), nI_clamp (by omega)]
  · rw [show (1 : Int32) = nI 1 from rfl, pk_sub (by omega)]
    exact nI_lt (by omega) (by omega)
  · rw [show (2 : Int32) = nI 2 from rfl, pk_sub (by omega)]
    intro q
    have := (fa_eq _ _).mp q
    rw [nI_toInt (by omega), nI_toInt (by omega)] at this
    omega
theorem wid_g {nd ns : Nat} {df : Nat → Int32} {e : Int32} (h : e < 3) : widF nd df (nI ns) e = 1 := if_pos h
theorem wid_s {nd ns : Nat} {df : Nat → Int32} (h : 9 ≤ ns) (h2 : ns ≤ 41) : widF nd df (nI ns) (nI ns - 2) = 1 ∧ widF nd df (nI ns) (nI ns - 1) = 2 := by
  have e2 : nI ns - 2 = nI (ns - 2) := pk_sub (b := 2) (by omega)
  have e1 : nI ns - 1 = nI (ns - 1) := pk_sub (b := 1) (by omega)
  constructor
  · unfold widF
    rw [if_neg (show ¬ nI ns - 2 < (3 : Int32) by rw [e2]; exact nI_nlt (b := 3) (by omega) (by omega)), if_pos rfl]
  · unfold widF
    rw [if_neg (show ¬ nI ns - 1 < (3 : Int32) by rw [e1]; exact nI_nlt (b := 3) (by omega) (by omega)), if_neg ?_, if_neg ?_]
    · rw [fa_lt]; omega
    · rw [e1, e2]
      intro q
      have := (fa_eq _ _).mp q
      rw [nI_toInt (by omega), nI_toInt (by omega)] at this
      omega
theorem ew_in {nd ns e d : Nat} {df : Nat → Int32} (hn : nd ≤ 9) (hs : ns = 4 * nd + 5) (h3 : 3 ≤ e) (he : e < ns - 2) (hd : d ≤ 9) (h : df ((e - 3) / 4) = nI d) : wdt (4 * d + (e - 3) % 4) = widF nd df (nI ns) (nI e) := by
  have h9 := wid_in (i := (e - 3) % 4) hn hs (k := (e - 3) / 4) (by omega) (by omega) hd h
  rw [show 3 + 4 * ((e - 3) / 4) + (e - 3) % 4 = e from by omega] at h9
  exact h9.symm
theorem in_1 {v : Int32} {n : Nat} (hn : n ≤ 41) (h : inR v (nI n) = 1) : ¬ v < 0 ∧ ¬ nI n - 1 < v := by
  unfold inR at h
  by_cases h0 : v < 0
  · rw [if_pos h0] at h
    exact absurd h (by decide)
  · rw [if_neg h0] at h
    by_cases h1 : nI n ≤ v
    · rw [if_pos h1] at h
      exact absurd h (by decide)
    · refine ⟨h0, fun q => h1 ?_⟩
      rw [fa_lt, show (1 : Int32) = nI 1 from rfl, pk_sub_toInt (by omega) (by decide)] at q
      rw [fa_le, nI_toInt (by omega)]
      omega
theorem in_0 {v : Int32} {n : Nat} (hn : n ≤ 41) (h : inR v (nI n) = 0) : v < 0 ∨ nI n - 1 < v := by
  unfold inR at h
  by_cases h0 : v < 0
  · exact Or.inl h0
  · rw [if_neg h0] at h
    by_cases h1 : nI n ≤ v
    · refine Or.inr ?_
      rw [fa_lt, show (1 : Int32) = nI 1 from rfl, pk_sub_toInt (by omega) (by decide)]
      rw [fa_le, nI_toInt (by omega)] at h1
      omega
    · rw [if_neg h1] at h
      exact absurd h (by decide)
theorem inR_or (x n : Int32) : inR x n = 1 ∨ inR x n = 0 := by
  unfold inR
  by_cases h0 : x < 0
  · rw [if_pos h0]; exact Or.inr rfl
  · rw [if_neg h0]
    by_cases h1 : n ≤ x
    · rw [if_pos h1]; exact Or.inr rfl
    · rw [if_neg h1]; exact Or.inl rfl
theorem inR_nat {x : Int32} {n : Nat} (hn : n ≤ 41) (h : inR x (nI n) = 1) : ∃ e : Nat, e < n ∧ x = nI e := by
  obtain ⟨h0, h1⟩ := in_1 hn h
  rcases pk_ix x (n := n) (by omega) with q | q | q
  · exact absurd q h0
  · refine absurd ?_ h1
    rw [fa_lt, show (1 : Int32) = nI 1 from rfl, pk_sub_toInt (by omega) (by decide)]
    rw [fa_le, nI_toInt (by omega)] at q
    omega
  · exact q
theorem chk_ix {j k : Nat} (h : k < j) : nI j - 1 - nI k = nI (j - 1 - k) := by
  rw [show (1 : Int32) = nI 1 from rfl, pk_sub (by omega), pk_sub (by omega)]
/-- where the m-th time goes -/
def llP (ns : Nat) (b : Int32) (m : Nat) : Nat := if b = 0 then m else ns - 1 - m
theorem llP_lt {ns m : Nat} {b : Int32} (h : m + 1 ≤ ns) (h41 : ns ≤ 41) : llP ns b m < 41 := by
  unfold llP
  split <;> omega
theorem llP_lt2 {ns m : Nat} {b : Int32} (h : m + 1 ≤ ns) (h41 : ns ≤ 41) : llP ns b m < 2 ^ 31 := by
  have := llP_lt (b := b) h h41
  omega
theorem llP_inj {ns m i : Nat} {b : Int32} (hm : m < ns) (hi : i < ns) (h : m ≠ i) : llP ns b m ≠ llP ns b i := by
  unfold llP
  split <;> omega
theorem llP_llP {ns m : Nat} {b : Int32} (hm : m < ns) : llP ns b (llP ns b m) = m ∧ llP ns b m < ns := by
  unfold llP
  by_cases h : b = 0
  · rw [if_pos h, if_pos h]
    exact ⟨rfl, hm⟩
  · rw [if_neg h, if_neg h]
    omega
theorem ll_s {ns i : Nat} {b : Int32} {lg : Nat → Int32} (T : Nat → Int32) (h : ∀ m, m < i → lg (llP ns b m) = T m) (hi : i + 1 ≤ ns) : ∀ m, m < i + 1 → upd lg (llP ns b i) (T i) (llP ns b m) = T m := fun m hm => by
  by_cases e : m = i
  · rw [e]; exact pk_us
  · rw [pk_un (llP_inj (by omega) (by omega) e)]
    exact h m (by omega)
theorem mx1_nI {n : Nat} (h : 2 ≤ n) (hn : n ≤ 41) : mx1 (nI n - 1) = nI (n - 1) := by
  rw [show nI n - 1 = nI (n - 1) from pk_sub (b := 1) (by omega)]
  exact if_neg (nI_nlt (b := 1) (by omega) (by omega))
theorem ll_q {nd ns : Nat} {df : Nat → Int32} {e z l r : Int32} (h9 : 9 ≤ ns) (h41 : ns ≤ 41) : timF nd df (nI ns) e z l r = mx1 ((10 * widF nd df (nI ns) e + z) * (l * (nI (ns - 1) - e) + r * e) / (10 * nI (ns - 1))) := by
  unfold timF
  rw [mx1_nI (by omega) h41]
theorem ll_1 {nd ns : Nat} {df : Nat → Int32} {e z l r : Int32} (h9 : 9 ≤ ns) (h41 : ns ≤ 41) (h : ¬ 1 ≤ ((10 * widF nd df (nI ns) e + z) * (l * (nI (ns - 1) - e) + r * e) / (10 * nI (ns - 1)))) : 1 = timF nd df (nI ns) e z l r := by
  rw [ll_q h9 h41]
  exact (if_pos (fa_of_nle h)).symm
theorem ll_2 {nd ns : Nat} {df : Nat → Int32} {e z l r : Int32} (h9 : 9 ≤ ns) (h41 : ns ≤ 41) (h : 1 ≤ ((10 * widF nd df (nI ns) e + z) * (l * (nI (ns - 1) - e) + r * e) / (10 * nI (ns - 1)))) : ((10 * widF nd df (nI ns) e + z) * (l * (nI (ns - 1) - e) + r * e) / (10 * nI (ns - 1))) = timF nd df (nI ns) e z l r := by
  rw [ll_q h9 h41]
  exact (if_neg (Int32.not_lt.mpr h)).symm
theorem ll_ne' : ∀ n, n ≤ 41 → 9 ≤ n → ¬ 10 * nI (n - 1) = 0 := by decide +kernel
theorem ll_ne {n : Nat} (h9 : 9 ≤ n) (h : n ≤ 41) : ¬ 10 * nI (n - 1) = 0 := ll_ne' n h h9
theorem elF_llP {ns m : Nat} {b : Int32} (h : m < ns) : elF (nI ns) b m = nI (llP ns b m) := by
  unfold elF llP
  by_cases hb : b = 0
  · rw [if_pos hb, if_pos hb]
  · rw [if_neg hb, if_neg hb]
    exact chk_ix h
theorem ll_end {nd ns : Nat} {df zf lg : Nat → Int32} {l r b : Int32} (h41 : ns ≤ 41) (h : ∀ m, m < ns → lg (llP ns b m) = timF nd df (nI ns) (nI m) (zf m) l r) {j : Nat} (hj : j < ns) : lg j = drwF nd df ns zf l r b j := by
  obtain ⟨e1, e2⟩ := llP_llP (b := b) hj
  have h1 := h _ e2
  rw [e1] at h1
  unfold drwF
  rw [elF_llP hj, rowAt_lt e2 h41 (by decide)]
  exact h1

set_option maxHeartbeats 4000000 in
set_option maxRecDepth 100000 in
theorem c_M_size (l : Launch) (D : va_G) (v : Int32) (sz : Nat) : k_Mi (S := Unit) l D yX8_size cX8_size 1 (some .int) 0 0 0 0 [.int v] [] [] (fun (r : Int32) (_ : Unit) => r = (absF v)) (fun _ => []) (fun _ => []) sz := by
  refine Met.ofW (cc := cX8_size) (maxL := 1) (ret := (some .int)) (by decide) rfl ?_
  intro p e s m args below meth c s₁ B hml hv
  obtain ⟨rfl, hsz, hP, hK, hD0, hG⟩ := hv
  have hx := B.exec
  have hb := B.bytes
  have hr := B.returns
  have ht : ∀ v9 ∈ wsA, v9.before ([.int v] : List Value).toArray s = true := fun v9 h9 => atoms_spec (ws := k_ws yX8_size cX8_size 1 (some .int)) B.pre v9 (List.mem_cons_of_mem _ h9)
  have hown : s.vm.findClass RX8 = some m.cls := findClass_of_methodNamed B.named
  have S0 : k_C p s m ([.int v] : List Value).toArray c cX8_size 1 RX8 := ⟨hx, hb, hml, hown, ht⟩
  have hlocks := B.notSynchronized
  subst hsz
  have hD := hD0.self (sz := s.heap.size)
  generalize hAe : va_A [] s.heap.size = A at hD hG ⊢
  have hA : ∀ q : Nat, s.heap.size ≤ q → A q := fun q h => by rw [← hAe]; exact Or.inr h
  have hS : va_S A s.heap s.heap [] := va_S.rf
  have hl := lv_entry ([.int v]) (n := 1) (Nat.le_of_ble_eq_true rfl)
  rw [lg_entry_eq]
  generalize (lg_sl ([.int v]) ++ List.replicate (1 - (lg_sl ([.int v])).length) Slot.unset).toArray = ls at hl ⊢
  have hl : lv_has ls 1 [(0, .int v)] := hl
  have hP : va_P D vwCl [] s.heap := hP
  refine lv_iload_n hx hb dX8_size_0 rfl (lv_at hl 0 rfl) ?_
  refine lv_if_ge (tgt := 9) hx hb dX8_size_1 (by decide) (fun c_1 => ?_) (fun c_1 => ?_)
  · have hc9 := c_1
    refine lv_iload_n hx hb dX8_size_9 rfl (lv_at hl 0 rfl) ?_
    have hP9 : va_P D vwCl [] s.heap := hP.sub [] rfl
    have hD9 : va_D A [] := hD.sub [] (by decide) rfl
    have hK9 : va_K D vwCl [] s := hK.sub [] rfl
    exact W.iret (v := v) hx hb hr (fun t ht9 hW9 => ⟨⟨v, (), rfl, by first | rfl | trivial | (simp only [absF, c_1, if_true, if_false, reduceIte, and_self]; done) | simp_all, ⟨by rw [ht9]; exact hP9, va_K.moved hW9.alike hK9, hD9⟩⟩, hS.F ht9⟩) hS.2.2 dX8_size_10
  · have hc9 := c_1
    refine lv_iload_n hx hb dX8_size_4 rfl (lv_at hl 0 rfl) ?_
    refine lv_ineg hx hb dX8_size_5 ?_
    refine lv_topi (fun x_2 ex_2 => ?_)
    refine lv_goto (tgt := 10) hx hb dX8_size_6 (by decide) ?_
    have hP9 : va_P D vwCl [] s.heap := hP.sub [] rfl
    have hD9 : va_D A [] := hD.sub [] (by decide) rfl
    have hK9 : va_K D vwCl [] s := hK.sub [] rfl
    exact W.iret (v := x_2) hx hb hr (fun t ht9 hW9 => ⟨⟨x_2, (), rfl, by first | rfl | trivial | (simp only [absF, c_1, ex_2, if_true, if_false, reduceIte, and_self]; done) | simp_all, ⟨by rw [ht9]; exact hP9, va_K.moved hW9.alike hK9, hD9⟩⟩, hS.F ht9⟩) hS.2.2 dX8_size_10
set_option maxHeartbeats 4000000 in
set_option maxRecDepth 100000 in
theorem c_M_pattern (l : Launch) (D : va_G) (d : Nat) (hd : d ≤ 9) (sz : Nat) : k_Mi (S := Unit) l D yX8_pattern cX8_pattern 1 (some .int) 0 0 0 0 [.int (nI d)] [] [] (fun (r : Int32) (_ : Unit) => r = (patF d)) (fun _ => []) (fun _ => []) sz := by
  refine Met.ofW (cc := cX8_pattern) (maxL := 1) (ret := (some .int)) (by decide) rfl ?_
  intro p e s m args below meth c s₁ B hml hv
  obtain ⟨rfl, hsz, hP, hK, hD0, hG⟩ := hv
  have hx := B.exec
  have hb := B.bytes
  have hr := B.returns
  have ht : ∀ v9 ∈ wsA, v9.before ([.int (nI d)] : List Value).toArray s = true := fun v9 h9 => atoms_spec (ws := k_ws yX8_pattern cX8_pattern 1 (some .int)) B.pre v9 (List.mem_cons_of_mem _ h9)
  have hown : s.vm.findClass RX8 = some m.cls := findClass_of_methodNamed B.named
  have S0 : k_C p s m ([.int (nI d)] : List Value).toArray c cX8_pattern 1 RX8 := ⟨hx, hb, hml, hown, ht⟩
  have hlocks := B.notSynchronized
  subst hsz
  have hD := hD0.self (sz := s.heap.size)
  generalize hAe : va_A [] s.heap.size = A at hD hG ⊢
  have hA : ∀ q : Nat, s.heap.size ≤ q → A q := fun q h => by rw [← hAe]; exact Or.inr h
  have hS : va_S A s.heap s.heap [] := va_S.rf
  have hl := lv_entry ([.int (nI d)]) (n := 1) (Nat.le_of_ble_eq_true rfl)
  rw [lg_entry_eq]
  generalize (lg_sl ([.int (nI d)]) ++ List.replicate (1 - (lg_sl ([.int (nI d)])).length) Slot.unset).toArray = ls at hl ⊢
  have hl : lv_has ls 1 [(0, .int (nI d))] := hl
  have hP : va_P D vwCl [] s.heap := hP
  refine lv_iload_n hx hb dX8_pattern_0 rfl (lv_at hl 0 rfl) ?_
  rcases (show d = 0 ∨ d = 1 ∨ d = 2 ∨ d = 3 ∨ d = 4 ∨ d = 5 ∨ d = 6 ∨ d = 7 ∨ d = 8 ∨ d = 9 by omega) with rfl | rfl | rfl | rfl | rfl | rfl | rfl | rfl | rfl | rfl
  · refine k_nrm (y := 0) rfl ?_
    refine lv_tableIn (x := 0) (off := 51) (tgt := 52) hx hb dX8_pattern_1 (by decide) (by decide) (by decide) (by decide) ?_
    refine lv_sipush (v := 3211) hx hb dX8_pattern_52 (by decide) ?_
    have hP9 : va_P D vwCl [] s.heap := hP.sub [] rfl
    have hD9 : va_D A [] := hD.sub [] (by decide) rfl
    have hK9 : va_K D vwCl [] s := hK.sub [] rfl
    exact W.iret (v := 3211) hx hb hr (fun t ht9 hW9 => ⟨⟨3211, (), rfl, by rfl, ⟨by rw [ht9]; exact hP9, va_K.moved hW9.alike hK9, hD9⟩⟩, hS.F ht9⟩) hS.2.2 dX8_pattern_55
  · refine k_nrm (y := 1) rfl ?_
    refine lv_tableIn (x := 1) (off := 55) (tgt := 56) hx hb dX8_pattern_1 (by decide) (by decide) (by decide) (by decide) ?_
    refine lv_sipush (v := 2221) hx hb dX8_pattern_56 (by decide) ?_
    have hP9 : va_P D vwCl [] s.heap := hP.sub [] rfl
    have hD9 : va_D A [] := hD.sub [] (by decide) rfl
    have hK9 : va_K D vwCl [] s := hK.sub [] rfl
    exact W.iret (v := 2221) hx hb hr (fun t ht9 hW9 => ⟨⟨2221, (), rfl, by rfl, ⟨by rw [ht9]; exact hP9, va_K.moved hW9.alike hK9, hD9⟩⟩, hS.F ht9⟩) hS.2.2 dX8_pattern_59
  · refine k_nrm (y := 2) rfl ?_
    refine lv_tableIn (x := 2) (off := 59) (tgt := 60) hx hb dX8_pattern_1 (by decide) (by decide) (by decide) (by decide) ?_
    refine lv_sipush (v := 2122) hx hb dX8_pattern_60 (by decide) ?_
    have hP9 : va_P D vwCl [] s.heap := hP.sub [] rfl
    have hD9 : va_D A [] := hD.sub [] (by decide) rfl
    have hK9 : va_K D vwCl [] s := hK.sub [] rfl
    exact W.iret (v := 2122) hx hb hr (fun t ht9 hW9 => ⟨⟨2122, (), rfl, by rfl, ⟨by rw [ht9]; exact hP9, va_K.moved hW9.alike hK9, hD9⟩⟩, hS.F ht9⟩) hS.2.2 dX8_pattern_63
  · refine k_nrm (y := 3) rfl ?_
    refine lv_tableIn (x := 3) (off := 63) (tgt := 64) hx hb dX8_pattern_1 (by decide) (by decide) (by decide) (by decide) ?_
    refine lv_sipush (v := 1411) hx hb dX8_pattern_64 (by decide) ?_
    have hP9 : va_P D vwCl [] s.heap := hP.sub [] rfl
    have hD9 : va_D A [] := hD.sub [] (by decide) rfl
    have hK9 : va_K D vwCl [] s := hK.sub [] rfl
    exact W.iret (v := 1411) hx hb hr (fun t ht9 hW9 => ⟨⟨1411, (), rfl, by rfl, ⟨by rw [ht9]; exact hP9, va_K.moved hW9.alike hK9, hD9⟩⟩, hS.F ht9⟩) hS.2.2 dX8_pattern_67
  · refine k_nrm (y := 4) rfl ?_
    refine lv_tableIn (x := 4) (off := 67) (tgt := 68) hx hb dX8_pattern_1 (by decide) (by decide) (by decide) (by decide) ?_
    refine lv_sipush (v := 1132) hx hb dX8_pattern_68 (by decide) ?_
    have hP9 : va_P D vwCl [] s.heap := hP.sub [] rfl
    have hD9 : va_D A [] := hD.sub [] (by decide) rfl
    have hK9 : va_K D vwCl [] s := hK.sub [] rfl
    exact W.iret (v := 1132) hx hb hr (fun t ht9 hW9 => ⟨⟨1132, (), rfl, by rfl, ⟨by rw [ht9]; exact hP9, va_K.moved hW9.alike hK9, hD9⟩⟩, hS.F ht9⟩) hS.2.2 dX8_pattern_71
  · refine k_nrm (y := 5) rfl ?_
    refine lv_tableIn (x := 5) (off := 71) (tgt := 72) hx hb dX8_pattern_1 (by decide) (by decide) (by decide) (by decide) ?_
    refine lv_sipush (v := 1231) hx hb dX8_pattern_72 (by decide) ?_
    have hP9 : va_P D vwCl [] s.heap := hP.sub [] rfl
    have hD9 : va_D A [] := hD.sub [] (by decide) rfl
    have hK9 : va_K D vwCl [] s := hK.sub [] rfl
    exact W.iret (v := 1231) hx hb hr (fun t ht9 hW9 => ⟨⟨1231, (), rfl, by rfl, ⟨by rw [ht9]; exact hP9, va_K.moved hW9.alike hK9, hD9⟩⟩, hS.F ht9⟩) hS.2.2 dX8_pattern_75
  · refine k_nrm (y := 6) rfl ?_
    refine lv_tableIn (x := 6) (off := 75) (tgt := 76) hx hb dX8_pattern_1 (by decide) (by decide) (by decide) (by decide) ?_
    refine lv_sipush (v := 1114) hx hb dX8_pattern_76 (by decide) ?_
    have hP9 : va_P D vwCl [] s.heap := hP.sub [] rfl
    have hD9 : va_D A [] := hD.sub [] (by decide) rfl
    have hK9 : va_K D vwCl [] s := hK.sub [] rfl
    exact W.iret (v := 1114) hx hb hr (fun t ht9 hW9 => ⟨⟨1114, (), rfl, by rfl, ⟨by rw [ht9]; exact hP9, va_K.moved hW9.alike hK9, hD9⟩⟩, hS.F ht9⟩) hS.2.2 dX8_pattern_79
  · refine k_nrm (y := 7) rfl ?_
    refine lv_tableIn (x := 7) (off := 79) (tgt := 80) hx hb dX8_pattern_1 (by decide) (by decide) (by decide) (by decide) ?_
    refine lv_sipush (v := 1312) hx hb dX8_pattern_80 (by decide) ?_
    have hP9 : va_P D vwCl [] s.heap := hP.sub [] rfl
    have hD9 : va_D A [] := hD.sub [] (by decide) rfl
    have hK9 : va_K D vwCl [] s := hK.sub [] rfl
    exact W.iret (v := 1312) hx hb hr (fun t ht9 hW9 => ⟨⟨1312, (), rfl, by rfl, ⟨by rw [ht9]; exact hP9, va_K.moved hW9.alike hK9, hD9⟩⟩, hS.F ht9⟩) hS.2.2 dX8_pattern_83
  · refine k_nrm (y := 8) rfl ?_
    refine lv_tableIn (x := 8) (off := 83) (tgt := 84) hx hb dX8_pattern_1 (by decide) (by decide) (by decide) (by decide) ?_
    refine lv_sipush (v := 1213) hx hb dX8_pattern_84 (by decide) ?_
    have hP9 : va_P D vwCl [] s.heap := hP.sub [] rfl
    have hD9 : va_D A [] := hD.sub [] (by decide) rfl
    have hK9 : va_K D vwCl [] s := hK.sub [] rfl
    exact W.iret (v := 1213) hx hb hr (fun t ht9 hW9 => ⟨⟨1213, (), rfl, by rfl, ⟨by rw [ht9]; exact hP9, va_K.moved hW9.alike hK9, hD9⟩⟩, hS.F ht9⟩) hS.2.2 dX8_pattern_87
  · refine k_nrm (y := 9) rfl ?_
    refine lv_tableOut (x := 9) (tgt := 88) hx hb dX8_pattern_1 (Or.inr (by decide)) (by decide) ?_
    refine lv_sipush (v := 3112) hx hb dX8_pattern_88 (by decide) ?_
    have hP9 : va_P D vwCl [] s.heap := hP.sub [] rfl
    have hD9 : va_D A [] := hD.sub [] (by decide) rfl
    have hK9 : va_K D vwCl [] s := hK.sub [] rfl
    exact W.iret (v := 3112) hx hb hr (fun t ht9 hW9 => ⟨⟨3112, (), rfl, by rfl, ⟨by rw [ht9]; exact hP9, va_K.moved hW9.alike hK9, hD9⟩⟩, hS.F ht9⟩) hS.2.2 dX8_pattern_91
set_option maxHeartbeats 4000000 in
set_option maxRecDepth 100000 in
theorem c_M_widthOf0 (l : Launch) (D : va_G) (d : Nat) (hd : d ≤ 9) (sz : Nat) : k_Mi (S := Unit) l D yX8_widthOf cX8_widthOf 4 (some .int) 1 0 0 20 [.int (nI d), .int 0] [] [] (fun (r : Int32) (_ : Unit) => r = (wdt (4 * d + 0))) (fun _ => []) (fun _ => []) sz := by
  refine Met.ofW (cc := cX8_widthOf) (maxL := 4) (ret := (some .int)) (by decide) rfl ?_
  intro p e s m args below meth c s₁ B hml hv
  obtain ⟨rfl, hsz, hP, hK, hD0, hG⟩ := hv
  have hx := B.exec
  have hb := B.bytes
  have hr := B.returns
  have ht : ∀ v9 ∈ wsA, v9.before ([.int (nI d), .int 0] : List Value).toArray s = true := fun v9 h9 => atoms_spec (ws := k_ws yX8_widthOf cX8_widthOf 4 (some .int)) B.pre v9 (List.mem_cons_of_mem _ h9)
  have hown : s.vm.findClass RX8 = some m.cls := findClass_of_methodNamed B.named
  have S0 : k_C p s m ([.int (nI d), .int 0] : List Value).toArray c cX8_widthOf 4 RX8 := ⟨hx, hb, hml, hown, ht⟩
  have hlocks := B.notSynchronized
  subst hsz
  have hD := hD0.self (sz := s.heap.size)
  generalize hAe : va_A [] s.heap.size = A at hD hG ⊢
  have hA : ∀ q : Nat, s.heap.size ≤ q → A q := fun q h => by rw [← hAe]; exact Or.inr h
  have hS : va_S A s.heap s.heap [] := va_S.rf
  have hl := lv_entry ([.int (nI d), .int 0]) (n := 4) (Nat.le_of_ble_eq_true rfl)
  rw [lg_entry_eq]
  generalize (lg_sl ([.int (nI d), .int 0]) ++ List.replicate (4 - (lg_sl ([.int (nI d), .int 0])).length) Slot.unset).toArray = ls at hl ⊢
  have hl : lv_has ls 4 [(0, .int (nI d)), (1, .int 0)] := hl
  have hP : va_P D vwCl [] s.heap := hP
  refine lv_iload_n hx hb dX8_widthOf_0 rfl (lv_at hl 0 rfl) ?_
  have ct := k_cut_of (wc := []) (wr := []) (tc := []) hG hS hA hK hP hD [] [] [] rfl rfl (by decide) (by decide) (by decide) rfl
  refine k_endi (As := [.int (nI d)]) ct (k_runS (As := [.int (nI d)]) (rest := []) S0 Ls_X8_34 ct (c_M_pattern l D d (by first | assumption | omega) s.heap.size) hl.1 rfl (Nat.le_of_ble_eq_true rfl) rfl dX8_widthOf_1 ⟨⟨Nat.le_of_ble_eq_true rfl, Nat.le_of_ble_eq_true rfl⟩, Nat.le_of_ble_eq_true rfl, Nat.le_of_ble_eq_true rfl⟩) rfl rfl (fun r_1 _ H locs hw_2 hP hD hK hS => ?_)
  have hK : va_K D vwCl [] s := hK
  have hP : va_P D vwCl [] H := hP
  have hD : va_D A [] := hD
  have hw_2 : r_1 = (patF d) := hw_2
  have hw_2 := hw_2.symm
  subst hw_2
  refine k_nrm (y := (patF d)) rfl ?_
  refine lv_istore_n (lv' := [(2, .int (patF d)), (0, .int (nI d)), (1, .int 0)]) hx hb dX8_widthOf_4 rfl hl (by decide) rfl (fun ls hl => ?_)
  refine lv_iload_n hx hb dX8_widthOf_5 rfl (lv_at hl 2 rfl) ?_
  refine lv_istore_n (lv' := [(3, .int 0), (2, .int (patF d)), (0, .int (nI d)), (1, .int 0)]) hx hb dX8_widthOf_6 rfl hl (by decide) rfl (fun ls hl => ?_)
  refine lv_iload_n hx hb dX8_widthOf_7 rfl (lv_at hl 0 rfl) ?_
  refine lv_iconst (v := 3) hx hb dX8_widthOf_8 (by decide) ?_
  refine lv_icmp_ge (tgt := 23) hx hb dX8_widthOf_9 (by decide) (fun c9 => absurd c9 (by decide)) (fun _ => ?_)
  refine lv_iload_n hx hb dX8_widthOf_12 rfl (lv_at hl 1 rfl) ?_
  refine lv_bipush (v := 10) hx hb dX8_widthOf_13 (by decide) ?_
  refine lv_idiv hx hb dX8_widthOf_15 (by decide) ?_
  refine k_nrm (y := ((patF d) / 10)) (rfl) ?_
  refine lv_istore_n (lv' := [(2, .int ((patF d) / 10)), (3, .int 0), (0, .int (nI d)), (1, .int 0)]) hx hb dX8_widthOf_16 rfl hl (by decide) rfl (fun ls hl => ?_)
  refine lv_iinc (v := 1) (lv' := [(3, .int 1), (2, .int ((patF d) / 10)), (0, .int (nI d)), (1, .int 0)]) hx hb dX8_widthOf_17 hl (k := 1) rfl (by decide) (by decide) rfl (fun ls hl => ?_)
  refine lv_goto (tgt := 7) hx hb dX8_widthOf_20 (by decide) ?_
  refine lv_iload_n hx hb dX8_widthOf_7 rfl (lv_at hl 0 rfl) ?_
  refine lv_iconst (v := 3) hx hb dX8_widthOf_8 (by decide) ?_
  refine lv_icmp_ge (tgt := 23) hx hb dX8_widthOf_9 (by decide) (fun c9 => absurd c9 (by decide)) (fun _ => ?_)
  refine lv_iload_n hx hb dX8_widthOf_12 rfl (lv_at hl 1 rfl) ?_
  refine lv_bipush (v := 10) hx hb dX8_widthOf_13 (by decide) ?_
  refine lv_idiv hx hb dX8_widthOf_15 (by decide) ?_
  refine k_nrm (y := (((patF d) / 10) / 10)) (rfl) ?_
  refine lv_istore_n (lv' := [(2, .int (((patF d) / 10) / 10)), (3, .int 1), (0, .int (nI d)), (1, .int 0)]) hx hb dX8_widthOf_16 rfl hl (by decide) rfl (fun ls hl => ?_)
  refine lv_iinc (v := 2) (lv' := [(3, .int 2), (2, .int (((patF d) / 10) / 10)), (0, .int (nI d)), (1, .int 0)]) hx hb dX8_widthOf_17 hl (k := 1) rfl (by decide) (by decide) rfl (fun ls hl => ?_)
  refine lv_goto (tgt := 7) hx hb dX8_widthOf_20 (by decide) ?_
  refine lv_iload_n hx hb dX8_widthOf_7 rfl (lv_at hl 0 rfl) ?_
  refine lv_iconst (v := 3) hx hb dX8_widthOf_8 (by decide) ?_
  refine lv_icmp_ge (tgt := 23) hx hb dX8_widthOf_9 (by decide) (fun c9 => absurd c9 (by decide)) (fun _ => ?_)
  refine lv_iload_n hx hb dX8_widthOf_12 rfl (lv_at hl 1 rfl) ?_
  refine lv_bipush (v := 10) hx hb dX8_widthOf_13 (by decide) ?_
  refine lv_idiv hx hb dX8_widthOf_15 (by decide) ?_
  refine k_nrm (y := ((((patF d) / 10) / 10) / 10)) (rfl) ?_
  refine lv_istore_n (lv' := [(2, .int ((((patF d) / 10) / 10) / 10)), (3, .int 2), (0, .int (nI d)), (1, .int 0)]) hx hb dX8_widthOf_16 rfl hl (by decide) rfl (fun ls hl => ?_)
  refine lv_iinc (v := 3) (lv' := [(3, .int 3), (2, .int ((((patF d) / 10) / 10) / 10)), (0, .int (nI d)), (1, .int 0)]) hx hb dX8_widthOf_17 hl (k := 1) rfl (by decide) (by decide) rfl (fun ls hl => ?_)
  refine lv_goto (tgt := 7) hx hb dX8_widthOf_20 (by decide) ?_
  refine lv_iload_n hx hb dX8_widthOf_7 rfl (lv_at hl 0 rfl) ?_
  refine lv_iconst (v := 3) hx hb dX8_widthOf_8 (by decide) ?_
  refine lv_icmp_ge (tgt := 23) hx hb dX8_widthOf_9 (by decide) (fun _ => ?_) (fun c9 => absurd (by decide) c9)
  refine lv_iload_n hx hb dX8_widthOf_23 rfl (lv_at hl 1 rfl) ?_
  refine lv_bipush (v := 10) hx hb dX8_widthOf_24 (by decide) ?_
  refine lv_irem hx hb dX8_widthOf_26 (by decide) ?_
  refine k_nrm (y := (wdt (4 * d + 0))) (wdt_0 d hd) ?_
  have hP9 : va_P D vwCl [] H := hP.sub [] rfl
  have hD9 : va_D A [] := hD.sub [] (by decide) rfl
  have hK9 : va_K D vwCl [] s := hK.sub [] rfl
  exact W.iret (v := (wdt (4 * d + 0))) hx hb hr (fun t ht9 hW9 => ⟨⟨(wdt (4 * d + 0)), (), rfl, by first | rfl | trivial | (simp only [if_true, if_false, reduceIte, and_self]; done) | simp_all, ⟨by rw [ht9]; exact hP9, va_K.moved hW9.alike hK9, hD9⟩⟩, hS.F ht9⟩) hS.2.2 dX8_widthOf_27
set_option maxHeartbeats 4000000 in
set_option maxRecDepth 100000 in
theorem c_M_widthOf1 (l : Launch) (D : va_G) (d : Nat) (hd : d ≤ 9) (sz : Nat) : k_Mi (S := Unit) l D yX8_widthOf cX8_widthOf 4 (some .int) 1 0 0 20 [.int (nI d), .int 1] [] [] (fun (r : Int32) (_ : Unit) => r = (wdt (4 * d + 1))) (fun _ => []) (fun _ => []) sz := by
  refine Met.ofW (cc := cX8_widthOf) (maxL := 4) (ret := (some .int)) (by decide) rfl ?_
  intro p e s m args below meth c s₁ B hml hv
  obtain ⟨rfl, hsz, hP, hK, hD0, hG⟩ := hv
  have hx := B.exec
  have hb := B.bytes
  have hr := B.returns
  have ht : ∀ v9 ∈ wsA, v9.before ([.int (nI d), .int 1] : List Value).toArray s = true := fun v9 h9 => atoms_spec (ws := k_ws yX8_widthOf cX8_widthOf 4 (some .int)) B.pre v9 (List.mem_cons_of_mem _ h9)
  have hown : s.vm.findClass RX8 = some m.cls := findClass_of_methodNamed B.named
  have S0 : k_C p s m ([.int (nI d), .int 1] : List Value).toArray c cX8_widthOf 4 RX8 := ⟨hx, hb, hml, hown, ht⟩
  have hlocks := B.notSynchronized
  subst hsz
  have hD := hD0.self (sz := s.heap.size)
  generalize hAe : va_A [] s.heap.size = A at hD hG ⊢
  have hA : ∀ q : Nat, s.heap.size ≤ q → A q := fun q h => by rw [← hAe]; exact Or.inr h
  have hS : va_S A s.heap s.heap [] := va_S.rf
  have hl := lv_entry ([.int (nI d), .int 1]) (n := 4) (Nat.le_of_ble_eq_true rfl)
  rw [lg_entry_eq]
  generalize (lg_sl ([.int (nI d), .int 1]) ++ List.replicate (4 - (lg_sl ([.int (nI d), .int 1])).length) Slot.unset).toArray = ls at hl ⊢
  have hl : lv_has ls 4 [(0, .int (nI d)), (1, .int 1)] := hl
  have hP : va_P D vwCl [] s.heap := hP
  refine lv_iload_n hx hb dX8_widthOf_0 rfl (lv_at hl 0 rfl) ?_
  have ct := k_cut_of (wc := []) (wr := []) (tc := []) hG hS hA hK hP hD [] [] [] rfl rfl (by decide) (by decide) (by decide) rfl
  refine k_endi (As := [.int (nI d)]) ct (k_runS (As := [.int (nI d)]) (rest := []) S0 Ls_X8_34 ct (c_M_pattern l D d (by first | assumption | omega) s.heap.size) hl.1 rfl (Nat.le_of_ble_eq_true rfl) rfl dX8_widthOf_1 ⟨⟨Nat.le_of_ble_eq_true rfl, Nat.le_of_ble_eq_true rfl⟩, Nat.le_of_ble_eq_true rfl, Nat.le_of_ble_eq_true rfl⟩) rfl rfl (fun r_1 _ H locs hw_2 hP hD hK hS => ?_)
  have hK : va_K D vwCl [] s := hK
  have hP : va_P D vwCl [] H := hP
  have hD : va_D A [] := hD
  have hw_2 : r_1 = (patF d) := hw_2
  have hw_2 := hw_2.symm
  subst hw_2
  refine k_nrm (y := (patF d)) rfl ?_
  refine lv_istore_n (lv' := [(2, .int (patF d)), (0, .int (nI d)), (1, .int 1)]) hx hb dX8_widthOf_4 rfl hl (by decide) rfl (fun ls hl => ?_)
  refine lv_iload_n hx hb dX8_widthOf_5 rfl (lv_at hl 2 rfl) ?_
  refine lv_istore_n (lv' := [(3, .int 1), (2, .int (patF d)), (0, .int (nI d)), (1, .int 1)]) hx hb dX8_widthOf_6 rfl hl (by decide) rfl (fun ls hl => ?_)
  refine lv_iload_n hx hb dX8_widthOf_7 rfl (lv_at hl 0 rfl) ?_
  refine lv_iconst (v := 3) hx hb dX8_widthOf_8 (by decide) ?_
  refine lv_icmp_ge (tgt := 23) hx hb dX8_widthOf_9 (by decide) (fun c9 => absurd c9 (by decide)) (fun _ => ?_)
  refine lv_iload_n hx hb dX8_widthOf_12 rfl (lv_at hl 1 rfl) ?_
  refine lv_bipush (v := 10) hx hb dX8_widthOf_13 (by decide) ?_
  refine lv_idiv hx hb dX8_widthOf_15 (by decide) ?_
  refine k_nrm (y := ((patF d) / 10)) (rfl) ?_
  refine lv_istore_n (lv' := [(2, .int ((patF d) / 10)), (3, .int 1), (0, .int (nI d)), (1, .int 1)]) hx hb dX8_widthOf_16 rfl hl (by decide) rfl (fun ls hl => ?_)
  refine lv_iinc (v := 2) (lv' := [(3, .int 2), (2, .int ((patF d) / 10)), (0, .int (nI d)), (1, .int 1)]) hx hb dX8_widthOf_17 hl (k := 1) rfl (by decide) (by decide) rfl (fun ls hl => ?_)
  refine lv_goto (tgt := 7) hx hb dX8_widthOf_20 (by decide) ?_
  refine lv_iload_n hx hb dX8_widthOf_7 rfl (lv_at hl 0 rfl) ?_
  refine lv_iconst (v := 3) hx hb dX8_widthOf_8 (by decide) ?_
  refine lv_icmp_ge (tgt := 23) hx hb dX8_widthOf_9 (by decide) (fun c9 => absurd c9 (by decide)) (fun _ => ?_)
  refine lv_iload_n hx hb dX8_widthOf_12 rfl (lv_at hl 1 rfl) ?_
  refine lv_bipush (v := 10) hx hb dX8_widthOf_13 (by decide) ?_
  refine lv_idiv hx hb dX8_widthOf_15 (by decide) ?_
  refine k_nrm (y := (((patF d) / 10) / 10)) (rfl) ?_
  refine lv_istore_n (lv' := [(2, .int (((patF d) / 10) / 10)), (3, .int 2), (0, .int (nI d)), (1, .int 1)]) hx hb dX8_widthOf_16 rfl hl (by decide) rfl (fun ls hl => ?_)
  refine lv_iinc (v := 3) (lv' := [(3, .int 3), (2, .int (((patF d) / 10) / 10)), (0, .int (nI d)), (1, .int 1)]) hx hb dX8_widthOf_17 hl (k := 1) rfl (by decide) (by decide) rfl (fun ls hl => ?_)
  refine lv_goto (tgt := 7) hx hb dX8_widthOf_20 (by decide) ?_
  refine lv_iload_n hx hb dX8_widthOf_7 rfl (lv_at hl 0 rfl) ?_
  refine lv_iconst (v := 3) hx hb dX8_widthOf_8 (by decide) ?_
  refine lv_icmp_ge (tgt := 23) hx hb dX8_widthOf_9 (by decide) (fun _ => ?_) (fun c9 => absurd (by decide) c9)
  refine lv_iload_n hx hb dX8_widthOf_23 rfl (lv_at hl 1 rfl) ?_
  refine lv_bipush (v := 10) hx hb dX8_widthOf_24 (by decide) ?_
  refine lv_irem hx hb dX8_widthOf_26 (by decide) ?_
  refine k_nrm (y := (wdt (4 * d + 1))) (wdt_1 d hd) ?_
  have hP9 : va_P D vwCl [] H := hP.sub [] rfl
  have hD9 : va_D A [] := hD.sub [] (by decide) rfl
  have hK9 : va_K D vwCl [] s := hK.sub [] rfl
  exact W.iret (v := (wdt (4 * d + 1))) hx hb hr (fun t ht9 hW9 => ⟨⟨(wdt (4 * d + 1)), (), rfl, by first | rfl | trivial | (simp only [if_true, if_false, reduceIte, and_self]; done) | simp_all, ⟨by rw [ht9]; exact hP9, va_K.moved hW9.alike hK9, hD9⟩⟩, hS.F ht9⟩) hS.2.2 dX8_widthOf_27
set_option maxHeartbeats 4000000 in
set_option maxRecDepth 100000 in
theorem c_M_widthOf2 (l : Launch) (D : va_G) (d : Nat) (hd : d ≤ 9) (sz : Nat) : k_Mi (S := Unit) l D yX8_widthOf cX8_widthOf 4 (some .int) 1 0 0 20 [.int (nI d), .int 2] [] [] (fun (r : Int32) (_ : Unit) => r = (wdt (4 * d + 2))) (fun _ => []) (fun _ => []) sz := by
  refine Met.ofW (cc := cX8_widthOf) (maxL := 4) (ret := (some .int)) (by decide) rfl ?_
  intro p e s m args below meth c s₁ B hml hv
  obtain ⟨rfl, hsz, hP, hK, hD0, hG⟩ := hv
  have hx := B.exec
  have hb := B.bytes
  have hr := B.returns
  have ht : ∀ v9 ∈ wsA, v9.before ([.int (nI d), .int 2] : List Value).toArray s = true := fun v9 h9 => atoms_spec (ws := k_ws yX8_widthOf cX8_widthOf 4 (some .int)) B.pre v9 (List.mem_cons_of_mem _ h9)
  have hown : s.vm.findClass RX8 = some m.cls := findClass_of_methodNamed B.named
  have S0 : k_C p s m ([.int (nI d), .int 2] : List Value).toArray c cX8_widthOf 4 RX8 := ⟨hx, hb, hml, hown, ht⟩
  have hlocks := B.notSynchronized
  subst hsz
  have hD := hD0.self (sz := s.heap.size)
  generalize hAe : va_A [] s.heap.size = A at hD hG ⊢
  have hA : ∀ q : Nat, s.heap.size ≤ q → A q := fun q h => by rw [← hAe]; exact Or.inr h
  have hS : va_S A s.heap s.heap [] := va_S.rf
  have hl := lv_entry ([.int (nI d), .int 2]) (n := 4) (Nat.le_of_ble_eq_true rfl)
  rw [lg_entry_eq]
  generalize (lg_sl ([.int (nI d), .int 2]) ++ List.replicate (4 - (lg_sl ([.int (nI d), .int 2])).length) Slot.unset).toArray = ls at hl ⊢
  have hl : lv_has ls 4 [(0, .int (nI d)), (1, .int 2)] := hl
  have hP : va_P D vwCl [] s.heap := hP
  refine lv_iload_n hx hb dX8_widthOf_0 rfl (lv_at hl 0 rfl) ?_
  have ct := k_cut_of (wc := []) (wr := []) (tc := []) hG hS hA hK hP hD [] [] [] rfl rfl (by decide) (by decide) (by decide) rfl
  refine k_endi (As := [.int (nI d)]) ct (k_runS (As := [.int (nI d)]) (rest := []) S0 Ls_X8_34 ct (c_M_pattern l D d (by first | assumption | omega) s.heap.size) hl.1 rfl (Nat.le_of_ble_eq_true rfl) rfl dX8_widthOf_1 ⟨⟨Nat.le_of_ble_eq_true rfl, Nat.le_of_ble_eq_true rfl⟩, Nat.le_of_ble_eq_true rfl, Nat.le_of_ble_eq_true rfl⟩) rfl rfl (fun r_1 _ H locs hw_2 hP hD hK hS => ?_)
  have hK : va_K D vwCl [] s := hK
  have hP : va_P D vwCl [] H := hP
  have hD : va_D A [] := hD
  have hw_2 : r_1 = (patF d) := hw_2
  have hw_2 := hw_2.symm
  subst hw_2
  refine k_nrm (y := (patF d)) rfl ?_
  refine lv_istore_n (lv' := [(2, .int (patF d)), (0, .int (nI d)), (1, .int 2)]) hx hb dX8_widthOf_4 rfl hl (by decide) rfl (fun ls hl => ?_)
  refine lv_iload_n hx hb dX8_widthOf_5 rfl (lv_at hl 2 rfl) ?_
  refine lv_istore_n (lv' := [(3, .int 2), (2, .int (patF d)), (0, .int (nI d)), (1, .int 2)]) hx hb dX8_widthOf_6 rfl hl (by decide) rfl (fun ls hl => ?_)
  refine lv_iload_n hx hb dX8_widthOf_7 rfl (lv_at hl 0 rfl) ?_
  refine lv_iconst (v := 3) hx hb dX8_widthOf_8 (by decide) ?_
  refine lv_icmp_ge (tgt := 23) hx hb dX8_widthOf_9 (by decide) (fun c9 => absurd c9 (by decide)) (fun _ => ?_)
  refine lv_iload_n hx hb dX8_widthOf_12 rfl (lv_at hl 1 rfl) ?_
  refine lv_bipush (v := 10) hx hb dX8_widthOf_13 (by decide) ?_
  refine lv_idiv hx hb dX8_widthOf_15 (by decide) ?_
  refine k_nrm (y := ((patF d) / 10)) (rfl) ?_
  refine lv_istore_n (lv' := [(2, .int ((patF d) / 10)), (3, .int 2), (0, .int (nI d)), (1, .int 2)]) hx hb dX8_widthOf_16 rfl hl (by decide) rfl (fun ls hl => ?_)
  refine lv_iinc (v := 3) (lv' := [(3, .int 3), (2, .int ((patF d) / 10)), (0, .int (nI d)), (1, .int 2)]) hx hb dX8_widthOf_17 hl (k := 1) rfl (by decide) (by decide) rfl (fun ls hl => ?_)
  refine lv_goto (tgt := 7) hx hb dX8_widthOf_20 (by decide) ?_
  refine lv_iload_n hx hb dX8_widthOf_7 rfl (lv_at hl 0 rfl) ?_
  refine lv_iconst (v := 3) hx hb dX8_widthOf_8 (by decide) ?_
  refine lv_icmp_ge (tgt := 23) hx hb dX8_widthOf_9 (by decide) (fun _ => ?_) (fun c9 => absurd (by decide) c9)
  refine lv_iload_n hx hb dX8_widthOf_23 rfl (lv_at hl 1 rfl) ?_
  refine lv_bipush (v := 10) hx hb dX8_widthOf_24 (by decide) ?_
  refine lv_irem hx hb dX8_widthOf_26 (by decide) ?_
  refine k_nrm (y := (wdt (4 * d + 2))) (wdt_2 d hd) ?_
  have hP9 : va_P D vwCl [] H := hP.sub [] rfl
  have hD9 : va_D A [] := hD.sub [] (by decide) rfl
  have hK9 : va_K D vwCl [] s := hK.sub [] rfl
  exact W.iret (v := (wdt (4 * d + 2))) hx hb hr (fun t ht9 hW9 => ⟨⟨(wdt (4 * d + 2)), (), rfl, by first | rfl | trivial | (simp only [if_true, if_false, reduceIte, and_self]; done) | simp_all, ⟨by rw [ht9]; exact hP9, va_K.moved hW9.alike hK9, hD9⟩⟩, hS.F ht9⟩) hS.2.2 dX8_widthOf_27
set_option maxHeartbeats 4000000 in
set_option maxRecDepth 100000 in
theorem c_M_widthOf3 (l : Launch) (D : va_G) (d : Nat) (hd : d ≤ 9) (sz : Nat) : k_Mi (S := Unit) l D yX8_widthOf cX8_widthOf 4 (some .int) 1 0 0 20 [.int (nI d), .int 3] [] [] (fun (r : Int32) (_ : Unit) => r = (wdt (4 * d + 3))) (fun _ => []) (fun _ => []) sz := by
  refine Met.ofW (cc := cX8_widthOf) (maxL := 4) (ret := (some .int)) (by decide) rfl ?_
  intro p e s m args below meth c s₁ B hml hv
  obtain ⟨rfl, hsz, hP, hK, hD0, hG⟩ := hv
  have hx := B.exec
  have hb := B.bytes
  have hr := B.returns
  have ht : ∀ v9 ∈ wsA, v9.before ([.int (nI d), .int 3] : List Value).toArray s = true := fun v9 h9 => atoms_spec (ws := k_ws yX8_widthOf cX8_widthOf 4 (some .int)) B.pre v9 (List.mem_cons_of_mem _ h9)
  have hown : s.vm.findClass RX8 = some m.cls := findClass_of_methodNamed B.named
  have S0 : k_C p s m ([.int (nI d), .int 3] : List Value).toArray c cX8_widthOf 4 RX8 := ⟨hx, hb, hml, hown, ht⟩
  have hlocks := B.notSynchronized
  subst hsz
  have hD := hD0.self (sz := s.heap.size)
  generalize hAe : va_A [] s.heap.size = A at hD hG ⊢
  have hA : ∀ q : Nat, s.heap.size ≤ q → A q := fun q h => by rw [← hAe]; exact Or.inr h
  have hS : va_S A s.heap s.heap [] := va_S.rf
  have hl := lv_entry ([.int (nI d), .int 3]) (n := 4) (Nat.le_of_ble_eq_true rfl)
  rw [lg_entry_eq]
  generalize (lg_sl ([.int (nI d), .int 3]) ++ List.replicate (4 - (lg_sl ([.int (nI d), .int 3])).length) Slot.unset).toArray = ls at hl ⊢
  have hl : lv_has ls 4 [(0, .int (nI d)), (1, .int 3)] := hl
  have hP : va_P D vwCl [] s.heap := hP
  refine lv_iload_n hx hb dX8_widthOf_0 rfl (lv_at hl 0 rfl) ?_
  have ct := k_cut_of (wc := []) (wr := []) (tc := []) hG hS hA hK hP hD [] [] [] rfl rfl (by decide) (by decide) (by decide) rfl
  refine k_endi (As := [.int (nI d)]) ct (k_runS (As := [.int (nI d)]) (rest := []) S0 Ls_X8_34 ct (c_M_pattern l D d (by first | assumption | omega) s.heap.size) hl.1 rfl (Nat.le_of_ble_eq_true rfl) rfl dX8_widthOf_1 ⟨⟨Nat.le_of_ble_eq_true rfl, Nat.le_of_ble_eq_true rfl⟩, Nat.le_of_ble_eq_true rfl, Nat.le_of_ble_eq_true rfl⟩) rfl rfl (fun r_1 _ H locs hw_2 hP hD hK hS => ?_)
  have hK : va_K D vwCl [] s := hK
  have hP : va_P D vwCl [] H := hP
  have hD : va_D A [] := hD
  have hw_2 : r_1 = (patF d) := hw_2
  have hw_2 := hw_2.symm
  subst hw_2
  refine k_nrm (y := (patF d)) rfl ?_
  refine lv_istore_n (lv' := [(2, .int (patF d)), (0, .int (nI d)), (1, .int 3)]) hx hb dX8_widthOf_4 rfl hl (by decide) rfl (fun ls hl => ?_)
  refine lv_iload_n hx hb dX8_widthOf_5 rfl (lv_at hl 2 rfl) ?_
  refine lv_istore_n (lv' := [(3, .int 3), (2, .int (patF d)), (0, .int (nI d)), (1, .int 3)]) hx hb dX8_widthOf_6 rfl hl (by decide) rfl (fun ls hl => ?_)
  refine lv_iload_n hx hb dX8_widthOf_7 rfl (lv_at hl 0 rfl) ?_
  refine lv_iconst (v := 3) hx hb dX8_widthOf_8 (by decide) ?_
  refine lv_icmp_ge (tgt := 23) hx hb dX8_widthOf_9 (by decide) (fun _ => ?_) (fun c9 => absurd (by decide) c9)
  refine lv_iload_n hx hb dX8_widthOf_23 rfl (lv_at hl 1 rfl) ?_
  refine lv_bipush (v := 10) hx hb dX8_widthOf_24 (by decide) ?_
  refine lv_irem hx hb dX8_widthOf_26 (by decide) ?_
  refine k_nrm (y := (wdt (4 * d + 3))) (wdt_3 d hd) ?_
  have hP9 : va_P D vwCl [] H := hP.sub [] rfl
  have hD9 : va_D A [] := hD.sub [] (by decide) rfl
  have hK9 : va_K D vwCl [] s := hK.sub [] rfl
  exact W.iret (v := (wdt (4 * d + 3))) hx hb hr (fun t ht9 hW9 => ⟨⟨(wdt (4 * d + 3)), (), rfl, by first | rfl | trivial | (simp only [if_true, if_false, reduceIte, and_self]; done) | simp_all, ⟨by rw [ht9]; exact hP9, va_K.moved hW9.alike hK9, hD9⟩⟩, hS.F ht9⟩) hS.2.2 dX8_widthOf_27
set_option maxHeartbeats 4000000 in
set_option maxRecDepth 100000 in
theorem c_M_widthOfN (l : Launch) (D : va_G) (d : Nat) (p9 : Nat) (hd : d ≤ 9) (hp : p9 ≤ 3) (sz : Nat) : k_Mi (S := Unit) l D yX8_widthOf cX8_widthOf 4 (some .int) 1 0 0 20 [.int (nI d), .int (nI p9)] [] [] (fun (r : Int32) (_ : Unit) => r = (wdt (4 * d + p9))) (fun _ => []) (fun _ => []) sz := by
  refine Met.ofW (cc := cX8_widthOf) (maxL := 4) (ret := (some .int)) (by decide) rfl ?_
  intro p e s m args below meth c s₁ B hml hv
  obtain ⟨rfl, hsz, hP, hK, hD0, hG⟩ := hv
  have hx := B.exec
  have hb := B.bytes
  have hr := B.returns
  have ht : ∀ v9 ∈ wsA, v9.before ([.int (nI d), .int (nI p9)] : List Value).toArray s = true := fun v9 h9 => atoms_spec (ws := k_ws yX8_widthOf cX8_widthOf 4 (some .int)) B.pre v9 (List.mem_cons_of_mem _ h9)
  have hown : s.vm.findClass RX8 = some m.cls := findClass_of_methodNamed B.named
  have S0 : k_C p s m ([.int (nI d), .int (nI p9)] : List Value).toArray c cX8_widthOf 4 RX8 := ⟨hx, hb, hml, hown, ht⟩
  have hlocks := B.notSynchronized
  subst hsz
  have hD := hD0.self (sz := s.heap.size)
  generalize hAe : va_A [] s.heap.size = A at hD hG ⊢
  have hA : ∀ q : Nat, s.heap.size ≤ q → A q := fun q h => by rw [← hAe]; exact Or.inr h
  have hS : va_S A s.heap s.heap [] := va_S.rf
  have hl := lv_entry ([.int (nI d), .int (nI p9)]) (n := 4) (Nat.le_of_ble_eq_true rfl)
  rw [lg_entry_eq]
  generalize (lg_sl ([.int (nI d), .int (nI p9)]) ++ List.replicate (4 - (lg_sl ([.int (nI d), .int (nI p9)])).length) Slot.unset).toArray = ls at hl ⊢
  have hl : lv_has ls 4 [(0, .int (nI d)), (1, .int (nI p9))] := hl
  have hP : va_P D vwCl [] s.heap := hP
  rcases (show p9 = 0 ∨ p9 = 1 ∨ p9 = 2 ∨ p9 = 3 by omega) with rfl | rfl | rfl | rfl
  · have hl : lv_has ls 4 [(0, .int (nI d)), (1, .int 0)] := hl
    refine lv_iload_n hx hb dX8_widthOf_0 rfl (lv_at hl 0 rfl) ?_
    have ct := k_cut_of (wc := []) (wr := []) (tc := []) hG hS hA hK hP hD [] [] [] rfl rfl (by decide) (by decide) (by decide) rfl
    refine k_endi (As := [.int (nI d)]) ct (k_runS (As := [.int (nI d)]) (rest := []) S0 Ls_X8_34 ct (c_M_pattern l D d (by first | assumption | omega) s.heap.size) hl.1 rfl (Nat.le_of_ble_eq_true rfl) rfl dX8_widthOf_1 ⟨⟨Nat.le_of_ble_eq_true rfl, Nat.le_of_ble_eq_true rfl⟩, Nat.le_of_ble_eq_true rfl, Nat.le_of_ble_eq_true rfl⟩) rfl rfl (fun r_1 _ H locs hw_2 hP hD hK hS => ?_)
    have hK : va_K D vwCl [] s := hK
    have hP : va_P D vwCl [] H := hP
    have hD : va_D A [] := hD
    have hw_2 : r_1 = (patF d) := hw_2
    have hw_2 := hw_2.symm
    subst hw_2
    refine k_nrm (y := (patF d)) rfl ?_
    refine lv_istore_n (lv' := [(2, .int (patF d)), (0, .int (nI d)), (1, .int 0)]) hx hb dX8_widthOf_4 rfl hl (by decide) rfl (fun ls hl => ?_)
    refine lv_iload_n hx hb dX8_widthOf_5 rfl (lv_at hl 2 rfl) ?_
    refine lv_istore_n (lv' := [(3, .int 0), (2, .int (patF d)), (0, .int (nI d)), (1, .int 0)]) hx hb dX8_widthOf_6 rfl hl (by decide) rfl (fun ls hl => ?_)
    refine lv_iload_n hx hb dX8_widthOf_7 rfl (lv_at hl 0 rfl) ?_
    refine lv_iconst (v := 3) hx hb dX8_widthOf_8 (by decide) ?_
    refine lv_icmp_ge (tgt := 23) hx hb dX8_widthOf_9 (by decide) (fun c9 => absurd c9 (by decide)) (fun _ => ?_)
    refine lv_iload_n hx hb dX8_widthOf_12 rfl (lv_at hl 1 rfl) ?_
    refine lv_bipush (v := 10) hx hb dX8_widthOf_13 (by decide) ?_
    refine lv_idiv hx hb dX8_widthOf_15 (by decide) ?_
    refine k_nrm (y := ((patF d) / 10)) (rfl) ?_
    refine lv_istore_n (lv' := [(2, .int ((patF d) / 10)), (3, .int 0), (0, .int (nI d)), (1, .int 0)]) hx hb dX8_widthOf_16 rfl hl (by decide) rfl (fun ls hl => ?_)
    refine lv_iinc (v := 1) (lv' := [(3, .int 1), (2, .int ((patF d) / 10)), (0, .int (nI d)), (1, .int 0)]) hx hb dX8_widthOf_17 hl (k := 1) rfl (by decide) (by decide) rfl (fun ls hl => ?_)
    refine lv_goto (tgt := 7) hx hb dX8_widthOf_20 (by decide) ?_
    refine lv_iload_n hx hb dX8_widthOf_7 rfl (lv_at hl 0 rfl) ?_
    refine lv_iconst (v := 3) hx hb dX8_widthOf_8 (by decide) ?_
    refine lv_icmp_ge (tgt := 23) hx hb dX8_widthOf_9 (by decide) (fun c9 => absurd c9 (by decide)) (fun _ => ?_)
    refine lv_iload_n hx hb dX8_widthOf_12 rfl (lv_at hl 1 rfl) ?_
    refine lv_bipush (v := 10) hx hb dX8_widthOf_13 (by decide) ?_
    refine lv_idiv hx hb dX8_widthOf_15 (by decide) ?_
    refine k_nrm (y := (((patF d) / 10) / 10)) (rfl) ?_
    refine lv_istore_n (lv' := [(2, .int (((patF d) / 10) / 10)), (3, .int 1), (0, .int (nI d)), (1, .int 0)]) hx hb dX8_widthOf_16 rfl hl (by decide) rfl (fun ls hl => ?_)
    refine lv_iinc (v := 2) (lv' := [(3, .int 2), (2, .int (((patF d) / 10) / 10)), (0, .int (nI d)), (1, .int 0)]) hx hb dX8_widthOf_17 hl (k := 1) rfl (by decide) (by decide) rfl (fun ls hl => ?_)
    refine lv_goto (tgt := 7) hx hb dX8_widthOf_20 (by decide) ?_
    refine lv_iload_n hx hb dX8_widthOf_7 rfl (lv_at hl 0 rfl) ?_
    refine lv_iconst (v := 3) hx hb dX8_widthOf_8 (by decide) ?_
    refine lv_icmp_ge (tgt := 23) hx hb dX8_widthOf_9 (by decide) (fun c9 => absurd c9 (by decide)) (fun _ => ?_)
    refine lv_iload_n hx hb dX8_widthOf_12 rfl (lv_at hl 1 rfl) ?_
    refine lv_bipush (v := 10) hx hb dX8_widthOf_13 (by decide) ?_
    refine lv_idiv hx hb dX8_widthOf_15 (by decide) ?_
    refine k_nrm (y := ((((patF d) / 10) / 10) / 10)) (rfl) ?_
    refine lv_istore_n (lv' := [(2, .int ((((patF d) / 10) / 10) / 10)), (3, .int 2), (0, .int (nI d)), (1, .int 0)]) hx hb dX8_widthOf_16 rfl hl (by decide) rfl (fun ls hl => ?_)
    refine lv_iinc (v := 3) (lv' := [(3, .int 3), (2, .int ((((patF d) / 10) / 10) / 10)), (0, .int (nI d)), (1, .int 0)]) hx hb dX8_widthOf_17 hl (k := 1) rfl (by decide) (by decide) rfl (fun ls hl => ?_)
    refine lv_goto (tgt := 7) hx hb dX8_widthOf_20 (by decide) ?_
    refine lv_iload_n hx hb dX8_widthOf_7 rfl (lv_at hl 0 rfl) ?_
    refine lv_iconst (v := 3) hx hb dX8_widthOf_8 (by decide) ?_
    refine lv_icmp_ge (tgt := 23) hx hb dX8_widthOf_9 (by decide) (fun _ => ?_) (fun c9 => absurd (by decide) c9)
    refine lv_iload_n hx hb dX8_widthOf_23 rfl (lv_at hl 1 rfl) ?_
    refine lv_bipush (v := 10) hx hb dX8_widthOf_24 (by decide) ?_
    refine lv_irem hx hb dX8_widthOf_26 (by decide) ?_
    refine k_nrm (y := (wdt (4 * d + 0))) (wdt_0 d hd) ?_
    have hP9 : va_P D vwCl [] H := hP.sub [] rfl
    have hD9 : va_D A [] := hD.sub [] (by decide) rfl
    have hK9 : va_K D vwCl [] s := hK.sub [] rfl
    exact W.iret (v := (wdt (4 * d + 0))) hx hb hr (fun t ht9 hW9 => ⟨⟨(wdt (4 * d + 0)), (), rfl, by first | rfl | trivial | (simp only [if_true, if_false, reduceIte, and_self]; done) | simp_all, ⟨by rw [ht9]; exact hP9, va_K.moved hW9.alike hK9, hD9⟩⟩, hS.F ht9⟩) hS.2.2 dX8_widthOf_27
  · have hl : lv_has ls 4 [(0, .int (nI d)), (1, .int 1)] := hl
    refine lv_iload_n hx hb dX8_widthOf_0 rfl (lv_at hl 0 rfl) ?_
    have ct := k_cut_of (wc := []) (wr := []) (tc := []) hG hS hA hK hP hD [] [] [] rfl rfl (by decide) (by decide) (by decide) rfl
    refine k_endi (As := [.int (nI d)]) ct (k_runS (As := [.int (nI d)]) (rest := []) S0 Ls_X8_34 ct (c_M_pattern l D d (by first | assumption | omega) s.heap.size) hl.1 rfl (Nat.le_of_ble_eq_true rfl) rfl dX8_widthOf_1 ⟨⟨Nat.le_of_ble_eq_true rfl, Nat.le_of_ble_eq_true rfl⟩, Nat.le_of_ble_eq_true rfl, Nat.le_of_ble_eq_true rfl⟩) rfl rfl (fun r_3 _ H locs hw_4 hP hD hK hS => ?_)
    have hK : va_K D vwCl [] s := hK
    have hP : va_P D vwCl [] H := hP
    have hD : va_D A [] := hD
    have hw_4 : r_3 = (patF d) := hw_4
    have hw_4 := hw_4.symm
    subst hw_4
    refine k_nrm (y := (patF d)) rfl ?_
    refine lv_istore_n (lv' := [(2, .int (patF d)), (0, .int (nI d)), (1, .int 1)]) hx hb dX8_widthOf_4 rfl hl (by decide) rfl (fun ls hl => ?_)
    refine lv_iload_n hx hb dX8_widthOf_5 rfl (lv_at hl 2 rfl) ?_
    refine lv_istore_n (lv' := [(3, .int 1), (2, .int (patF d)), (0, .int (nI d)), (1, .int 1)]) hx hb dX8_widthOf_6 rfl hl (by decide) rfl (fun ls hl => ?_)
    refine lv_iload_n hx hb dX8_widthOf_7 rfl (lv_at hl 0 rfl) ?_
    refine lv_iconst (v := 3) hx hb dX8_widthOf_8 (by decide) ?_
    refine lv_icmp_ge (tgt := 23) hx hb dX8_widthOf_9 (by decide) (fun c9 => absurd c9 (by decide)) (fun _ => ?_)
    refine lv_iload_n hx hb dX8_widthOf_12 rfl (lv_at hl 1 rfl) ?_
    refine lv_bipush (v := 10) hx hb dX8_widthOf_13 (by decide) ?_
    refine lv_idiv hx hb dX8_widthOf_15 (by decide) ?_
    refine k_nrm (y := ((patF d) / 10)) (rfl) ?_
    refine lv_istore_n (lv' := [(2, .int ((patF d) / 10)), (3, .int 1), (0, .int (nI d)), (1, .int 1)]) hx hb dX8_widthOf_16 rfl hl (by decide) rfl (fun ls hl => ?_)
    refine lv_iinc (v := 2) (lv' := [(3, .int 2), (2, .int ((patF d) / 10)), (0, .int (nI d)), (1, .int 1)]) hx hb dX8_widthOf_17 hl (k := 1) rfl (by decide) (by decide) rfl (fun ls hl => ?_)
    refine lv_goto (tgt := 7) hx hb dX8_widthOf_20 (by decide) ?_
    refine lv_iload_n hx hb dX8_widthOf_7 rfl (lv_at hl 0 rfl) ?_
    refine lv_iconst (v := 3) hx hb dX8_widthOf_8 (by decide) ?_
    refine lv_icmp_ge (tgt := 23) hx hb dX8_widthOf_9 (by decide) (fun c9 => absurd c9 (by decide)) (fun _ => ?_)
    refine lv_iload_n hx hb dX8_widthOf_12 rfl (lv_at hl 1 rfl) ?_
    refine lv_bipush (v := 10) hx hb dX8_widthOf_13 (by decide) ?_
    refine lv_idiv hx hb dX8_widthOf_15 (by decide) ?_
    refine k_nrm (y := (((patF d) / 10) / 10)) (rfl) ?_
    refine lv_istore_n (lv' := [(2, .int (((patF d) / 10) / 10)), (3, .int 2), (0, .int (nI d)), (1, .int 1)]) hx hb dX8_widthOf_16 rfl hl (by decide) rfl (fun ls hl => ?_)
    refine lv_iinc (v := 3) (lv' := [(3, .int 3), (2, .int (((patF d) / 10) / 10)), (0, .int (nI d)), (1, .int 1)]) hx hb dX8_widthOf_17 hl (k := 1) rfl (by decide) (by decide) rfl (fun ls hl => ?_)
    refine lv_goto (tgt := 7) hx hb dX8_widthOf_20 (by decide) ?_
    refine lv_iload_n hx hb dX8_widthOf_7 rfl (lv_at hl 0 rfl) ?_
    refine lv_iconst (v := 3) hx hb dX8_widthOf_8 (by decide) ?_
    refine lv_icmp_ge (tgt := 23) hx hb dX8_widthOf_9 (by decide) (fun _ => ?_) (fun c9 => absurd (by decide) c9)
    refine lv_iload_n hx hb dX8_widthOf_23 rfl (lv_at hl 1 rfl) ?_
    refine lv_bipush (v := 10) hx hb dX8_widthOf_24 (by decide) ?_
    refine lv_irem hx hb dX8_widthOf_26 (by decide) ?_
    refine k_nrm (y := (wdt (4 * d + 1))) (wdt_1 d hd) ?_
    have hP9 : va_P D vwCl [] H := hP.sub [] rfl
    have hD9 : va_D A [] := hD.sub [] (by decide) rfl
    have hK9 : va_K D vwCl [] s := hK.sub [] rfl
    exact W.iret (v := (wdt (4 * d + 1))) hx hb hr (fun t ht9 hW9 => ⟨⟨(wdt (4 * d + 1)), (), rfl, by first | rfl | trivial | (simp only [if_true, if_false, reduceIte, and_self]; done) | simp_all, ⟨by rw [ht9]; exact hP9, va_K.moved hW9.alike hK9, hD9⟩⟩, hS.F ht9⟩) hS.2.2 dX8_widthOf_27
  · have hl : lv_has ls 4 [(0, .int (nI d)), (1, .int 2)] := hl
    refine lv_iload_n hx hb dX8_widthOf_0 rfl (lv_at hl 0 rfl) ?_
    have ct := k_cut_of (wc := []) (wr := []) (tc := []) hG hS hA hK hP hD [] [] [] rfl rfl (by decide) (by decide) (by decide) rfl
    refine k_endi (As := [.int (nI d)]) ct (k_runS (As := [.int (nI d)]) (rest := []) S0 Ls_X8_34 ct (c_M_pattern l D d (by first | assumption | omega) s.heap.size) hl.1 rfl (Nat.le_of_ble_eq_true rfl) rfl dX8_widthOf_1 ⟨⟨Nat.le_of_ble_eq_true rfl, Nat.le_of_ble_eq_true rfl⟩, Nat.le_of_ble_eq_true rfl, Nat.le_of_ble_eq_true rfl⟩) rfl rfl (fun r_5 _ H locs hw_6 hP hD hK hS => ?_)
    have hK : va_K D vwCl [] s := hK
    have hP : va_P D vwCl [] H := hP
    have hD : va_D A [] := hD
    have hw_6 : r_5 = (patF d) := hw_6
    have hw_6 := hw_6.symm
    subst hw_6
    refine k_nrm (y := (patF d)) rfl ?_
    refine lv_istore_n (lv' := [(2, .int (patF d)), (0, .int (nI d)), (1, .int 2)]) hx hb dX8_widthOf_4 rfl hl (by decide) rfl (fun ls hl => ?_)
    refine lv_iload_n hx hb dX8_widthOf_5 rfl (lv_at hl 2 rfl) ?_
    refine lv_istore_n (lv' := [(3, .int 2), (2, .int (patF d)), (0, .int (nI d)), (1, .int 2)]) hx hb dX8_widthOf_6 rfl hl (by decide) rfl (fun ls hl => ?_)
    refine lv_iload_n hx hb dX8_widthOf_7 rfl (lv_at hl 0 rfl) ?_
    refine lv_iconst (v := 3) hx hb dX8_widthOf_8 (by decide) ?_
    refine lv_icmp_ge (tgt := 23) hx hb dX8_widthOf_9 (by decide) (fun c9 => absurd c9 (by decide)) (fun _ => ?_)
    refine lv_iload_n hx hb dX8_widthOf_12 rfl (lv_at hl 1 rfl) ?_
    refine lv_bipush (v := 10) hx hb dX8_widthOf_13 (by decide) ?_
    refine lv_idiv hx hb dX8_widthOf_15 (by decide) ?_
    refine k_nrm (y := ((patF d) / 10)) (rfl) ?_
    refine lv_istore_n (lv' := [(2, .int ((patF d) / 10)), (3, .int 2), (0, .int (nI d)), (1, .int 2)]) hx hb dX8_widthOf_16 rfl hl (by decide) rfl (fun ls hl => ?_)
    refine lv_iinc (v := 3) (lv' := [(3, .int 3), (2, .int ((patF d) / 10)), (0, .int (nI d)), (1, .int 2)]) hx hb dX8_widthOf_17 hl (k := 1) rfl (by decide) (by decide) rfl (fun ls hl => ?_)
    refine lv_goto (tgt := 7) hx hb dX8_widthOf_20 (by decide) ?_
    refine lv_iload_n hx hb dX8_widthOf_7 rfl (lv_at hl 0 rfl) ?_
    refine lv_iconst (v := 3) hx hb dX8_widthOf_8 (by decide) ?_
    refine lv_icmp_ge (tgt := 23) hx hb dX8_widthOf_9 (by decide) (fun _ => ?_) (fun c9 => absurd (by decide) c9)
    refine lv_iload_n hx hb dX8_widthOf_23 rfl (lv_at hl 1 rfl) ?_
    refine lv_bipush (v := 10) hx hb dX8_widthOf_24 (by decide) ?_
    refine lv_irem hx hb dX8_widthOf_26 (by decide) ?_
    refine k_nrm (y := (wdt (4 * d + 2))) (wdt_2 d hd) ?_
    have hP9 : va_P D vwCl [] H := hP.sub [] rfl
    have hD9 : va_D A [] := hD.sub [] (by decide) rfl
    have hK9 : va_K D vwCl [] s := hK.sub [] rfl
    exact W.iret (v := (wdt (4 * d + 2))) hx hb hr (fun t ht9 hW9 => ⟨⟨(wdt (4 * d + 2)), (), rfl, by first | rfl | trivial | (simp only [if_true, if_false, reduceIte, and_self]; done) | simp_all, ⟨by rw [ht9]; exact hP9, va_K.moved hW9.alike hK9, hD9⟩⟩, hS.F ht9⟩) hS.2.2 dX8_widthOf_27
  · have hl : lv_has ls 4 [(0, .int (nI d)), (1, .int 3)] := hl
    refine lv_iload_n hx hb dX8_widthOf_0 rfl (lv_at hl 0 rfl) ?_
    have ct := k_cut_of (wc := []) (wr := []) (tc := []) hG hS hA hK hP hD [] [] [] rfl rfl (by decide) (by decide) (by decide) rfl
    refine k_endi (As := [.int (nI d)]) ct (k_runS (As := [.int (nI d)]) (rest := []) S0 Ls_X8_34 ct (c_M_pattern l D d (by first | assumption | omega) s.heap.size) hl.1 rfl (Nat.le_of_ble_eq_true rfl) rfl dX8_widthOf_1 ⟨⟨Nat.le_of_ble_eq_true rfl, Nat.le_of_ble_eq_true rfl⟩, Nat.le_of_ble_eq_true rfl, Nat.le_of_ble_eq_true rfl⟩) rfl rfl (fun r_7 _ H locs hw_8 hP hD hK hS => ?_)
    have hK : va_K D vwCl [] s := hK
    have hP : va_P D vwCl [] H := hP
    have hD : va_D A [] := hD
    have hw_8 : r_7 = (patF d) := hw_8
    have hw_8 := hw_8.symm
    subst hw_8
    refine k_nrm (y := (patF d)) rfl ?_
    refine lv_istore_n (lv' := [(2, .int (patF d)), (0, .int (nI d)), (1, .int 3)]) hx hb dX8_widthOf_4 rfl hl (by decide) rfl (fun ls hl => ?_)
    refine lv_iload_n hx hb dX8_widthOf_5 rfl (lv_at hl 2 rfl) ?_
    refine lv_istore_n (lv' := [(3, .int 3), (2, .int (patF d)), (0, .int (nI d)), (1, .int 3)]) hx hb dX8_widthOf_6 rfl hl (by decide) rfl (fun ls hl => ?_)
    refine lv_iload_n hx hb dX8_widthOf_7 rfl (lv_at hl 0 rfl) ?_
    refine lv_iconst (v := 3) hx hb dX8_widthOf_8 (by decide) ?_
    refine lv_icmp_ge (tgt := 23) hx hb dX8_widthOf_9 (by decide) (fun _ => ?_) (fun c9 => absurd (by decide) c9)
    refine lv_iload_n hx hb dX8_widthOf_23 rfl (lv_at hl 1 rfl) ?_
    refine lv_bipush (v := 10) hx hb dX8_widthOf_24 (by decide) ?_
    refine lv_irem hx hb dX8_widthOf_26 (by decide) ?_
    refine k_nrm (y := (wdt (4 * d + 3))) (wdt_3 d hd) ?_
    have hP9 : va_P D vwCl [] H := hP.sub [] rfl
    have hD9 : va_D A [] := hD.sub [] (by decide) rfl
    have hK9 : va_K D vwCl [] s := hK.sub [] rfl
    exact W.iret (v := (wdt (4 * d + 3))) hx hb hr (fun t ht9 hW9 => ⟨⟨(wdt (4 * d + 3)), (), rfl, by first | rfl | trivial | (simp only [if_true, if_false, reduceIte, and_self]; done) | simp_all, ⟨by rw [ht9]; exact hP9, va_K.moved hW9.alike hK9, hD9⟩⟩, hS.F ht9⟩) hS.2.2 dX8_widthOf_27
