set_option maxRecDepth 20000 in
theorem lk_L_label : Cond.code yL_label cL_label 7 (some .boolean) ∈ wsA := mA 573 rfl rfl
theorem ly_L_label : k_y yL_label 1 := ⟨by decide +kernel, by decide +kernel, by decide +kernel⟩
set_option maxRecDepth 20000 in
theorem ls_L_label : Cond.static yL_label ∈ wsA := mA 572 rfl rfl
set_option maxRecDepth 20000 in
theorem Ls_L_132 : k_LS RL 132 yL_label cL_label 7 (some .boolean) 1 := ⟨mA 571 rfl rfl, ls_L_label, li_BarcodeWandLaw, lk_L_label, ly_L_label⟩
set_option maxRecDepth 20000 in
theorem lk_L_reading : Cond.code yL_reading cL_reading 10 (some .boolean) ∈ wsA := mA 596 rfl rfl
theorem ly_L_reading : k_y yL_reading 1 := ⟨by decide +kernel, by decide +kernel, by decide +kernel⟩
set_option maxRecDepth 20000 in
theorem ls_L_reading : Cond.static yL_reading ∈ wsA := mA 595 rfl rfl
set_option maxRecDepth 20000 in
theorem Ls_L_136 : k_LS RL 136 yL_reading cL_reading 10 (some .boolean) 1 := ⟨mA 594 rfl rfl, ls_L_reading, li_BarcodeWandLaw, lk_L_reading, ly_L_reading⟩
set_option maxRecDepth 20000 in
theorem lk_L_list : Cond.code yL_list cL_list 5 (some .boolean) ∈ wsA := mA 633 rfl rfl
theorem ly_L_list : k_y yL_list 1 := ⟨by decide +kernel, by decide +kernel, by decide +kernel⟩
set_option maxRecDepth 20000 in
theorem ls_L_list : Cond.static yL_list ∈ wsA := mA 632 rfl rfl
set_option maxRecDepth 20000 in
theorem Ls_L_139 : k_LS RL 139 yL_list cL_list 5 (some .boolean) 1 := ⟨mA 631 rfl rfl, ls_L_list, li_BarcodeWandLaw, lk_L_list, ly_L_list⟩
theorem dL_hangs_0 : decode cL_hangs 0 = .ok (.aload_n 0, 1) := by decide +kernel
theorem dL_hangs_1 : decode cL_hangs 1 = .ok (.invokestatic 132, 3) := by decide +kernel
theorem dL_hangs_4 : decode cL_hangs 4 = .ok (.ifCond .eq 21, 3) := by decide +kernel
theorem dL_hangs_7 : decode cL_hangs 7 = .ok (.aload_n 0, 1) := by decide +kernel
theorem dL_hangs_8 : decode cL_hangs 8 = .ok (.invokestatic 136, 3) := by decide +kernel
theorem dL_hangs_11 : decode cL_hangs 11 = .ok (.ifCond .eq 14, 3) := by decide +kernel
theorem dL_hangs_14 : decode cL_hangs 14 = .ok (.aload_n 0, 1) := by decide +kernel
theorem dL_hangs_15 : decode cL_hangs 15 = .ok (.invokestatic 139, 3) := by decide +kernel
theorem dL_hangs_18 : decode cL_hangs 18 = .ok (.ifCond .eq 7, 3) := by decide +kernel
theorem dL_hangs_21 : decode cL_hangs 21 = .ok (.iconst 1, 1) := by decide +kernel
theorem dL_hangs_22 : decode cL_hangs 22 = .ok (.goto 4, 3) := by decide +kernel
theorem dL_hangs_25 : decode cL_hangs 25 = .ok (.iconst 0, 1) := by decide +kernel
theorem dL_hangs_26 : decode cL_hangs 26 = .ok (.ireturn, 1) := by decide +kernel
set_option maxHeartbeats 4000000 in
set_option maxRecDepth 100000 in
theorem c_L_hangs (l : Launch) (hst : l.stackTraces = false) (D : va_G) (a : Nat → Nat) (K : ClassId) (KS : ClassId) (st : ST) (hs : HT) (sc : SCT) (N : Nat) (hii : invS N st) (hN : N < 2 ^ 30) (sz : Nat) : k_Mi (S := SCT) l D yL_hangs cL_hangs 1 (some .boolean) 10 2 12 174 [.ref (a 0)] ((WW a K KS st hs sc)) [(K, .int), (KS, .object "BarcodeWand$State")] (fun (r : Int32) (sc1 : SCT) => r = 1) (fun sc1 => ((WW a K KS st hs sc1))) (fun sc1 => []) sz := by
  refine Met.ofW (cc := cL_hangs) (maxL := 1) (ret := (some .boolean)) (by decide) rfl ?_
  intro p e s m args below meth c s₁ B hml hv
  obtain ⟨rfl, hsz, hP, hK, hD0, hG⟩ := hv
  have hx := B.exec
  have hb := B.bytes
  have hr := B.returns
  have ht : ∀ v9 ∈ wsA, v9.before ([.ref (a 0)] : List Value).toArray s = true := fun v9 h9 => atoms_spec (ws := k_ws yL_hangs cL_hangs 1 (some .boolean)) B.pre v9 (List.mem_cons_of_mem _ h9)
  have hown : s.vm.findClass RL = some m.cls := findClass_of_methodNamed B.named
  have S0 : k_C p s m ([.ref (a 0)] : List Value).toArray c cL_hangs 1 RL := ⟨hx, hb, hml, hown, ht⟩
  have hlocks := B.notSynchronized
  subst hsz
  have hD := hD0.self (sz := s.heap.size)
  generalize hAe : va_A ((WW a K KS st hs sc)) s.heap.size = A at hD hG ⊢
  have hA : ∀ q : Nat, s.heap.size ≤ q → A q := fun q h => by rw [← hAe]; exact Or.inr h
  have hS : va_S A s.heap s.heap [] := va_S.rf
  have hl := lv_entry ([.ref (a 0)]) (n := 1) (Nat.le_of_ble_eq_true rfl)
  rw [lg_entry_eq]
  generalize (lg_sl ([.ref (a 0)]) ++ List.replicate (1 - (lg_sl ([.ref (a 0)])).length) Slot.unset).toArray = ls at hl ⊢
  have hl : lv_has ls 1 [(0, .ref (a 0))] := hl
  have hP : va_P D vwCl ((WW a K KS st hs sc)) s.heap := hP
  refine lv_aload_n hx hb dL_hangs_0 rfl (lv_at hl 0 rfl) ?_
  have ct := k_cut_TT (wp := []) (T := (WW a K KS st hs sc)) (wc := []) (wr := []) (tc := [(K, .int), (KS, .object "BarcodeWand$State")]) hG hS hA hK hP hD [] [] [0, 1] rfl rfl (by decide) (by decide) (by decide) rfl
  refine k_endi (As := [.ref (a 0)]) ct (k_runS (As := [.ref (a 0)]) (rest := []) S0 Ls_L_132 ct (c_L_label l hst D a K KS st hs sc hii.1 hii.2.1 s.heap.size) hl.1 rfl (Nat.le_of_ble_eq_true rfl) rfl dL_hangs_1 ⟨⟨Nat.le_of_ble_eq_true rfl, Nat.le_of_ble_eq_true rfl⟩, Nat.le_of_ble_eq_true rfl, Nat.le_of_ble_eq_true rfl⟩) rfl rfl (fun r_1 _ H locs hw_2 hP hD hK hS => ?_)
  have hK : va_K D vwCl [(K, .int), (KS, .object "BarcodeWand$State")] s := hK
  have hP : va_P D vwCl ((WW a K KS st hs sc)) H := hP
  have hD : va_D A ((WW a K KS st hs sc)) := hD
  have hw_2 : r_1 = 1 := hw_2
  have hw_2 := hw_2.symm
  subst hw_2
  refine k_nrm (y := 1) rfl ?_
  refine lv_if_eq (tgt := 25) hx hb dL_hangs_4 (by decide) (fun c9 => absurd c9 (by decide)) (fun _ => ?_)
  refine lv_aload_n hx hb dL_hangs_7 rfl (lv_at hl 0 rfl) ?_
  have ct := k_cut_TT (wp := []) (T := (WW a K KS st hs sc)) (wc := []) (wr := []) (tc := [(K, .int), (KS, .object "BarcodeWand$State")]) hG hS hA hK hP hD [] [] [0, 1] rfl rfl (by decide) (by decide) (by decide) rfl
  refine k_endi (As := [.ref (a 0)]) ct (k_runS (As := [.ref (a 0)]) (rest := []) S0 Ls_L_136 ct (c_L_reading l D a K KS st hs sc hii.1 hii.2.2.1 H.size) hl.1 rfl (Nat.le_of_ble_eq_true rfl) rfl dL_hangs_8 ⟨⟨Nat.le_of_ble_eq_true rfl, Nat.le_of_ble_eq_true rfl⟩, Nat.le_of_ble_eq_true rfl, Nat.le_of_ble_eq_true rfl⟩) rfl rfl (fun r_3 sc1v_4 H locs hw_5 hP hD hK hS => ?_)
  have hK : va_K D vwCl [(K, .int), (KS, .object "BarcodeWand$State")] s := hK
  have hP : va_P D vwCl ((WW a K KS st hs sc1v_4)) H := hP
  have hD : va_D A ((WW a K KS st hs sc1v_4)) := hD
  have hw_5 : r_3 = 1 := hw_5
  have hw_5 := hw_5.symm
  subst hw_5
  refine k_nrm (y := 1) rfl ?_
  refine lv_if_eq (tgt := 25) hx hb dL_hangs_11 (by decide) (fun c9 => absurd c9 (by decide)) (fun _ => ?_)
  refine lv_aload_n hx hb dL_hangs_14 rfl (lv_at hl 0 rfl) ?_
  have ct := k_cut_TT (wp := []) (T := (WW a K KS st hs sc1v_4)) (wc := []) (wr := []) (tc := [(K, .int), (KS, .object "BarcodeWand$State")]) hG hS hA hK hP hD [] [] [0, 1] rfl rfl (by decide) (by decide) (by decide) rfl
  refine k_endi (As := [.ref (a 0)]) ct (k_runS (As := [.ref (a 0)]) (rest := []) S0 Ls_L_139 ct (c_L_list l D a K KS st hs sc1v_4 N hii.1 hii.2.2.2 hN H.size) hl.1 rfl (Nat.le_of_ble_eq_true rfl) rfl dL_hangs_15 ⟨⟨Nat.le_of_ble_eq_true rfl, Nat.le_of_ble_eq_true rfl⟩, Nat.le_of_ble_eq_true rfl, Nat.le_of_ble_eq_true rfl⟩) rfl rfl (fun r_6 _ H locs hw_7 hP hD hK hS => ?_)
  have hK : va_K D vwCl [(K, .int), (KS, .object "BarcodeWand$State")] s := hK
  have hP : va_P D vwCl ((WW a K KS st hs sc1v_4)) H := hP
  have hD : va_D A ((WW a K KS st hs sc1v_4)) := hD
  have hw_7 : r_6 = 1 := hw_7
  have hw_7 := hw_7.symm
  subst hw_7
  refine k_nrm (y := 1) rfl ?_
  refine lv_if_eq (tgt := 25) hx hb dL_hangs_18 (by decide) (fun c9 => absurd c9 (by decide)) (fun _ => ?_)
  refine lv_iconst (v := 1) hx hb dL_hangs_21 (by decide) ?_
  refine lv_goto (tgt := 26) hx hb dL_hangs_22 (by decide) ?_
  have hP9 : va_P D vwCl ((WW a K KS st hs sc1v_4)) H := k_subP (wp := []) (wp' := []) (T := (WW a K KS st hs sc1v_4)) hP [] rfl
  have hD9 : va_D A ((WW a K KS st hs sc1v_4)) := k_subD (wp := []) (wp' := []) (T := (WW a K KS st hs sc1v_4)) hD [] (by decide) rfl
  have hP9 : va_P D vwCl ((WW a K KS st hs sc1v_4)) H := hP9
  have hD9 : va_D A ((WW a K KS st hs sc1v_4)) := hD9
  have hK9 : va_K D vwCl [] s := hK.sub [] rfl
  exact W.zret (v := 1) hx hb hr (rfl) (fun t ht9 hW9 => ⟨⟨1, sc1v_4, rfl, by first | rfl | trivial | (simp only [if_true, if_false, reduceIte, and_self]; done) | simp_all, ⟨by rw [ht9]; exact hP9, va_K.moved hW9.alike hK9, hD9⟩⟩, hS.F ht9⟩) hS.2.2 dL_hangs_26
