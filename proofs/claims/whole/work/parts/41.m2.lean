set_option maxRecDepth 20000 in
theorem lf_X8_7 : Cond.fieldLink RX8 7 "BarcodeWandModel" "s" "[I" ∈ wsA := mA 787 rfl rfl
set_option maxRecDepth 20000 in
theorem lk_X8_manyElements : Cond.code yX8_manyElements cX8_manyElements 1 (some .int) ∈ wsA := mA 869 rfl rfl
theorem ly_X8_manyElements : k_y yX8_manyElements 0 := ⟨by decide +kernel, by decide +kernel, by decide +kernel⟩
set_option maxRecDepth 20000 in
theorem lm_X8_manyElements : Cond.instanceMethod yX8_manyElements ∈ wsA := mA 868 rfl rfl
theorem le_X8_manyElements : Cond.selects (yX8_manyElements).cls yX8_manyElements yX8_manyElements ∈ wsA := mS 26 rfl rfl
set_option maxRecDepth 20000 in
theorem Lv_X8_38 : k_LV RX8 38 yX8_manyElements cX8_manyElements 1 (some .int) 0 := ⟨mA 866 rfl rfl, lm_X8_manyElements, le_X8_manyElements, li_BarcodeWandModel, lk_X8_manyElements, ly_X8_manyElements⟩
set_option maxRecDepth 20000 in
theorem lk_X8_widthOf : Cond.code yX8_widthOf cX8_widthOf 4 (some .int) ∈ wsA := mA 888 rfl rfl
theorem ly_X8_widthOf : k_y yX8_widthOf 2 := ⟨by decide +kernel, by decide +kernel, by decide +kernel⟩
set_option maxRecDepth 20000 in
theorem ls_X8_widthOf : Cond.static yX8_widthOf ∈ wsA := mA 887 rfl rfl
set_option maxRecDepth 20000 in
theorem Ls_X8_42 : k_LS RX8 42 yX8_widthOf cX8_widthOf 4 (some .int) 2 := ⟨mA 886 rfl rfl, ls_X8_widthOf, li_BarcodeWandModel, lk_X8_widthOf, ly_X8_widthOf⟩
set_option maxRecDepth 20000 in
theorem lk_X8_in : Cond.code yX8_in cX8_in 3 (some .boolean) ∈ wsA := mA 838 rfl rfl
theorem ly_X8_in : k_y yX8_in 3 := ⟨by decide +kernel, by decide +kernel, by decide +kernel⟩
set_option maxRecDepth 20000 in
theorem ls_X8_in : Cond.static yX8_in ∈ wsA := mA 837 rfl rfl
set_option maxRecDepth 20000 in
theorem Ls_X8_46 : k_LS RX8 46 yX8_in cX8_in 3 (some .boolean) 3 := ⟨mA 836 rfl rfl, ls_X8_in, li_BarcodeWandModel, lk_X8_in, ly_X8_in⟩
theorem dX8_manyElements_0 : decode cX8_manyElements 0 = .ok (.aload_n 0, 1) := by decide +kernel
theorem dX8_manyElements_1 : decode cX8_manyElements 1 = .ok (.getfield 7, 3) := by decide +kernel
theorem dX8_manyElements_4 : decode cX8_manyElements 4 = .ok (.iconst 0, 1) := by decide +kernel
theorem dX8_manyElements_5 : decode cX8_manyElements 5 = .ok (.iaload, 1) := by decide +kernel
theorem dX8_manyElements_6 : decode cX8_manyElements 6 = .ok (.ifCond .ne 7, 3) := by decide +kernel
theorem dX8_manyElements_9 : decode cX8_manyElements 9 = .ok (.iconst 0, 1) := by decide +kernel
theorem dX8_manyElements_10 : decode cX8_manyElements 10 = .ok (.goto 13, 3) := by decide +kernel
theorem dX8_manyElements_13 : decode cX8_manyElements 13 = .ok (.iconst 4, 1) := by decide +kernel
theorem dX8_manyElements_14 : decode cX8_manyElements 14 = .ok (.aload_n 0, 1) := by decide +kernel
theorem dX8_manyElements_15 : decode cX8_manyElements 15 = .ok (.getfield 7, 3) := by decide +kernel
theorem dX8_manyElements_18 : decode cX8_manyElements 18 = .ok (.iconst 0, 1) := by decide +kernel
theorem dX8_manyElements_19 : decode cX8_manyElements 19 = .ok (.iaload, 1) := by decide +kernel
theorem dX8_manyElements_20 : decode cX8_manyElements 20 = .ok (.imul, 1) := by decide +kernel
theorem dX8_manyElements_21 : decode cX8_manyElements 21 = .ok (.iconst 5, 1) := by decide +kernel
theorem dX8_manyElements_22 : decode cX8_manyElements 22 = .ok (.iadd, 1) := by decide +kernel
theorem dX8_manyElements_23 : decode cX8_manyElements 23 = .ok (.ireturn, 1) := by decide +kernel
theorem dX8_elementWidth_0 : decode cX8_elementWidth 0 = .ok (.iload_n 1, 1) := by decide +kernel
theorem dX8_elementWidth_1 : decode cX8_elementWidth 1 = .ok (.iconst 3, 1) := by decide +kernel
theorem dX8_elementWidth_2 : decode cX8_elementWidth 2 = .ok (.if_icmp .lt 13, 3) := by decide +kernel
theorem dX8_elementWidth_5 : decode cX8_elementWidth 5 = .ok (.iload_n 1, 1) := by decide +kernel
theorem dX8_elementWidth_6 : decode cX8_elementWidth 6 = .ok (.aload_n 0, 1) := by decide +kernel
theorem dX8_elementWidth_7 : decode cX8_elementWidth 7 = .ok (.invokevirtual 38, 3) := by decide +kernel
theorem dX8_elementWidth_10 : decode cX8_elementWidth 10 = .ok (.iconst 2, 1) := by decide +kernel
theorem dX8_elementWidth_11 : decode cX8_elementWidth 11 = .ok (.isub, 1) := by decide +kernel
theorem dX8_elementWidth_12 : decode cX8_elementWidth 12 = .ok (.if_icmp .ne 5, 3) := by decide +kernel
theorem dX8_elementWidth_15 : decode cX8_elementWidth 15 = .ok (.iconst 1, 1) := by decide +kernel
theorem dX8_elementWidth_16 : decode cX8_elementWidth 16 = .ok (.ireturn, 1) := by decide +kernel
theorem dX8_elementWidth_17 : decode cX8_elementWidth 17 = .ok (.iload_n 1, 1) := by decide +kernel
theorem dX8_elementWidth_18 : decode cX8_elementWidth 18 = .ok (.aload_n 0, 1) := by decide +kernel
theorem dX8_elementWidth_19 : decode cX8_elementWidth 19 = .ok (.invokevirtual 38, 3) := by decide +kernel
theorem dX8_elementWidth_22 : decode cX8_elementWidth 22 = .ok (.iconst 1, 1) := by decide +kernel
theorem dX8_elementWidth_23 : decode cX8_elementWidth 23 = .ok (.isub, 1) := by decide +kernel
theorem dX8_elementWidth_24 : decode cX8_elementWidth 24 = .ok (.if_icmp .ne 7, 3) := by decide +kernel
theorem dX8_elementWidth_27 : decode cX8_elementWidth 27 = .ok (.iconst 2, 1) := by decide +kernel
theorem dX8_elementWidth_28 : decode cX8_elementWidth 28 = .ok (.goto 23, 3) := by decide +kernel
theorem dX8_elementWidth_31 : decode cX8_elementWidth 31 = .ok (.aload_n 0, 1) := by decide +kernel
theorem dX8_elementWidth_32 : decode cX8_elementWidth 32 = .ok (.getfield 7, 3) := by decide +kernel
theorem dX8_elementWidth_35 : decode cX8_elementWidth 35 = .ok (.iconst 1, 1) := by decide +kernel
theorem dX8_elementWidth_36 : decode cX8_elementWidth 36 = .ok (.iload_n 1, 1) := by decide +kernel
theorem dX8_elementWidth_37 : decode cX8_elementWidth 37 = .ok (.iconst 3, 1) := by decide +kernel
theorem dX8_elementWidth_38 : decode cX8_elementWidth 38 = .ok (.isub, 1) := by decide +kernel
theorem dX8_elementWidth_39 : decode cX8_elementWidth 39 = .ok (.iconst 4, 1) := by decide +kernel
theorem dX8_elementWidth_40 : decode cX8_elementWidth 40 = .ok (.idiv, 1) := by decide +kernel
theorem dX8_elementWidth_41 : decode cX8_elementWidth 41 = .ok (.iadd, 1) := by decide +kernel
theorem dX8_elementWidth_42 : decode cX8_elementWidth 42 = .ok (.iaload, 1) := by decide +kernel
theorem dX8_elementWidth_43 : decode cX8_elementWidth 43 = .ok (.iload_n 1, 1) := by decide +kernel
theorem dX8_elementWidth_44 : decode cX8_elementWidth 44 = .ok (.iconst 3, 1) := by decide +kernel
theorem dX8_elementWidth_45 : decode cX8_elementWidth 45 = .ok (.isub, 1) := by decide +kernel
theorem dX8_elementWidth_46 : decode cX8_elementWidth 46 = .ok (.iconst 4, 1) := by decide +kernel
theorem dX8_elementWidth_47 : decode cX8_elementWidth 47 = .ok (.irem, 1) := by decide +kernel
theorem dX8_elementWidth_48 : decode cX8_elementWidth 48 = .ok (.invokestatic 42, 3) := by decide +kernel
theorem dX8_elementWidth_51 : decode cX8_elementWidth 51 = .ok (.ireturn, 1) := by decide +kernel
theorem dX8_isElement_0 : decode cX8_isElement 0 = .ok (.iload_n 1, 1) := by decide +kernel
theorem dX8_isElement_1 : decode cX8_isElement 1 = .ok (.iconst 0, 1) := by decide +kernel
theorem dX8_isElement_2 : decode cX8_isElement 2 = .ok (.aload_n 0, 1) := by decide +kernel
theorem dX8_isElement_3 : decode cX8_isElement 3 = .ok (.invokevirtual 38, 3) := by decide +kernel
theorem dX8_isElement_6 : decode cX8_isElement 6 = .ok (.iconst 1, 1) := by decide +kernel
theorem dX8_isElement_7 : decode cX8_isElement 7 = .ok (.isub, 1) := by decide +kernel
theorem dX8_isElement_8 : decode cX8_isElement 8 = .ok (.invokestatic 46, 3) := by decide +kernel
theorem dX8_isElement_11 : decode cX8_isElement 11 = .ok (.ireturn, 1) := by decide +kernel
set_option maxHeartbeats 4000000 in
set_option maxRecDepth 100000 in
theorem c_M_many (l : Launch) (D : va_G) (mo : Nat) (ms : Nat) (sv : Int32) (mb : Nat) (ty : Int32) (th : Int32) (mk : Nat) (ml : Int32) (mfd : Nat) (mf : Int32) (sp : Int32) (on : Int32) (tw : Int32) (K : ClassId) (sf : Nat → Int32) (nd : Nat) (h0 : sf 0 = nI nd) (hnd : nd ≤ 9) (sz : Nat) : k_Mi (S := Unit) l D yX8_manyElements cX8_manyElements 1 (some .int) 0 0 0 0 [.ref mo] [(mo, .inr (8, [.ref ms, .int sv, .ref mb, .int ty, .int th, .ref mk, .int ml, .ref mfd, .int mf, .int sp, .int on, .int tw])), (ms, .inl (K, 889, .inl sf))] [(K, .int)] (fun (r : Int32) (_ : Unit) => r = (nI (lnN nd))) (fun _ => [(mo, .inr (8, [.ref ms, .int sv, .ref mb, .int ty, .int th, .ref mk, .int ml, .ref mfd, .int mf, .int sp, .int on, .int tw])), (ms, .inl (K, 889, .inl sf))]) (fun _ => []) sz := by
  refine Met.ofW (cc := cX8_manyElements) (maxL := 1) (ret := (some .int)) (by decide) rfl ?_
  intro p e s m args below meth c s₁ B hml hv
  obtain ⟨rfl, hsz, hP, hK, hD0, hG⟩ := hv
  have hx := B.exec
  have hb := B.bytes
  have hr := B.returns
  have ht : ∀ v9 ∈ wsA, v9.before ([.ref mo] : List Value).toArray s = true := fun v9 h9 => atoms_spec (ws := k_ws yX8_manyElements cX8_manyElements 1 (some .int)) B.pre v9 (List.mem_cons_of_mem _ h9)
  have hown : s.vm.findClass RX8 = some m.cls := findClass_of_methodNamed B.named
  have S0 : k_C p s m ([.ref mo] : List Value).toArray c cX8_manyElements 1 RX8 := ⟨hx, hb, hml, hown, ht⟩
  have hlocks := B.notSynchronized
  subst hsz
  have hD := hD0.self (sz := s.heap.size)
  generalize hAe : va_A [(mo, .inr (8, [.ref ms, .int sv, .ref mb, .int ty, .int th, .ref mk, .int ml, .ref mfd, .int mf, .int sp, .int on, .int tw])), (ms, .inl (K, 889, .inl sf))] s.heap.size = A at hD hG ⊢
  have hA : ∀ q : Nat, s.heap.size ≤ q → A q := fun q h => by rw [← hAe]; exact Or.inr h
  have hS : va_S A s.heap s.heap [] := va_S.rf
  have hl := lv_entry ([.ref mo]) (n := 1) (Nat.le_of_ble_eq_true rfl)
  rw [lg_entry_eq]
  generalize (lg_sl ([.ref mo]) ++ List.replicate (1 - (lg_sl ([.ref mo])).length) Slot.unset).toArray = ls at hl ⊢
  have hl : lv_has ls 1 [(0, .ref mo)] := hl
  have hP : va_P D vwCl [(mo, .inr (8, [.ref ms, .int sv, .ref mb, .int ty, .int th, .ref mk, .int ml, .ref mfd, .int mf, .int sp, .int on, .int tw])), (ms, .inl (K, 889, .inl sf))] s.heap := hP
  refine lv_aload_n hx hb dX8_manyElements_0 rfl (lv_at hl 0 rfl) ?_
  refine va_get (D := D) (ci := 8) (v := .ref ms) (C := RX8) (T := TX8) (N := 12) hx hb ht inA_X8 hown hK hP 0 rfl rfl 0 (by decide) (ht _ lf_X8_7) (fun _ h9 => h9) rfl dX8_manyElements_1 ?_
  refine lv_iconst (v := 0) hx hb dX8_manyElements_4 (by decide) ?_
  refine va_iald hx hb hK hP 1 0 rfl rfl (by unfold vp_in; decide) dX8_manyElements_5 ?_
  refine k_nrm (y := (nI nd)) (show sf (0 : Int32).toNatClampNeg = (nI nd) from h0) ?_
  refine lv_if_ne (tgt := 13) hx hb dX8_manyElements_6 (by decide) (fun c_1 => ?_) (fun c_1 => ?_)
  · have hc9 := c_1
    refine lv_iconst (v := 4) hx hb dX8_manyElements_13 (by decide) ?_
    refine lv_aload_n hx hb dX8_manyElements_14 rfl (lv_at hl 0 rfl) ?_
    refine va_get (D := D) (ci := 8) (v := .ref ms) (C := RX8) (T := TX8) (N := 12) hx hb ht inA_X8 hown hK hP 0 rfl rfl 0 (by decide) (ht _ lf_X8_7) (fun _ h9 => h9) rfl dX8_manyElements_15 ?_
    refine lv_iconst (v := 0) hx hb dX8_manyElements_18 (by decide) ?_
    refine va_iald hx hb hK hP 1 0 rfl rfl (by unfold vp_in; decide) dX8_manyElements_19 ?_
    refine k_nrm (y := (nI nd)) (show sf (0 : Int32).toNatClampNeg = (nI nd) from h0) ?_
    refine lv_imul hx hb dX8_manyElements_20 ?_
    refine k_nrm (y := (nI (4 * nd))) (pk_mul 4 nd) ?_
    refine lv_iconst (v := 5) hx hb dX8_manyElements_21 (by decide) ?_
    refine lv_iadd hx hb dX8_manyElements_22 ?_
    refine k_nrm (y := (nI (4 * nd + 5))) (nI_add (4 * nd) 5) ?_
    have hP9 : va_P D vwCl [(mo, .inr (8, [.ref ms, .int sv, .ref mb, .int ty, .int th, .ref mk, .int ml, .ref mfd, .int mf, .int sp, .int on, .int tw])), (ms, .inl (K, 889, .inl sf))] s.heap := hP.sub [0, 1] rfl
    have hD9 : va_D A [(mo, .inr (8, [.ref ms, .int sv, .ref mb, .int ty, .int th, .ref mk, .int ml, .ref mfd, .int mf, .int sp, .int on, .int tw])), (ms, .inl (K, 889, .inl sf))] := hD.sub [0, 1] (by decide) rfl
    have hK9 : va_K D vwCl [] s := hK.sub [] rfl
    exact W.iret (v := (nI (4 * nd + 5))) hx hb hr (fun t ht9 hW9 => ⟨⟨(nI (4 * nd + 5)), (), rfl, by (show nI (4 * nd + 5) = nI (lnN nd); rw [lnN_1 (fun q9 => c_1 (by rw [q9]; rfl))]), ⟨by rw [ht9]; exact hP9, va_K.moved hW9.alike hK9, hD9⟩⟩, hS.F ht9⟩) hS.2.2 dX8_manyElements_23
  · have hc9 := c_1
    refine lv_iconst (v := 0) hx hb dX8_manyElements_9 (by decide) ?_
    refine lv_goto (tgt := 23) hx hb dX8_manyElements_10 (by decide) ?_
    have hP9 : va_P D vwCl [(mo, .inr (8, [.ref ms, .int sv, .ref mb, .int ty, .int th, .ref mk, .int ml, .ref mfd, .int mf, .int sp, .int on, .int tw])), (ms, .inl (K, 889, .inl sf))] s.heap := hP.sub [0, 1] rfl
    have hD9 : va_D A [(mo, .inr (8, [.ref ms, .int sv, .ref mb, .int ty, .int th, .ref mk, .int ml, .ref mfd, .int mf, .int sp, .int on, .int tw])), (ms, .inl (K, 889, .inl sf))] := hD.sub [0, 1] (by decide) rfl
    have hK9 : va_K D vwCl [] s := hK.sub [] rfl
    exact W.iret (v := 0) hx hb hr (fun t ht9 hW9 => ⟨⟨0, (), rfl, by (show (0 : Int32) = nI (lnN nd); rw [lnN_0 (nz_0 (by omega) c_1)]; rfl), ⟨by rw [ht9]; exact hP9, va_K.moved hW9.alike hK9, hD9⟩⟩, hS.F ht9⟩) hS.2.2 dX8_manyElements_23
set_option maxHeartbeats 4000000 in
set_option maxRecDepth 100000 in
theorem c_M_width_ (l : Launch) (D : va_G) (mo : Nat) (ms : Nat) (sv : Int32) (mb : Nat) (ty : Int32) (th : Int32) (mk : Nat) (ml : Int32) (mfd : Nat) (mf : Int32) (sp : Int32) (on : Int32) (tw : Int32) (K : ClassId) (sf : Nat → Int32) (nd : Nat) (df : Nat → Int32) (ns : Nat) (ei : Nat) (hns : ns = lnN nd) (hen : ei < ns) (h0 : sf 0 = nI nd) (hnd : nd ≤ 9) (hdf : ∀ j, j < nd → sf (1 + j) = df j) (hdg : ∀ j, j < nd → ∃ d, d ≤ 9 ∧ df j = nI d) (sz : Nat) : k_Mi (S := Unit) l D yX8_elementWidth cX8_elementWidth 2 (some .int) 2 0 0 43 [.ref mo, .int (nI ei)] [(mo, .inr (8, [.ref ms, .int sv, .ref mb, .int ty, .int th, .ref mk, .int ml, .ref mfd, .int mf, .int sp, .int on, .int tw])), (ms, .inl (K, 889, .inl sf))] [(K, .int)] (fun (r : Int32) (_ : Unit) => r = (widF nd df (nI ns) (nI ei))) (fun _ => [(mo, .inr (8, [.ref ms, .int sv, .ref mb, .int ty, .int th, .ref mk, .int ml, .ref mfd, .int mf, .int sp, .int on, .int tw])), (ms, .inl (K, 889, .inl sf))]) (fun _ => []) sz := by
  refine Met.ofW (cc := cX8_elementWidth) (maxL := 2) (ret := (some .int)) (by decide) rfl ?_
  intro p e s m args below meth c s₁ B hml hv
  obtain ⟨rfl, hsz, hP, hK, hD0, hG⟩ := hv
  have hx := B.exec
  have hb := B.bytes
  have hr := B.returns
  have ht : ∀ v9 ∈ wsA, v9.before ([.ref mo, .int (nI ei)] : List Value).toArray s = true := fun v9 h9 => atoms_spec (ws := k_ws yX8_elementWidth cX8_elementWidth 2 (some .int)) B.pre v9 (List.mem_cons_of_mem _ h9)
  have hown : s.vm.findClass RX8 = some m.cls := findClass_of_methodNamed B.named
  have S0 : k_C p s m ([.ref mo, .int (nI ei)] : List Value).toArray c cX8_elementWidth 2 RX8 := ⟨hx, hb, hml, hown, ht⟩
  have hlocks := B.notSynchronized
  subst hsz
  have hD := hD0.self (sz := s.heap.size)
  generalize hAe : va_A [(mo, .inr (8, [.ref ms, .int sv, .ref mb, .int ty, .int th, .ref mk, .int ml, .ref mfd, .int mf, .int sp, .int on, .int tw])), (ms, .inl (K, 889, .inl sf))] s.heap.size = A at hD hG ⊢
  have hA : ∀ q : Nat, s.heap.size ≤ q → A q := fun q h => by rw [← hAe]; exact Or.inr h
  have hS : va_S A s.heap s.heap [] := va_S.rf
  have hl := lv_entry ([.ref mo, .int (nI ei)]) (n := 2) (Nat.le_of_ble_eq_true rfl)
  rw [lg_entry_eq]
  generalize (lg_sl ([.ref mo, .int (nI ei)]) ++ List.replicate (2 - (lg_sl ([.ref mo, .int (nI ei)])).length) Slot.unset).toArray = ls at hl ⊢
  have hl : lv_has ls 2 [(0, .ref mo), (1, .int (nI ei))] := hl
  have hP : va_P D vwCl [(mo, .inr (8, [.ref ms, .int sv, .ref mb, .int ty, .int th, .ref mk, .int ml, .ref mfd, .int mf, .int sp, .int on, .int tw])), (ms, .inl (K, 889, .inl sf))] s.heap := hP
  refine lv_iload_n hx hb dX8_elementWidth_0 rfl (lv_at hl 1 rfl) ?_
  refine lv_iconst (v := 3) hx hb dX8_elementWidth_1 (by decide) ?_
  refine lv_icmp_lt (tgt := 15) hx hb dX8_elementWidth_2 (by decide) (fun c_1 => ?_) (fun c_1 => ?_)
  · have hc9 := c_1
    refine lv_iconst (v := 1) hx hb dX8_elementWidth_15 (by decide) ?_
    have hP9 : va_P D vwCl [(mo, .inr (8, [.ref ms, .int sv, .ref mb, .int ty, .int th, .ref mk, .int ml, .ref mfd, .int mf, .int sp, .int on, .int tw])), (ms, .inl (K, 889, .inl sf))] s.heap := hP.sub [0, 1] rfl
    have hD9 : va_D A [(mo, .inr (8, [.ref ms, .int sv, .ref mb, .int ty, .int th, .ref mk, .int ml, .ref mfd, .int mf, .int sp, .int on, .int tw])), (ms, .inl (K, 889, .inl sf))] := hD.sub [0, 1] (by decide) rfl
    have hK9 : va_K D vwCl [] s := hK.sub [] rfl
    exact W.iret (v := 1) hx hb hr (fun t ht9 hW9 => ⟨⟨1, (), rfl, by (exact (wid_g c_1).symm), ⟨by rw [ht9]; exact hP9, va_K.moved hW9.alike hK9, hD9⟩⟩, hS.F ht9⟩) hS.2.2 dX8_elementWidth_16
  · have hc9 := c_1
    refine lv_iload_n hx hb dX8_elementWidth_5 rfl (lv_at hl 1 rfl) ?_
    refine lv_aload_n hx hb dX8_elementWidth_6 rfl (lv_at hl 0 rfl) ?_
    have ct := k_cut_of (wc := [(mo, .inr (8, [.ref ms, .int sv, .ref mb, .int ty, .int th, .ref mk, .int ml, .ref mfd, .int mf, .int sp, .int on, .int tw])), (ms, .inl (K, 889, .inl sf))]) (wr := []) (tc := [(K, .int)]) hG hS hA hK hP hD [0, 1] [] [0] rfl rfl (by decide) (by decide) (by decide) rfl
    refine k_endi (As := [.ref mo]) ct (k_runV (As := []) (rest := [.int (nI ei)]) S0 Lv_X8_38 rfl (ci := 8) (q0 := 0) rfl rfl ct (c_M_many l D mo ms sv mb ty th mk ml mfd mf sp on tw K sf nd (by assumption) (by first | assumption | omega) s.heap.size) hl.1 rfl (Nat.le_of_ble_eq_true rfl) rfl dX8_elementWidth_7 ⟨⟨Nat.le_of_ble_eq_true rfl, Nat.le_of_ble_eq_true rfl⟩, Nat.le_of_ble_eq_true rfl, Nat.le_of_ble_eq_true rfl⟩) rfl rfl (fun r_2 _ H locs hw_3 hP hD hK hS => ?_)
    have hK : va_K D vwCl [(K, .int)] s := hK
    have hP : va_P D vwCl [(mo, .inr (8, [.ref ms, .int sv, .ref mb, .int ty, .int th, .ref mk, .int ml, .ref mfd, .int mf, .int sp, .int on, .int tw])), (ms, .inl (K, 889, .inl sf))] H := hP
    have hD : va_D A [(mo, .inr (8, [.ref ms, .int sv, .ref mb, .int ty, .int th, .ref mk, .int ml, .ref mfd, .int mf, .int sp, .int on, .int tw])), (ms, .inl (K, 889, .inl sf))] := hD
    have hw_3 : r_2 = (nI (lnN nd)) := hw_3
    have hw_3 := hw_3.symm
    subst hw_3
    refine k_nrm (y := (nI (lnN nd))) rfl ?_
    refine k_nrm (y := nI ns) (by rw [hns]) ?_
    refine lv_iconst (v := 2) hx hb dX8_elementWidth_10 (by decide) ?_
    refine lv_isub hx hb dX8_elementWidth_11 ?_
    refine k_nrm (y := (nI ns - 2)) (rfl) ?_
    refine lv_icmp_ne (tgt := 17) hx hb dX8_elementWidth_12 (by decide) (fun c_4 => ?_) (fun c_4 => ?_)
    · have hc9 := c_4
      refine lv_iload_n hx hb dX8_elementWidth_17 rfl (lv_at hl 1 rfl) ?_
      refine lv_aload_n hx hb dX8_elementWidth_18 rfl (lv_at hl 0 rfl) ?_
      have ct := k_cut_of (wc := [(mo, .inr (8, [.ref ms, .int sv, .ref mb, .int ty, .int th, .ref mk, .int ml, .ref mfd, .int mf, .int sp, .int on, .int tw])), (ms, .inl (K, 889, .inl sf))]) (wr := []) (tc := [(K, .int)]) hG hS hA hK hP hD [0, 1] [] [0] rfl rfl (by decide) (by decide) (by decide) rfl
      refine k_endi (As := [.ref mo]) ct (k_runV (As := []) (rest := [.int (nI ei)]) S0 Lv_X8_38 rfl (ci := 8) (q0 := 0) rfl rfl ct (c_M_many l D mo ms sv mb ty th mk ml mfd mf sp on tw K sf nd (by assumption) (by first | assumption | omega) H.size) hl.1 rfl (Nat.le_of_ble_eq_true rfl) rfl dX8_elementWidth_19 ⟨⟨Nat.le_of_ble_eq_true rfl, Nat.le_of_ble_eq_true rfl⟩, Nat.le_of_ble_eq_true rfl, Nat.le_of_ble_eq_true rfl⟩) rfl rfl (fun r_5 _ H locs hw_6 hP hD hK hS => ?_)
      have hK : va_K D vwCl [(K, .int)] s := hK
      have hP : va_P D vwCl [(mo, .inr (8, [.ref ms, .int sv, .ref mb, .int ty, .int th, .ref mk, .int ml, .ref mfd, .int mf, .int sp, .int on, .int tw])), (ms, .inl (K, 889, .inl sf))] H := hP
      have hD : va_D A [(mo, .inr (8, [.ref ms, .int sv, .ref mb, .int ty, .int th, .ref mk, .int ml, .ref mfd, .int mf, .int sp, .int on, .int tw])), (ms, .inl (K, 889, .inl sf))] := hD
      have hw_6 : r_5 = (nI (lnN nd)) := hw_6
      have hw_6 := hw_6.symm
      subst hw_6
      refine k_nrm (y := (nI (lnN nd))) rfl ?_
      refine k_nrm (y := nI ns) (by rw [hns]) ?_
      refine lv_iconst (v := 1) hx hb dX8_elementWidth_22 (by decide) ?_
      refine lv_isub hx hb dX8_elementWidth_23 ?_
      refine k_nrm (y := (nI ns - 1)) (rfl) ?_
      refine lv_icmp_ne (tgt := 31) hx hb dX8_elementWidth_24 (by decide) (fun c_7 => ?_) (fun c_7 => ?_)
      · have hc9 := c_7
        have he3 : 3 ≤ ei := by rcases Nat.lt_or_ge ei 3 with q9 | q9; exact absurd (nI_lt (b := 3) q9 (by decide)) c_1; exact q9
        obtain ⟨hn1, hn2⟩ := ew_lt (e := ei) hns (by omega) hen c_4 c_7
        obtain ⟨d, hd9, hd⟩ := hdg ((ei - 3) / 4) (by omega)
        refine lv_aload_n hx hb dX8_elementWidth_31 rfl (lv_at hl 0 rfl) ?_
        refine va_get (D := D) (ci := 8) (v := .ref ms) (C := RX8) (T := TX8) (N := 12) hx hb ht inA_X8 hown hK hP 0 rfl rfl 0 (by decide) (ht _ lf_X8_7) (fun _ h9 => h9) rfl dX8_elementWidth_32 ?_
        refine lv_iconst (v := 1) hx hb dX8_elementWidth_35 (by decide) ?_
        refine lv_iload_n hx hb dX8_elementWidth_36 rfl (lv_at hl 1 rfl) ?_
        refine lv_iconst (v := 3) hx hb dX8_elementWidth_37 (by decide) ?_
        refine lv_isub hx hb dX8_elementWidth_38 ?_
        refine k_nrm (y := (nI (ei - 3))) (pk_sub (b := 3) he3) ?_
        refine lv_iconst (v := 4) hx hb dX8_elementWidth_39 (by decide) ?_
        refine lv_idiv hx hb dX8_elementWidth_40 (by decide) ?_
        refine k_nrm (y := (nI ((ei - 3) / 4))) (pk_div (d := 4) (by omega) (by decide) (by decide)) ?_
        refine lv_iadd hx hb dX8_elementWidth_41 ?_
        refine k_nrm (y := (nI (1 + (ei - 3) / 4))) (nI_add 1 _) ?_
        refine va_iald hx hb hK hP 1 0 rfl rfl (vp_in_nI (by omega) (by decide)) dX8_elementWidth_42 ?_
        refine k_nrm (y := (nI d)) (by rw [nI_clamp (by omega), hdf _ (by omega)]; exact hd) ?_
        refine lv_iload_n hx hb dX8_elementWidth_43 rfl (lv_at hl 1 rfl) ?_
        refine lv_iconst (v := 3) hx hb dX8_elementWidth_44 (by decide) ?_
        refine lv_isub hx hb dX8_elementWidth_45 ?_
        refine k_nrm (y := (nI (ei - 3))) (pk_sub (b := 3) he3) ?_
        refine lv_iconst (v := 4) hx hb dX8_elementWidth_46 (by decide) ?_
        refine lv_irem hx hb dX8_elementWidth_47 (by decide) ?_
        refine k_nrm (y := (nI ((ei - 3) % 4))) (pk_rem (d := 4) (by omega) (by decide) (by decide)) ?_
        have ct := k_cut_of (wc := []) (wr := [(mo, .inr (8, [.ref ms, .int sv, .ref mb, .int ty, .int th, .ref mk, .int ml, .ref mfd, .int mf, .int sp, .int on, .int tw])), (ms, .inl (K, 889, .inl sf))]) (tc := []) hG hS hA hK hP hD [] [0, 1] [] rfl rfl (by decide) (by decide) (by decide) rfl
        refine k_endi (As := [.int (nI d), .int (nI ((ei - 3) % 4))]) ct (k_runS (As := [.int (nI d), .int (nI ((ei - 3) % 4))]) (rest := []) S0 Ls_X8_42 ct (c_M_widthOfN l D d ((ei - 3) % 4) (by first | assumption | omega) (by first | assumption | omega) H.size) hl.1 rfl (Nat.le_of_ble_eq_true rfl) rfl dX8_elementWidth_48 ⟨⟨Nat.le_of_ble_eq_true rfl, Nat.le_of_ble_eq_true rfl⟩, Nat.le_of_ble_eq_true rfl, Nat.le_of_ble_eq_true rfl⟩) rfl rfl (fun r_8 _ H locs hw_9 hP hD hK hS => ?_)
        have hK : va_K D vwCl [(K, .int)] s := hK
        have hP : va_P D vwCl [(mo, .inr (8, [.ref ms, .int sv, .ref mb, .int ty, .int th, .ref mk, .int ml, .ref mfd, .int mf, .int sp, .int on, .int tw])), (ms, .inl (K, 889, .inl sf))] H := hP
        have hD : va_D A [(mo, .inr (8, [.ref ms, .int sv, .ref mb, .int ty, .int th, .ref mk, .int ml, .ref mfd, .int mf, .int sp, .int on, .int tw])), (ms, .inl (K, 889, .inl sf))] := hD
        have hw_9 : r_8 = (wdt (4 * d + ((ei - 3) % 4))) := hw_9
        have hw_9 := hw_9.symm
        subst hw_9
        refine k_nrm (y := (wdt (4 * d + ((ei - 3) % 4)))) rfl ?_
        have hP9 : va_P D vwCl [(mo, .inr (8, [.ref ms, .int sv, .ref mb, .int ty, .int th, .ref mk, .int ml, .ref mfd, .int mf, .int sp, .int on, .int tw])), (ms, .inl (K, 889, .inl sf))] H := hP.sub [0, 1] rfl
        have hD9 : va_D A [(mo, .inr (8, [.ref ms, .int sv, .ref mb, .int ty, .int th, .ref mk, .int ml, .ref mfd, .int mf, .int sp, .int on, .int tw])), (ms, .inl (K, 889, .inl sf))] := hD.sub [0, 1] (by decide) rfl
        have hK9 : va_K D vwCl [] s := hK.sub [] rfl
        exact W.iret (v := (wdt (4 * d + ((ei - 3) % 4)))) hx hb hr (fun t ht9 hW9 => ⟨⟨(wdt (4 * d + ((ei - 3) % 4))), (), rfl, by (exact ew_in hnd hn1 he3 hn2 hd9 hd), ⟨by rw [ht9]; exact hP9, va_K.moved hW9.alike hK9, hD9⟩⟩, hS.F ht9⟩) hS.2.2 dX8_elementWidth_51
      · have hc9 := c_7
        refine lv_iconst (v := 2) hx hb dX8_elementWidth_27 (by decide) ?_
        refine lv_goto (tgt := 51) hx hb dX8_elementWidth_28 (by decide) ?_
        have hP9 : va_P D vwCl [(mo, .inr (8, [.ref ms, .int sv, .ref mb, .int ty, .int th, .ref mk, .int ml, .ref mfd, .int mf, .int sp, .int on, .int tw])), (ms, .inl (K, 889, .inl sf))] H := hP.sub [0, 1] rfl
        have hD9 : va_D A [(mo, .inr (8, [.ref ms, .int sv, .ref mb, .int ty, .int th, .ref mk, .int ml, .ref mfd, .int mf, .int sp, .int on, .int tw])), (ms, .inl (K, 889, .inl sf))] := hD.sub [0, 1] (by decide) rfl
        have hK9 : va_K D vwCl [] s := hK.sub [] rfl
        exact W.iret (v := 2) hx hb hr (fun t ht9 hW9 => ⟨⟨2, (), rfl, by (rw [c_7]; exact (wid_s (ew_9 hns hen) (ew_41 hns hnd)).2.symm), ⟨by rw [ht9]; exact hP9, va_K.moved hW9.alike hK9, hD9⟩⟩, hS.F ht9⟩) hS.2.2 dX8_elementWidth_51
    · have hc9 := c_4
      refine lv_iconst (v := 1) hx hb dX8_elementWidth_15 (by decide) ?_
      have hP9 : va_P D vwCl [(mo, .inr (8, [.ref ms, .int sv, .ref mb, .int ty, .int th, .ref mk, .int ml, .ref mfd, .int mf, .int sp, .int on, .int tw])), (ms, .inl (K, 889, .inl sf))] H := hP.sub [0, 1] rfl
      have hD9 : va_D A [(mo, .inr (8, [.ref ms, .int sv, .ref mb, .int ty, .int th, .ref mk, .int ml, .ref mfd, .int mf, .int sp, .int on, .int tw])), (ms, .inl (K, 889, .inl sf))] := hD.sub [0, 1] (by decide) rfl
      have hK9 : va_K D vwCl [] s := hK.sub [] rfl
      exact W.iret (v := 1) hx hb hr (fun t ht9 hW9 => ⟨⟨1, (), rfl, by (rw [c_4]; exact (wid_s (ew_9 hns hen) (ew_41 hns hnd)).1.symm), ⟨by rw [ht9]; exact hP9, va_K.moved hW9.alike hK9, hD9⟩⟩, hS.F ht9⟩) hS.2.2 dX8_elementWidth_16
set_option maxHeartbeats 4000000 in
set_option maxRecDepth 100000 in
theorem c_M_isEl1 (l : Launch) (D : va_G) (mo : Nat) (ms : Nat) (sv : Int32) (mb : Nat) (ty : Int32) (th : Int32) (mk : Nat) (ml : Int32) (mfd : Nat) (mf : Int32) (sp : Int32) (on : Int32) (tw : Int32) (K : ClassId) (sf : Nat → Int32) (v : Int32) (nd : Nat) (hxi : inR v (nI (lnN nd)) = 1) (h0 : sf 0 = nI nd) (hnd : nd ≤ 9) (sz : Nat) : k_Mi (S := Unit) l D yX8_isElement cX8_isElement 2 (some .boolean) 1 0 0 22 [.ref mo, .int v] [(mo, .inr (8, [.ref ms, .int sv, .ref mb, .int ty, .int th, .ref mk, .int ml, .ref mfd, .int mf, .int sp, .int on, .int tw])), (ms, .inl (K, 889, .inl sf))] [(K, .int)] (fun (r : Int32) (_ : Unit) => r = (1)) (fun _ => [(mo, .inr (8, [.ref ms, .int sv, .ref mb, .int ty, .int th, .ref mk, .int ml, .ref mfd, .int mf, .int sp, .int on, .int tw])), (ms, .inl (K, 889, .inl sf))]) (fun _ => []) sz := by
  refine Met.ofW (cc := cX8_isElement) (maxL := 2) (ret := (some .boolean)) (by decide) rfl ?_
  intro p e s m args below meth c s₁ B hml hv
  obtain ⟨rfl, hsz, hP, hK, hD0, hG⟩ := hv
  have hx := B.exec
  have hb := B.bytes
  have hr := B.returns
  have ht : ∀ v9 ∈ wsA, v9.before ([.ref mo, .int v] : List Value).toArray s = true := fun v9 h9 => atoms_spec (ws := k_ws yX8_isElement cX8_isElement 2 (some .boolean)) B.pre v9 (List.mem_cons_of_mem _ h9)
  have hown : s.vm.findClass RX8 = some m.cls := findClass_of_methodNamed B.named
  have S0 : k_C p s m ([.ref mo, .int v] : List Value).toArray c cX8_isElement 2 RX8 := ⟨hx, hb, hml, hown, ht⟩
  have hlocks := B.notSynchronized
  subst hsz
  have hD := hD0.self (sz := s.heap.size)
  generalize hAe : va_A [(mo, .inr (8, [.ref ms, .int sv, .ref mb, .int ty, .int th, .ref mk, .int ml, .ref mfd, .int mf, .int sp, .int on, .int tw])), (ms, .inl (K, 889, .inl sf))] s.heap.size = A at hD hG ⊢
  have hA : ∀ q : Nat, s.heap.size ≤ q → A q := fun q h => by rw [← hAe]; exact Or.inr h
  have hS : va_S A s.heap s.heap [] := va_S.rf
  have hl := lv_entry ([.ref mo, .int v]) (n := 2) (Nat.le_of_ble_eq_true rfl)
  rw [lg_entry_eq]
  generalize (lg_sl ([.ref mo, .int v]) ++ List.replicate (2 - (lg_sl ([.ref mo, .int v])).length) Slot.unset).toArray = ls at hl ⊢
  have hl : lv_has ls 2 [(0, .ref mo), (1, .int v)] := hl
  have hP : va_P D vwCl [(mo, .inr (8, [.ref ms, .int sv, .ref mb, .int ty, .int th, .ref mk, .int ml, .ref mfd, .int mf, .int sp, .int on, .int tw])), (ms, .inl (K, 889, .inl sf))] s.heap := hP
  refine lv_iload_n hx hb dX8_isElement_0 rfl (lv_at hl 1 rfl) ?_
  refine lv_iconst (v := 0) hx hb dX8_isElement_1 (by decide) ?_
  refine lv_aload_n hx hb dX8_isElement_2 rfl (lv_at hl 0 rfl) ?_
  have ct := k_cut_of (wc := [(mo, .inr (8, [.ref ms, .int sv, .ref mb, .int ty, .int th, .ref mk, .int ml, .ref mfd, .int mf, .int sp, .int on, .int tw])), (ms, .inl (K, 889, .inl sf))]) (wr := []) (tc := [(K, .int)]) hG hS hA hK hP hD [0, 1] [] [0] rfl rfl (by decide) (by decide) (by decide) rfl
  refine k_endi (As := [.ref mo]) ct (k_runV (As := []) (rest := [.int 0, .int v]) S0 Lv_X8_38 rfl (ci := 8) (q0 := 0) rfl rfl ct (c_M_many l D mo ms sv mb ty th mk ml mfd mf sp on tw K sf nd (by assumption) (by first | assumption | omega) s.heap.size) hl.1 rfl (Nat.le_of_ble_eq_true rfl) rfl dX8_isElement_3 ⟨⟨Nat.le_of_ble_eq_true rfl, Nat.le_of_ble_eq_true rfl⟩, Nat.le_of_ble_eq_true rfl, Nat.le_of_ble_eq_true rfl⟩) rfl rfl (fun r_1 _ H locs hw_2 hP hD hK hS => ?_)
  have hK : va_K D vwCl [(K, .int)] s := hK
  have hP : va_P D vwCl [(mo, .inr (8, [.ref ms, .int sv, .ref mb, .int ty, .int th, .ref mk, .int ml, .ref mfd, .int mf, .int sp, .int on, .int tw])), (ms, .inl (K, 889, .inl sf))] H := hP
  have hD : va_D A [(mo, .inr (8, [.ref ms, .int sv, .ref mb, .int ty, .int th, .ref mk, .int ml, .ref mfd, .int mf, .int sp, .int on, .int tw])), (ms, .inl (K, 889, .inl sf))] := hD
  have hw_2 : r_1 = (nI (lnN nd)) := hw_2
  have hw_2 := hw_2.symm
  subst hw_2
  refine k_nrm (y := (nI (lnN nd))) rfl ?_
  refine lv_iconst (v := 1) hx hb dX8_isElement_6 (by decide) ?_
  refine lv_isub hx hb dX8_isElement_7 ?_
  refine k_nrm (y := (nI (lnN nd) - 1)) (rfl) ?_
  have ct := k_cut_of (wc := []) (wr := [(mo, .inr (8, [.ref ms, .int sv, .ref mb, .int ty, .int th, .ref mk, .int ml, .ref mfd, .int mf, .int sp, .int on, .int tw])), (ms, .inl (K, 889, .inl sf))]) (tc := []) hG hS hA hK hP hD [] [0, 1] [] rfl rfl (by decide) (by decide) (by decide) rfl
  refine k_endi (As := [.int v, .int 0, .int (nI (lnN nd) - 1)]) ct (k_runS (As := [.int v, .int 0, .int (nI (lnN nd) - 1)]) (rest := []) S0 Ls_X8_46 ct (c_M_in1 l D v 0 (nI (lnN nd) - 1) ((in_1 (lnN_41 hnd) hxi).1) ((in_1 (lnN_41 hnd) hxi).2) H.size) hl.1 rfl (Nat.le_of_ble_eq_true rfl) rfl dX8_isElement_8 ⟨⟨Nat.le_of_ble_eq_true rfl, Nat.le_of_ble_eq_true rfl⟩, Nat.le_of_ble_eq_true rfl, Nat.le_of_ble_eq_true rfl⟩) rfl rfl (fun r_3 _ H locs hw_4 hP hD hK hS => ?_)
  have hK : va_K D vwCl [(K, .int)] s := hK
  have hP : va_P D vwCl [(mo, .inr (8, [.ref ms, .int sv, .ref mb, .int ty, .int th, .ref mk, .int ml, .ref mfd, .int mf, .int sp, .int on, .int tw])), (ms, .inl (K, 889, .inl sf))] H := hP
  have hD : va_D A [(mo, .inr (8, [.ref ms, .int sv, .ref mb, .int ty, .int th, .ref mk, .int ml, .ref mfd, .int mf, .int sp, .int on, .int tw])), (ms, .inl (K, 889, .inl sf))] := hD
  have hw_4 : r_3 = (1) := hw_4
  have hw_4 := hw_4.symm
  subst hw_4
  refine k_nrm (y := 1) rfl ?_
  have hP9 : va_P D vwCl [(mo, .inr (8, [.ref ms, .int sv, .ref mb, .int ty, .int th, .ref mk, .int ml, .ref mfd, .int mf, .int sp, .int on, .int tw])), (ms, .inl (K, 889, .inl sf))] H := hP.sub [0, 1] rfl
  have hD9 : va_D A [(mo, .inr (8, [.ref ms, .int sv, .ref mb, .int ty, .int th, .ref mk, .int ml, .ref mfd, .int mf, .int sp, .int on, .int tw])), (ms, .inl (K, 889, .inl sf))] := hD.sub [0, 1] (by decide) rfl
  have hK9 : va_K D vwCl [] s := hK.sub [] rfl
  exact W.zret (v := 1) hx hb hr (rfl) (fun t ht9 hW9 => ⟨⟨1, (), rfl, by first | rfl | trivial | (simp only [if_true, if_false, reduceIte, and_self]; done) | simp_all, ⟨by rw [ht9]; exact hP9, va_K.moved hW9.alike hK9, hD9⟩⟩, hS.F ht9⟩) hS.2.2 dX8_isElement_11
set_option maxHeartbeats 4000000 in
set_option maxRecDepth 100000 in
theorem c_M_isEl0 (l : Launch) (D : va_G) (mo : Nat) (ms : Nat) (sv : Int32) (mb : Nat) (ty : Int32) (th : Int32) (mk : Nat) (ml : Int32) (mfd : Nat) (mf : Int32) (sp : Int32) (on : Int32) (tw : Int32) (K : ClassId) (sf : Nat → Int32) (v : Int32) (nd : Nat) (hxi : inR v (nI (lnN nd)) = 0) (h0 : sf 0 = nI nd) (hnd : nd ≤ 9) (sz : Nat) : k_Mi (S := Unit) l D yX8_isElement cX8_isElement 2 (some .boolean) 1 0 0 22 [.ref mo, .int v] [(mo, .inr (8, [.ref ms, .int sv, .ref mb, .int ty, .int th, .ref mk, .int ml, .ref mfd, .int mf, .int sp, .int on, .int tw])), (ms, .inl (K, 889, .inl sf))] [(K, .int)] (fun (r : Int32) (_ : Unit) => r = (0)) (fun _ => [(mo, .inr (8, [.ref ms, .int sv, .ref mb, .int ty, .int th, .ref mk, .int ml, .ref mfd, .int mf, .int sp, .int on, .int tw])), (ms, .inl (K, 889, .inl sf))]) (fun _ => []) sz := by
  refine Met.ofW (cc := cX8_isElement) (maxL := 2) (ret := (some .boolean)) (by decide) rfl ?_
  intro p e s m args below meth c s₁ B hml hv
  obtain ⟨rfl, hsz, hP, hK, hD0, hG⟩ := hv
  have hx := B.exec
  have hb := B.bytes
  have hr := B.returns
  have ht : ∀ v9 ∈ wsA, v9.before ([.ref mo, .int v] : List Value).toArray s = true := fun v9 h9 => atoms_spec (ws := k_ws yX8_isElement cX8_isElement 2 (some .boolean)) B.pre v9 (List.mem_cons_of_mem _ h9)
  have hown : s.vm.findClass RX8 = some m.cls := findClass_of_methodNamed B.named
  have S0 : k_C p s m ([.ref mo, .int v] : List Value).toArray c cX8_isElement 2 RX8 := ⟨hx, hb, hml, hown, ht⟩
  have hlocks := B.notSynchronized
  subst hsz
  have hD := hD0.self (sz := s.heap.size)
  generalize hAe : va_A [(mo, .inr (8, [.ref ms, .int sv, .ref mb, .int ty, .int th, .ref mk, .int ml, .ref mfd, .int mf, .int sp, .int on, .int tw])), (ms, .inl (K, 889, .inl sf))] s.heap.size = A at hD hG ⊢
  have hA : ∀ q : Nat, s.heap.size ≤ q → A q := fun q h => by rw [← hAe]; exact Or.inr h
  have hS : va_S A s.heap s.heap [] := va_S.rf
  have hl := lv_entry ([.ref mo, .int v]) (n := 2) (Nat.le_of_ble_eq_true rfl)
  rw [lg_entry_eq]
  generalize (lg_sl ([.ref mo, .int v]) ++ List.replicate (2 - (lg_sl ([.ref mo, .int v])).length) Slot.unset).toArray = ls at hl ⊢
  have hl : lv_has ls 2 [(0, .ref mo), (1, .int v)] := hl
  have hP : va_P D vwCl [(mo, .inr (8, [.ref ms, .int sv, .ref mb, .int ty, .int th, .ref mk, .int ml, .ref mfd, .int mf, .int sp, .int on, .int tw])), (ms, .inl (K, 889, .inl sf))] s.heap := hP
  refine lv_iload_n hx hb dX8_isElement_0 rfl (lv_at hl 1 rfl) ?_
  refine lv_iconst (v := 0) hx hb dX8_isElement_1 (by decide) ?_
  refine lv_aload_n hx hb dX8_isElement_2 rfl (lv_at hl 0 rfl) ?_
  have ct := k_cut_of (wc := [(mo, .inr (8, [.ref ms, .int sv, .ref mb, .int ty, .int th, .ref mk, .int ml, .ref mfd, .int mf, .int sp, .int on, .int tw])), (ms, .inl (K, 889, .inl sf))]) (wr := []) (tc := [(K, .int)]) hG hS hA hK hP hD [0, 1] [] [0] rfl rfl (by decide) (by decide) (by decide) rfl
  refine k_endi (As := [.ref mo]) ct (k_runV (As := []) (rest := [.int 0, .int v]) S0 Lv_X8_38 rfl (ci := 8) (q0 := 0) rfl rfl ct (c_M_many l D mo ms sv mb ty th mk ml mfd mf sp on tw K sf nd (by assumption) (by first | assumption | omega) s.heap.size) hl.1 rfl (Nat.le_of_ble_eq_true rfl) rfl dX8_isElement_3 ⟨⟨Nat.le_of_ble_eq_true rfl, Nat.le_of_ble_eq_true rfl⟩, Nat.le_of_ble_eq_true rfl, Nat.le_of_ble_eq_true rfl⟩) rfl rfl (fun r_1 _ H locs hw_2 hP hD hK hS => ?_)
  have hK : va_K D vwCl [(K, .int)] s := hK
  have hP : va_P D vwCl [(mo, .inr (8, [.ref ms, .int sv, .ref mb, .int ty, .int th, .ref mk, .int ml, .ref mfd, .int mf, .int sp, .int on, .int tw])), (ms, .inl (K, 889, .inl sf))] H := hP
  have hD : va_D A [(mo, .inr (8, [.ref ms, .int sv, .ref mb, .int ty, .int th, .ref mk, .int ml, .ref mfd, .int mf, .int sp, .int on, .int tw])), (ms, .inl (K, 889, .inl sf))] := hD
  have hw_2 : r_1 = (nI (lnN nd)) := hw_2
  have hw_2 := hw_2.symm
  subst hw_2
  refine k_nrm (y := (nI (lnN nd))) rfl ?_
  refine lv_iconst (v := 1) hx hb dX8_isElement_6 (by decide) ?_
  refine lv_isub hx hb dX8_isElement_7 ?_
  refine k_nrm (y := (nI (lnN nd) - 1)) (rfl) ?_
  have ct := k_cut_of (wc := []) (wr := [(mo, .inr (8, [.ref ms, .int sv, .ref mb, .int ty, .int th, .ref mk, .int ml, .ref mfd, .int mf, .int sp, .int on, .int tw])), (ms, .inl (K, 889, .inl sf))]) (tc := []) hG hS hA hK hP hD [] [0, 1] [] rfl rfl (by decide) (by decide) (by decide) rfl
  refine k_endi (As := [.int v, .int 0, .int (nI (lnN nd) - 1)]) ct (k_runS (As := [.int v, .int 0, .int (nI (lnN nd) - 1)]) (rest := []) S0 Ls_X8_46 ct (c_M_in0 l D v 0 (nI (lnN nd) - 1) (in_0 (lnN_41 hnd) hxi) H.size) hl.1 rfl (Nat.le_of_ble_eq_true rfl) rfl dX8_isElement_8 ⟨⟨Nat.le_of_ble_eq_true rfl, Nat.le_of_ble_eq_true rfl⟩, Nat.le_of_ble_eq_true rfl, Nat.le_of_ble_eq_true rfl⟩) rfl rfl (fun r_3 _ H locs hw_4 hP hD hK hS => ?_)
  have hK : va_K D vwCl [(K, .int)] s := hK
  have hP : va_P D vwCl [(mo, .inr (8, [.ref ms, .int sv, .ref mb, .int ty, .int th, .ref mk, .int ml, .ref mfd, .int mf, .int sp, .int on, .int tw])), (ms, .inl (K, 889, .inl sf))] H := hP
  have hD : va_D A [(mo, .inr (8, [.ref ms, .int sv, .ref mb, .int ty, .int th, .ref mk, .int ml, .ref mfd, .int mf, .int sp, .int on, .int tw])), (ms, .inl (K, 889, .inl sf))] := hD
  have hw_4 : r_3 = (0) := hw_4
  have hw_4 := hw_4.symm
  subst hw_4
  refine k_nrm (y := 0) rfl ?_
  have hP9 : va_P D vwCl [(mo, .inr (8, [.ref ms, .int sv, .ref mb, .int ty, .int th, .ref mk, .int ml, .ref mfd, .int mf, .int sp, .int on, .int tw])), (ms, .inl (K, 889, .inl sf))] H := hP.sub [0, 1] rfl
  have hD9 : va_D A [(mo, .inr (8, [.ref ms, .int sv, .ref mb, .int ty, .int th, .ref mk, .int ml, .ref mfd, .int mf, .int sp, .int on, .int tw])), (ms, .inl (K, 889, .inl sf))] := hD.sub [0, 1] (by decide) rfl
  have hK9 : va_K D vwCl [] s := hK.sub [] rfl
  exact W.zret (v := 0) hx hb hr (rfl) (fun t ht9 hW9 => ⟨⟨0, (), rfl, by first | rfl | trivial | (simp only [if_true, if_false, reduceIte, and_self]; done) | simp_all, ⟨by rw [ht9]; exact hP9, va_K.moved hW9.alike hK9, hD9⟩⟩, hS.F ht9⟩) hS.2.2 dX8_isElement_11
