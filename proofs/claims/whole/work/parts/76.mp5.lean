set_option maxRecDepth 20000 in
theorem lk_X8_can : Cond.code yX8_can cX8_can 2 (some .boolean) ∈ wsA := mA 1101 rfl rfl
theorem ly_X8_can : k_y yX8_can 1 := ⟨by decide +kernel, by decide +kernel, by decide +kernel⟩
set_option maxRecDepth 20000 in
theorem lm_X8_can : Cond.instanceMethod yX8_can ∈ wsA := mA 1100 rfl rfl
theorem le_X8_can : Cond.selects (yX8_can).cls yX8_can yX8_can ∈ wsA := mS 54 rfl rfl
set_option maxRecDepth 20000 in
theorem Lv_X8_186 : k_LV RX8 186 yX8_can cX8_can 2 (some .boolean) 1 := ⟨mA 1098 rfl rfl, lm_X8_can, le_X8_can, li_BarcodeWandModel, lk_X8_can, ly_X8_can⟩
set_option maxRecDepth 20000 in
theorem lk_X8_does : Cond.code yX8_does cX8_does 3 none ∈ wsA := mA 1105 rfl rfl
theorem ly_X8_does : k_y yX8_does 1 := ⟨by decide +kernel, by decide +kernel, by decide +kernel⟩
set_option maxRecDepth 20000 in
theorem lm_X8_does : Cond.instanceMethod yX8_does ∈ wsA := mA 1104 rfl rfl
theorem le_X8_does : Cond.selects (yX8_does).cls yX8_does yX8_does ∈ wsA := mS 55 rfl rfl
set_option maxRecDepth 20000 in
theorem Lv_X8_189 : k_LV RX8 189 yX8_does cX8_does 3 none 1 := ⟨mA 1102 rfl rfl, lm_X8_does, le_X8_does, li_BarcodeWandModel, lk_X8_does, ly_X8_does⟩
theorem dX8_run_0 : decode cX8_run 0 = .ok (.aload_n 0, 1) := by decide +kernel
theorem dX8_run_1 : decode cX8_run 1 = .ok (.aload_n 0, 1) := by decide +kernel
theorem dX8_run_2 : decode cX8_run 2 = .ok (.invokevirtual 183, 3) := by decide +kernel
theorem dX8_run_5 : decode cX8_run 5 = .ok (.iconst (-1), 1) := by decide +kernel
theorem dX8_run_6 : decode cX8_run 6 = .ok (.if_icmp .ne 7, 3) := by decide +kernel
theorem dX8_run_9 : decode cX8_run 9 = .ok (.iconst 1, 1) := by decide +kernel
theorem dX8_run_10 : decode cX8_run 10 = .ok (.goto 4, 3) := by decide +kernel
theorem dX8_run_13 : decode cX8_run 13 = .ok (.iconst 0, 1) := by decide +kernel
theorem dX8_run_14 : decode cX8_run 14 = .ok (.iconst 1, 1) := by decide +kernel
theorem dX8_run_15 : decode cX8_run 15 = .ok (.invokevirtual 58, 3) := by decide +kernel
theorem dX8_run_18 : decode cX8_run 18 = .ok (.ifCond .ne 5, 3) := by decide +kernel
theorem dX8_run_21 : decode cX8_run 21 = .ok (.iconst 0, 1) := by decide +kernel
theorem dX8_run_22 : decode cX8_run 22 = .ok (.ireturn, 1) := by decide +kernel
theorem dX8_run_23 : decode cX8_run 23 = .ok (.aload_n 0, 1) := by decide +kernel
theorem dX8_run_24 : decode cX8_run 24 = .ok (.invokevirtual 62, 3) := by decide +kernel
theorem dX8_run_27 : decode cX8_run 27 = .ok (.aload_n 0, 1) := by decide +kernel
theorem dX8_run_28 : decode cX8_run 28 = .ok (.iconst 0, 1) := by decide +kernel
theorem dX8_run_29 : decode cX8_run 29 = .ok (.putfield 150, 3) := by decide +kernel
theorem dX8_run_32 : decode cX8_run 32 = .ok (.iconst 0, 1) := by decide +kernel
theorem dX8_run_33 : decode cX8_run 33 = .ok (.istore_n 1, 1) := by decide +kernel
theorem dX8_run_34 : decode cX8_run 34 = .ok (.iconst 1, 1) := by decide +kernel
theorem dX8_run_35 : decode cX8_run 35 = .ok (.istore_n 2, 1) := by decide +kernel
theorem dX8_run_36 : decode cX8_run 36 = .ok (.iload_n 2, 1) := by decide +kernel
theorem dX8_run_37 : decode cX8_run 37 = .ok (.ifCond .eq 36, 3) := by decide +kernel
theorem dX8_run_40 : decode cX8_run 40 = .ok (.aload_n 0, 1) := by decide +kernel
theorem dX8_run_41 : decode cX8_run 41 = .ok (.invokevirtual 179, 3) := by decide +kernel
theorem dX8_run_44 : decode cX8_run 44 = .ok (.istore_n 3, 1) := by decide +kernel
theorem dX8_run_45 : decode cX8_run 45 = .ok (.aload_n 0, 1) := by decide +kernel
theorem dX8_run_46 : decode cX8_run 46 = .ok (.iload_n 3, 1) := by decide +kernel
theorem dX8_run_47 : decode cX8_run 47 = .ok (.invokevirtual 186, 3) := by decide +kernel
theorem dX8_run_50 : decode cX8_run 50 = .ok (.istore_n 2, 1) := by decide +kernel
theorem dX8_run_51 : decode cX8_run 51 = .ok (.iload_n 2, 1) := by decide +kernel
theorem dX8_run_52 : decode cX8_run 52 = .ok (.ifCond .eq 18, 3) := by decide +kernel
theorem dX8_run_55 : decode cX8_run 55 = .ok (.aload_n 0, 1) := by decide +kernel
theorem dX8_run_56 : decode cX8_run 56 = .ok (.iload_n 3, 1) := by decide +kernel
theorem dX8_run_57 : decode cX8_run 57 = .ok (.invokevirtual 189, 3) := by decide +kernel
theorem dX8_run_60 : decode cX8_run 60 = .ok (.iinc 1 1, 3) := by decide +kernel
theorem dX8_run_63 : decode cX8_run 63 = .ok (.aload_n 0, 1) := by decide +kernel
theorem dX8_run_64 : decode cX8_run 64 = .ok (.bipush 59, 2) := by decide +kernel
theorem dX8_run_66 : decode cX8_run 66 = .ok (.invokevirtual 165, 3) := by decide +kernel
theorem dX8_run_69 : decode cX8_run 69 = .ok (.istore_n 2, 1) := by decide +kernel
theorem dX8_run_70 : decode cX8_run 70 = .ok (.goto (-34), 3) := by decide +kernel
theorem dX8_run_73 : decode cX8_run 73 = .ok (.aload_n 0, 1) := by decide +kernel
theorem dX8_run_74 : decode cX8_run 74 = .ok (.iconst 0, 1) := by decide +kernel
theorem dX8_run_75 : decode cX8_run 75 = .ok (.putfield 147, 3) := by decide +kernel
theorem dX8_run_78 : decode cX8_run 78 = .ok (.iload_n 1, 1) := by decide +kernel
theorem dX8_run_79 : decode cX8_run 79 = .ok (.ireturn, 1) := by decide +kernel
theorem dX8_append_0 : decode cX8_append 0 = .ok (.aload_n 0, 1) := by decide +kernel
theorem dX8_append_1 : decode cX8_append 1 = .ok (.iload_n 1, 1) := by decide +kernel
theorem dX8_append_2 : decode cX8_append 2 = .ok (.bipush 33, 2) := by decide +kernel
theorem dX8_append_4 : decode cX8_append 4 = .ok (.bipush 126, 2) := by decide +kernel
theorem dX8_append_6 : decode cX8_append 6 = .ok (.invokestatic 46, 3) := by decide +kernel
theorem dX8_append_9 : decode cX8_append 9 = .ok (.aload_n 0, 1) := by decide +kernel
theorem dX8_append_10 : decode cX8_append 10 = .ok (.getfield 147, 3) := by decide +kernel
theorem dX8_append_13 : decode cX8_append 13 = .ok (.bipush 60, 2) := by decide +kernel
theorem dX8_append_15 : decode cX8_append 15 = .ok (.if_icmp .ge 7, 3) := by decide +kernel
theorem dX8_append_18 : decode cX8_append 18 = .ok (.iconst 1, 1) := by decide +kernel
theorem dX8_append_19 : decode cX8_append 19 = .ok (.goto 4, 3) := by decide +kernel
theorem dX8_append_22 : decode cX8_append 22 = .ok (.iconst 0, 1) := by decide +kernel
theorem dX8_append_23 : decode cX8_append 23 = .ok (.invokevirtual 58, 3) := by decide +kernel
theorem dX8_append_26 : decode cX8_append 26 = .ok (.ifCond .ne 5, 3) := by decide +kernel
theorem dX8_append_29 : decode cX8_append 29 = .ok (.iconst 0, 1) := by decide +kernel
theorem dX8_append_30 : decode cX8_append 30 = .ok (.ireturn, 1) := by decide +kernel
theorem dX8_append_31 : decode cX8_append 31 = .ok (.aload_n 0, 1) := by decide +kernel
theorem dX8_append_32 : decode cX8_append 32 = .ok (.getfield 13, 3) := by decide +kernel
theorem dX8_append_35 : decode cX8_append 35 = .ok (.aload_n 0, 1) := by decide +kernel
theorem dX8_append_36 : decode cX8_append 36 = .ok (.getfield 147, 3) := by decide +kernel
theorem dX8_append_39 : decode cX8_append 39 = .ok (.iload_n 1, 1) := by decide +kernel
theorem dX8_append_40 : decode cX8_append 40 = .ok (.i2c, 1) := by decide +kernel
theorem dX8_append_41 : decode cX8_append 41 = .ok (.castore, 1) := by decide +kernel
theorem dX8_append_42 : decode cX8_append 42 = .ok (.aload_n 0, 1) := by decide +kernel
theorem dX8_append_43 : decode cX8_append 43 = .ok (.dup, 1) := by decide +kernel
theorem dX8_append_44 : decode cX8_append 44 = .ok (.getfield 147, 3) := by decide +kernel
theorem dX8_append_47 : decode cX8_append 47 = .ok (.iconst 1, 1) := by decide +kernel
theorem dX8_append_48 : decode cX8_append 48 = .ok (.iadd, 1) := by decide +kernel
theorem dX8_append_49 : decode cX8_append 49 = .ok (.putfield 147, 3) := by decide +kernel
theorem dX8_append_52 : decode cX8_append 52 = .ok (.aload_n 0, 1) := by decide +kernel
theorem dX8_append_53 : decode cX8_append 53 = .ok (.getfield 147, 3) := by decide +kernel
theorem dX8_append_56 : decode cX8_append 56 = .ok (.ireturn, 1) := by decide +kernel
theorem dX8_clearBuffer_0 : decode cX8_clearBuffer 0 = .ok (.aload_n 0, 1) := by decide +kernel
theorem dX8_clearBuffer_1 : decode cX8_clearBuffer 1 = .ok (.iconst 0, 1) := by decide +kernel
theorem dX8_clearBuffer_2 : decode cX8_clearBuffer 2 = .ok (.putfield 23, 3) := by decide +kernel
theorem dX8_clearBuffer_5 : decode cX8_clearBuffer 5 = .ok (.aload_n 0, 1) := by decide +kernel
theorem dX8_clearBuffer_6 : decode cX8_clearBuffer 6 = .ok (.getfield 147, 3) := by decide +kernel
theorem dX8_clearBuffer_9 : decode cX8_clearBuffer 9 = .ok (.istore_n 1, 1) := by decide +kernel
theorem dX8_clearBuffer_10 : decode cX8_clearBuffer 10 = .ok (.aload_n 0, 1) := by decide +kernel
theorem dX8_clearBuffer_11 : decode cX8_clearBuffer 11 = .ok (.iconst 0, 1) := by decide +kernel
theorem dX8_clearBuffer_12 : decode cX8_clearBuffer 12 = .ok (.putfield 147, 3) := by decide +kernel
theorem dX8_clearBuffer_15 : decode cX8_clearBuffer 15 = .ok (.iload_n 1, 1) := by decide +kernel
theorem dX8_clearBuffer_16 : decode cX8_clearBuffer 16 = .ok (.ireturn, 1) := by decide +kernel
set_option maxHeartbeats 4000000 in
set_option maxRecDepth 100000 in
theorem c_M_run (l : Launch) (D : va_G) (mo : Nat) (ms : Nat) (kp : Nat) (mb : Nat) (ty : Nat) (th : Int32) (mk : Nat) (ml : Int32) (mfd : Nat) (mf : Int32) (sp : Int32) (on : Int32) (tw : Int32) (K : ClassId) (sf : Nat → Int32) (lk : Nat → Int32) (fd : Nat → Int32) (KC : ClassId) (bf : Nat → Int32) (x : ST) (tx : Nat → Int32) (x1 : ST) (e9 : Nat) (hR : RS x sf) (hbx : bST x) (hlx : labW x) (hkp : kp ≤ 6) (hcf : ∀ j9, j9 < ty → bf j9 = tx j9) (hty : ty ≤ 60) (hco : COM tx ty g0) (hcr : CR tx ty ty g0 x x1 e9) (sz : Nat) : k_Mi (S := Int32 × Int32 × (Nat → Int32) × (Nat → Int32) × (Nat → Int32) × Int32 × Int32 × Int32) l D yX8_run cX8_run 4 (some .int) 10 0 0 236 [.ref mo] [(mo, .inr (8, [.ref ms, .int (nI kp), .ref mb, .int (nI ty), .int th, .ref mk, .int ml, .ref mfd, .int mf, .int sp, .int on, .int tw])), (ms, .inl (K, 889, .inl sf)), (mk, .inl (K, 41, .inl lk)), (mfd, .inl (K, 9, .inl fd)), (mb, .inl (KC, 60, .inl bf))] [(K, .int), (KC, .char)] (fun (r : Int32) (u : Int32 × Int32 × (Nat → Int32) × (Nat → Int32) × (Nat → Int32) × Int32 × Int32 × Int32) => match u with | (ml1, mf1, sg, lk1, fd1, spx, on1, tw1) => r = (nI e9) ∧ RS x1 sg ∧ hiEq sg (svM kp sf)) (fun u => match u with | (ml1, mf1, sg, lk1, fd1, spx, on1, tw1) => [(mo, .inr (8, [.ref ms, .int (nI (min (kp + 1) 6)), .ref mb, .int (nI 0), .int 0, .ref mk, .int ml1, .ref mfd, .int mf1, .int spx, .int on1, .int tw1])), (ms, .inl (K, 889, .inl sg)), (mk, .inl (K, 41, .inl lk1)), (mfd, .inl (K, 9, .inl fd1)), (mb, .inl (KC, 60, .inl bf))]) (fun u => match u with | (ml1, mf1, sg, lk1, fd1, spx, on1, tw1) => []) sz := by
  refine Met.ofW (cc := cX8_run) (maxL := 4) (ret := (some .int)) (by decide) rfl ?_
  intro p e s m args below meth c s₁ B hml hv
  obtain ⟨rfl, hsz, hP, hK, hD0, hG⟩ := hv
  have hx := B.exec
  have hb := B.bytes
  have hr := B.returns
  have ht : ∀ v9 ∈ wsA, v9.before ([.ref mo] : List Value).toArray s = true := fun v9 h9 => atoms_spec (ws := k_ws yX8_run cX8_run 4 (some .int)) B.pre v9 (List.mem_cons_of_mem _ h9)
  have hown : s.vm.findClass RX8 = some m.cls := findClass_of_methodNamed B.named
  have S0 : k_C p s m ([.ref mo] : List Value).toArray c cX8_run 4 RX8 := ⟨hx, hb, hml, hown, ht⟩
  have hlocks := B.notSynchronized
  subst hsz
  have hD := hD0.self (sz := s.heap.size)
  generalize hAe : va_A [(mo, .inr (8, [.ref ms, .int (nI kp), .ref mb, .int (nI ty), .int th, .ref mk, .int ml, .ref mfd, .int mf, .int sp, .int on, .int tw])), (ms, .inl (K, 889, .inl sf)), (mk, .inl (K, 41, .inl lk)), (mfd, .inl (K, 9, .inl fd)), (mb, .inl (KC, 60, .inl bf))] s.heap.size = A at hD hG ⊢
  have hA : ∀ q : Nat, s.heap.size ≤ q → A q := fun q h => by rw [← hAe]; exact Or.inr h
  have hS : va_S A s.heap s.heap [] := va_S.rf
  have hl := lv_entry ([.ref mo]) (n := 4) (Nat.le_of_ble_eq_true rfl)
  rw [lg_entry_eq]
  generalize (lg_sl ([.ref mo]) ++ List.replicate (4 - (lg_sl ([.ref mo])).length) Slot.unset).toArray = ls at hl ⊢
  have hl : lv_has ls 4 [(0, .ref mo)] := hl
  have hP : va_P D vwCl [(mo, .inr (8, [.ref ms, .int (nI kp), .ref mb, .int (nI ty), .int th, .ref mk, .int ml, .ref mfd, .int mf, .int sp, .int on, .int tw])), (ms, .inl (K, 889, .inl sf)), (mk, .inl (K, 41, .inl lk)), (mfd, .inl (K, 9, .inl fd)), (mb, .inl (KC, 60, .inl bf))] s.heap := hP
  have hR9 := hR
  have hlx9 : labW x := hlx
  obtain ⟨q0, q1, q2, h51, q4, h93, ⟨h94, q7⟩, h125, h126⟩ := hR
  obtain ⟨b1, b2, b3, b4⟩ := bST_le hbx
  obtain ⟨hl1, hl2⟩ := hlx
  refine lv_aload_n hx hb dX8_run_0 rfl (lv_at hl 0 rfl) ?_
  refine lv_aload_n hx hb dX8_run_1 rfl (lv_at hl 0 rfl) ?_
  have ct := k_cut_of (wc := [(mo, .inr (8, [.ref ms, .int (nI kp), .ref mb, .int (nI ty), .int th, .ref mk, .int ml, .ref mfd, .int mf, .int sp, .int on, .int tw])), (mb, .inl (KC, 60, .inl bf))]) (wr := [(ms, .inl (K, 889, .inl sf)), (mk, .inl (K, 41, .inl lk)), (mfd, .inl (K, 9, .inl fd))]) (tc := [(KC, .char)]) hG hS hA hK hP hD [0, 4] [1, 2, 3] [1] rfl rfl (by decide) (by decide) (by decide) rfl
  refine k_endi (As := [.ref mo]) ct (k_runV (As := []) (rest := [.ref mo]) S0 Lv_X8_183 rfl (ci := 8) (q0 := 0) rfl rfl ct (c_M_error l D mo ms (nI kp) mb ty th mk ml mfd mf sp on tw KC bf tx (by assumption) (by first | assumption | omega) s.heap.size) hl.1 rfl (Nat.le_of_ble_eq_true rfl) rfl dX8_run_2 ⟨⟨Nat.le_of_ble_eq_true rfl, Nat.le_of_ble_eq_true rfl⟩, Nat.le_of_ble_eq_true rfl, Nat.le_of_ble_eq_true rfl⟩) rfl rfl (fun r_1 u H locs hw_5 hP hD hK hS => ?_)
  obtain ⟨spx_2, on1v_3, tw1v_4⟩ := u
  have hK : va_K D vwCl [(K, .int), (KC, .char)] s := hK
  have hP : va_P D vwCl [(ms, .inl (K, 889, .inl sf)), (mk, .inl (K, 41, .inl lk)), (mfd, .inl (K, 9, .inl fd)), (mo, .inr (8, [.ref ms, .int (nI kp), .ref mb, .int (nI ty), .int th, .ref mk, .int ml, .ref mfd, .int mf, .int spx_2, .int on1v_3, .int tw1v_4])), (mb, .inl (KC, 60, .inl bf))] H := hP
  have hD : va_D A [(ms, .inl (K, 889, .inl sf)), (mk, .inl (K, 41, .inl lk)), (mfd, .inl (K, 9, .inl fd)), (mo, .inr (8, [.ref ms, .int (nI kp), .ref mb, .int (nI ty), .int th, .ref mk, .int ml, .ref mfd, .int mf, .int spx_2, .int on1v_3, .int tw1v_4])), (mb, .inl (KC, 60, .inl bf))] := hD
  have hw_5 : ERR tx ty r_1 := hw_5
  refine k_nrm (y := (-1)) (err_com hw_5 hco) ?_
  refine lv_iconst (v := (-1)) hx hb dX8_run_5 (by decide) ?_
  refine lv_icmp_ne (tgt := 13) hx hb dX8_run_6 (by decide) (fun c9 => absurd (by decide) c9) (fun _ => ?_)
  refine lv_iconst (v := 1) hx hb dX8_run_9 (by decide) ?_
  refine lv_goto (tgt := 14) hx hb dX8_run_10 (by decide) ?_
  refine lv_iconst (v := 1) hx hb dX8_run_14 (by decide) ?_
  have ct := k_cut_of (wc := [(mo, .inr (8, [.ref ms, .int (nI kp), .ref mb, .int (nI ty), .int th, .ref mk, .int ml, .ref mfd, .int mf, .int spx_2, .int on1v_3, .int tw1v_4]))]) (wr := [(ms, .inl (K, 889, .inl sf)), (mk, .inl (K, 41, .inl lk)), (mfd, .inl (K, 9, .inl fd)), (mb, .inl (KC, 60, .inl bf))]) (tc := []) hG hS hA hK hP hD [3] [0, 1, 2, 4] [] rfl rfl (by decide) (by decide) (by decide) rfl
  refine k_endi (As := [.ref mo, .int 1, .int 1]) ct (k_runV (As := [.int 1, .int 1]) (rest := []) S0 Lv_X8_58 rfl (ci := 8) (q0 := 0) rfl rfl ct (c_M_goes11 l D mo ms (nI kp) mb (nI ty) th mk ml mfd mf spx_2 on1v_3 tw1v_4 H.size) hl.1 rfl (Nat.le_of_ble_eq_true rfl) rfl dX8_run_15 ⟨⟨Nat.le_of_ble_eq_true rfl, Nat.le_of_ble_eq_true rfl⟩, Nat.le_of_ble_eq_true rfl, Nat.le_of_ble_eq_true rfl⟩) rfl rfl (fun r_6 _ H locs hw_7 hP hD hK hS => ?_)
  have hK : va_K D vwCl [(K, .int), (KC, .char)] s := hK
  have hP : va_P D vwCl [(ms, .inl (K, 889, .inl sf)), (mk, .inl (K, 41, .inl lk)), (mfd, .inl (K, 9, .inl fd)), (mb, .inl (KC, 60, .inl bf)), (mo, .inr (8, [.ref ms, .int (nI kp), .ref mb, .int (nI ty), .int 0, .ref mk, .int ml, .ref mfd, .int mf, .int spx_2, .int on1v_3, .int tw1v_4]))] H := hP
  have hD : va_D A [(ms, .inl (K, 889, .inl sf)), (mk, .inl (K, 41, .inl lk)), (mfd, .inl (K, 9, .inl fd)), (mb, .inl (KC, 60, .inl bf)), (mo, .inr (8, [.ref ms, .int (nI kp), .ref mb, .int (nI ty), .int 0, .ref mk, .int ml, .ref mfd, .int mf, .int spx_2, .int on1v_3, .int tw1v_4]))] := hD
  have hw_7 : r_6 = (1) := hw_7
  have hw_7 := hw_7.symm
  subst hw_7
  refine k_nrm (y := 1) rfl ?_
  refine lv_if_ne (tgt := 23) hx hb dX8_run_18 (by decide) (fun _ => ?_) (fun c9 => absurd c9 (by decide))
  refine lv_aload_n hx hb dX8_run_23 rfl (lv_at hl 0 rfl) ?_
  have ct := k_cut_of (wc := [(mo, .inr (8, [.ref ms, .int (nI kp), .ref mb, .int (nI ty), .int 0, .ref mk, .int ml, .ref mfd, .int mf, .int spx_2, .int on1v_3, .int tw1v_4])), (ms, .inl (K, 889, .inl sf))]) (wr := [(mk, .inl (K, 41, .inl lk)), (mfd, .inl (K, 9, .inl fd)), (mb, .inl (KC, 60, .inl bf))]) (tc := [(K, .int)]) hG hS hA hK hP hD [4, 0] [1, 2, 3] [0] rfl rfl (by decide) (by decide) (by decide) rfl
  refine k_endv (As := [.ref mo]) ct (k_runV (As := []) (rest := []) S0 Lv_X8_62 rfl (ci := 8) (q0 := 0) rfl rfl ct (c_M_saves l D mo ms kp mb (nI ty) 0 mk ml mfd mf spx_2 on1v_3 tw1v_4 K sf (by first | assumption | omega) H.size) hl.1 rfl (Nat.le_of_ble_eq_true rfl) rfl dX8_run_24 ⟨⟨Nat.le_of_ble_eq_true rfl, Nat.le_of_ble_eq_true rfl⟩, Nat.le_of_ble_eq_true rfl, Nat.le_of_ble_eq_true rfl⟩) rfl rfl (fun _ _ H locs hw_9 hP hD hK hS => ?_)
  have hK : va_K D vwCl [(K, .int), (KC, .char)] s := hK
  have hP : va_P D vwCl [(mk, .inl (K, 41, .inl lk)), (mfd, .inl (K, 9, .inl fd)), (mb, .inl (KC, 60, .inl bf)), (mo, .inr (8, [.ref ms, .int (nI (min (kp + 1) 6)), .ref mb, .int (nI ty), .int 0, .ref mk, .int ml, .ref mfd, .int mf, .int spx_2, .int on1v_3, .int tw1v_4])), (ms, .inl (K, 889, .inl (svM kp sf)))] H := hP
  have hD : va_D A [(mk, .inl (K, 41, .inl lk)), (mfd, .inl (K, 9, .inl fd)), (mb, .inl (KC, 60, .inl bf)), (mo, .inr (8, [.ref ms, .int (nI (min (kp + 1) 6)), .ref mb, .int (nI ty), .int 0, .ref mk, .int ml, .ref mfd, .int mf, .int spx_2, .int on1v_3, .int tw1v_4])), (ms, .inl (K, 889, .inl (svM kp sf)))] := hD
  have hRs : RS x (svM kp sf) := RS_sv hbx hR9
  have hRs9 := hRs
  obtain ⟨k0, k1, k2, h51s, k4, h93s, ⟨h94s, k7⟩, h125s, h126s⟩ := hRs
  refine lv_aload_n hx hb dX8_run_27 rfl (lv_at hl 0 rfl) ?_
  refine lv_iconst (v := 0) hx hb dX8_run_28 (by decide) ?_
  refine va_put (D := D) (ci := 8) (v := .int 0) (ty := .int) (C := RX8) (T := TX8) (N := 12) hx hb ht inA_X8 tyX8 tyX8_ok nmX8 hown hK hP hD hS 3 rfl rfl 9 (by decide) (ht _ lf_X8_150) (fun _ h9 => h9) rfl (tyX8_ok 9 (by decide)) rfl rfl (Nat.le_of_ble_eq_true rfl) dX8_run_29 (fun H locs hP hD hS => ?_)
  have hP : va_P D vwCl [(mk, .inl (K, 41, .inl lk)), (mfd, .inl (K, 9, .inl fd)), (mb, .inl (KC, 60, .inl bf)), (mo, .inr (8, [.ref ms, .int (nI (min (kp + 1) 6)), .ref mb, .int (nI ty), .int 0, .ref mk, .int ml, .ref mfd, .int mf, .int 0, .int on1v_3, .int tw1v_4])), (ms, .inl (K, 889, .inl (svM kp sf)))] H := hP
  have hD : va_D A [(mk, .inl (K, 41, .inl lk)), (mfd, .inl (K, 9, .inl fd)), (mb, .inl (KC, 60, .inl bf)), (mo, .inr (8, [.ref ms, .int (nI (min (kp + 1) 6)), .ref mb, .int (nI ty), .int 0, .ref mk, .int ml, .ref mfd, .int mf, .int 0, .int on1v_3, .int tw1v_4])), (ms, .inl (K, 889, .inl (svM kp sf)))] := hD
  refine lv_iconst (v := 0) hx hb dX8_run_32 (by decide) ?_
  refine lv_istore_n (lv' := [(1, .int 0), (0, .ref mo)]) hx hb dX8_run_33 rfl hl (by decide) rfl (fun ls hl => ?_)
  refine lv_iconst (v := 1) hx hb dX8_run_34 (by decide) ?_
  refine lv_istore_n (lv' := [(2, .int 1), (1, .int 0), (0, .ref mo)]) hx hb dX8_run_35 rfl hl (by decide) rfl (fun ls hl => ?_)
  have hf_10 : (0 : Int32) = (nI 0) := rfl
  have hP : va_P D vwCl [(mk, .inl (K, 41, .inl lk)), (mfd, .inl (K, 9, .inl fd)), (mb, .inl (KC, 60, .inl bf)), (mo, .inr (8, [.ref ms, .int (nI (min (kp + 1) 6)), .ref mb, .int (nI ty), .int 0, .ref mk, .int ml, .ref mfd, .int mf, .int (nI 0), .int on1v_3, .int tw1v_4])), (ms, .inl (K, 889, .inl (svM kp sf)))] H := (congrArg (fun z9 : Int32 => va_P D vwCl [(mk, .inl (K, 41, .inl lk)), (mfd, .inl (K, 9, .inl fd)), (mb, .inl (KC, 60, .inl bf)), (mo, .inr (8, [.ref ms, .int (nI (min (kp + 1) 6)), .ref mb, .int (nI ty), .int 0, .ref mk, .int ml, .ref mfd, .int mf, .int z9, .int on1v_3, .int tw1v_4])), (ms, .inl (K, 889, .inl (svM kp sf)))] H) hf_10).mp hP
  have hD : va_D A [(mk, .inl (K, 41, .inl lk)), (mfd, .inl (K, 9, .inl fd)), (mb, .inl (KC, 60, .inl bf)), (mo, .inr (8, [.ref ms, .int (nI (min (kp + 1) 6)), .ref mb, .int (nI ty), .int 0, .ref mk, .int ml, .ref mfd, .int mf, .int (nI 0), .int on1v_3, .int tw1v_4])), (ms, .inl (K, 889, .inl (svM kp sf)))] := (congrArg (fun z9 : Int32 => va_D A [(mk, .inl (K, 41, .inl lk)), (mfd, .inl (K, 9, .inl fd)), (mb, .inl (KC, 60, .inl bf)), (mo, .inr (8, [.ref ms, .int (nI (min (kp + 1) 6)), .ref mb, .int (nI ty), .int 0, .ref mk, .int ml, .ref mfd, .int mf, .int z9, .int on1v_3, .int tw1v_4])), (ms, .inl (K, 889, .inl (svM kp sf)))]) hf_10).mp hD
  have hl : lv_has ls 4 [(2, .int 1), (1, .int (nI 0)), (0, .ref mo)] := hl
  refine k_loop (ι := Nat × Nat × Int32 × ST × (Nat → Int32) × Int32 × Int32 × (Nat → Int32) × (Nat → Int32) × Int32 × Int32) (fun (x9 : Nat × Nat × Int32 × ST × (Nat → Int32) × Int32 × Int32 × (Nat → Int32) × (Nat → Int32) × Int32 × Int32) H9 locs9 ls9 => match x9 with | (i, dn, mr, xq, sfq, mlq, mfq, lkq, fdq, oq, tq) => (i ≤ ty) ∧ (RM tx ty i xq x1 dn e9 mr) ∧ (bST xq) ∧ (labW xq) ∧ (RS xq sfq) ∧ (hiEq sfq (svM kp sf)) ∧ va_P D vwCl [(mo, .inr (8, [.ref ms, .int (nI (min (kp + 1) 6)), .ref mb, .int (nI ty), .int 0, .ref mk, .int mlq, .ref mfd, .int mfq, .int (nI i), .int oq, .int tq])), (ms, .inl (K, 889, .inl sfq)), (mk, .inl (K, 41, .inl lkq)), (mfd, .inl (K, 9, .inl fdq)), (mb, .inl (KC, 60, .inl bf))] H9 ∧ va_D A [(mo, .inr (8, [.ref ms, .int (nI (min (kp + 1) 6)), .ref mb, .int (nI ty), .int 0, .ref mk, .int mlq, .ref mfd, .int mfq, .int (nI i), .int oq, .int tq])), (ms, .inl (K, 889, .inl sfq)), (mk, .inl (K, 41, .inl lkq)), (mfd, .inl (K, 9, .inl fdq)), (mb, .inl (KC, 60, .inl bf))] ∧ va_S A s.heap H9 locs9 ∧ lv_has ls9 4 [(1, .int (nI dn)), (2, .int mr), (0, .ref mo)]) (fun (x9 : Nat × Nat × Int32 × ST × (Nat → Int32) × Int32 × Int32 × (Nat → Int32) × (Nat → Int32) × Int32 × Int32) => match x9 with | (i, dn, mr, xq, sfq, mlq, mfq, lkq, fdq, oq, tq) => ty - i) ?_ ((0, 0, 1, x, (svM kp sf), ml, mf, lk, fd, on1v_3, tw1v_4)) ⟨(Nat.zero_le _), (RM_0 hco hcr), hbx, hlx9, hRs9, (fun j9 h9 => rfl), hP.sub [3, 4, 0, 1, 2] rfl, hD.sub [3, 4, 0, 1, 2] (by decide) rfl, hS, lv_sub hl [1, 0, 2] rfl⟩
  intro x9 H locs ls hF9 ih9
  obtain ⟨i, dn, mr, xq, sfq, mlq, mfq, lkq, fdq, oq, tq⟩ := x9
  obtain ⟨hit, hRM, hbq, hlq, hRq, hhq, hP, hD, hS, hl⟩ := hF9
  try dsimp only at ih9
  have hP : va_P D vwCl [(mo, .inr (8, [.ref ms, .int (nI (min (kp + 1) 6)), .ref mb, .int (nI ty), .int 0, .ref mk, .int mlq, .ref mfd, .int mfq, .int (nI i), .int oq, .int tq])), (ms, .inl (K, 889, .inl sfq)), (mk, .inl (K, 41, .inl lkq)), (mfd, .inl (K, 9, .inl fdq)), (mb, .inl (KC, 60, .inl bf))] H := hP
  have hD : va_D A [(mo, .inr (8, [.ref ms, .int (nI (min (kp + 1) 6)), .ref mb, .int (nI ty), .int 0, .ref mk, .int mlq, .ref mfd, .int mfq, .int (nI i), .int oq, .int tq])), (ms, .inl (K, 889, .inl sfq)), (mk, .inl (K, 41, .inl lkq)), (mfd, .inl (K, 9, .inl fdq)), (mb, .inl (KC, 60, .inl bf))] := hD
  have hl : lv_has ls 4 [(1, .int (nI dn)), (2, .int mr), (0, .ref mo)] := hl
  refine lv_iload_n hx hb dX8_run_36 rfl (lv_at hl 1 rfl) ?_
  refine lv_if_eq (tgt := 73) hx hb dX8_run_37 (by decide) (fun c_11 => ?_) (fun c_11 => ?_)
  · have hc9 := c_11
    refine lv_aload_n hx hb dX8_run_73 rfl (lv_at hl 2 rfl) ?_
    refine lv_iconst (v := 0) hx hb dX8_run_74 (by decide) ?_
    refine va_put (D := D) (ci := 8) (v := .int 0) (ty := .int) (C := RX8) (T := TX8) (N := 12) hx hb ht inA_X8 tyX8 tyX8_ok nmX8 hown hK hP hD hS 0 rfl rfl 3 (by decide) (ht _ lf_X8_147) (fun _ h9 => h9) rfl (tyX8_ok 3 (by decide)) rfl rfl (Nat.le_of_ble_eq_true rfl) dX8_run_75 (fun H locs hP hD hS => ?_)
    have hP : va_P D vwCl [(mo, .inr (8, [.ref ms, .int (nI (min (kp + 1) 6)), .ref mb, .int 0, .int 0, .ref mk, .int mlq, .ref mfd, .int mfq, .int (nI i), .int oq, .int tq])), (ms, .inl (K, 889, .inl sfq)), (mk, .inl (K, 41, .inl lkq)), (mfd, .inl (K, 9, .inl fdq)), (mb, .inl (KC, 60, .inl bf))] H := hP
    have hD : va_D A [(mo, .inr (8, [.ref ms, .int (nI (min (kp + 1) 6)), .ref mb, .int 0, .int 0, .ref mk, .int mlq, .ref mfd, .int mfq, .int (nI i), .int oq, .int tq])), (ms, .inl (K, 889, .inl sfq)), (mk, .inl (K, 41, .inl lkq)), (mfd, .inl (K, 9, .inl fdq)), (mb, .inl (KC, 60, .inl bf))] := hD
    refine lv_iload_n hx hb dX8_run_78 rfl (lv_at hl 0 rfl) ?_
    have hf_12 : (0 : Int32) = (nI 0) := by first | rfl | (simp only [hw_5, hit, hRM, hbq, hlq, hRq, hhq, c_11, if_true, if_false, reduceIte]; done)
    have hP : va_P D vwCl [(mo, .inr (8, [.ref ms, .int (nI (min (kp + 1) 6)), .ref mb, .int (nI 0), .int 0, .ref mk, .int mlq, .ref mfd, .int mfq, .int (nI i), .int oq, .int tq])), (ms, .inl (K, 889, .inl sfq)), (mk, .inl (K, 41, .inl lkq)), (mfd, .inl (K, 9, .inl fdq)), (mb, .inl (KC, 60, .inl bf))] H := (congrArg (fun z9 : Int32 => va_P D vwCl [(mo, .inr (8, [.ref ms, .int (nI (min (kp + 1) 6)), .ref mb, .int z9, .int 0, .ref mk, .int mlq, .ref mfd, .int mfq, .int (nI i), .int oq, .int tq])), (ms, .inl (K, 889, .inl sfq)), (mk, .inl (K, 41, .inl lkq)), (mfd, .inl (K, 9, .inl fdq)), (mb, .inl (KC, 60, .inl bf))] H) hf_12).mp hP
    have hD : va_D A [(mo, .inr (8, [.ref ms, .int (nI (min (kp + 1) 6)), .ref mb, .int (nI 0), .int 0, .ref mk, .int mlq, .ref mfd, .int mfq, .int (nI i), .int oq, .int tq])), (ms, .inl (K, 889, .inl sfq)), (mk, .inl (K, 41, .inl lkq)), (mfd, .inl (K, 9, .inl fdq)), (mb, .inl (KC, 60, .inl bf))] := (congrArg (fun z9 : Int32 => va_D A [(mo, .inr (8, [.ref ms, .int (nI (min (kp + 1) 6)), .ref mb, .int z9, .int 0, .ref mk, .int mlq, .ref mfd, .int mfq, .int (nI i), .int oq, .int tq])), (ms, .inl (K, 889, .inl sfq)), (mk, .inl (K, 41, .inl lkq)), (mfd, .inl (K, 9, .inl fdq)), (mb, .inl (KC, 60, .inl bf))]) hf_12).mp hD
    have hP9 : va_P D vwCl [(mo, .inr (8, [.ref ms, .int (nI (min (kp + 1) 6)), .ref mb, .int (nI 0), .int 0, .ref mk, .int mlq, .ref mfd, .int mfq, .int (nI i), .int oq, .int tq])), (ms, .inl (K, 889, .inl sfq)), (mk, .inl (K, 41, .inl lkq)), (mfd, .inl (K, 9, .inl fdq)), (mb, .inl (KC, 60, .inl bf))] H := hP.sub [0, 1, 2, 3, 4] rfl
    have hD9 : va_D A [(mo, .inr (8, [.ref ms, .int (nI (min (kp + 1) 6)), .ref mb, .int (nI 0), .int 0, .ref mk, .int mlq, .ref mfd, .int mfq, .int (nI i), .int oq, .int tq])), (ms, .inl (K, 889, .inl sfq)), (mk, .inl (K, 41, .inl lkq)), (mfd, .inl (K, 9, .inl fdq)), (mb, .inl (KC, 60, .inl bf))] := hD.sub [0, 1, 2, 3, 4] (by decide) rfl
    have hK9 : va_K D vwCl [] s := hK.sub [] rfl
    exact W.iret (v := (nI dn)) hx hb hr (fun t ht9 hW9 => ⟨⟨(nI dn), (mlq, mfq, sfq, lkq, fdq, (nI i), oq, tq), rfl, by (obtain ⟨he1, he2⟩ := RM_end hRM c_11; exact ⟨by rw [he2], by rw [← he1]; exact hRq, hhq⟩), ⟨by rw [ht9]; exact hP9, va_K.moved hW9.alike hK9, hD9⟩⟩, hS.F ht9⟩) hS.2.2 dX8_run_79
  · have hc9 := c_11
    have hiq := RM_i hRM c_11
    refine lv_aload_n hx hb dX8_run_40 rfl (lv_at hl 2 rfl) ?_
    have ct := k_cut_of (wc := [(mo, .inr (8, [.ref ms, .int (nI (min (kp + 1) 6)), .ref mb, .int (nI ty), .int 0, .ref mk, .int mlq, .ref mfd, .int mfq, .int (nI i), .int oq, .int tq])), (mb, .inl (KC, 60, .inl bf))]) (wr := [(ms, .inl (K, 889, .inl sfq)), (mk, .inl (K, 41, .inl lkq)), (mfd, .inl (K, 9, .inl fdq))]) (tc := [(KC, .char)]) hG hS hA hK hP hD [0, 4] [1, 2, 3] [1] rfl rfl (by decide) (by decide) (by decide) rfl
    refine k_endi (As := [.ref mo]) ct (k_runV (As := []) (rest := []) S0 Lv_X8_179 rfl (ci := 8) (q0 := 0) rfl rfl ct (c_M_command l D mo ms (nI (min (kp + 1) 6)) mb ty 0 mk mlq mfd mfq i oq tq KC bf tx (by assumption) (by first | assumption | omega) (by first | assumption | omega) H.size) hl.1 rfl (Nat.le_of_ble_eq_true rfl) rfl dX8_run_41 ⟨⟨Nat.le_of_ble_eq_true rfl, Nat.le_of_ble_eq_true rfl⟩, Nat.le_of_ble_eq_true rfl, Nat.le_of_ble_eq_true rfl⟩) rfl rfl (fun Lx u H locs hw_13 hP hD hK hS => ?_)
    obtain ⟨jx, ox, wx⟩ := u
    have hK : va_K D vwCl [(K, .int), (KC, .char)] s := hK
    have hP : va_P D vwCl [(ms, .inl (K, 889, .inl sfq)), (mk, .inl (K, 41, .inl lkq)), (mfd, .inl (K, 9, .inl fdq)), (mo, .inr (8, [.ref ms, .int (nI (min (kp + 1) 6)), .ref mb, .int (nI ty), .int 0, .ref mk, .int mlq, .ref mfd, .int mfq, .int (nI jx), .int ox, .int wx])), (mb, .inl (KC, 60, .inl bf))] H := hP
    have hD : va_D A [(ms, .inl (K, 889, .inl sfq)), (mk, .inl (K, 41, .inl lkq)), (mfd, .inl (K, 9, .inl fdq)), (mo, .inr (8, [.ref ms, .int (nI (min (kp + 1) 6)), .ref mb, .int (nI ty), .int 0, .ref mk, .int mlq, .ref mfd, .int mfq, .int (nI jx), .int ox, .int wx])), (mb, .inl (KC, 60, .inl bf))] := hD
    have hw_13 : CMD tx ty i Lx jx ox wx := hw_13
    have hjx := CMD_le hw_13 hit
    obtain ⟨hKx, hjy, hjlt, qq, rx, x2, hkq, hfq, hwq, hnn, hmm, hexc, ht0, ht1⟩ := RM_turn hco hRM c_11 (fun _ => hw_13)
    refine lv_istore_n (lv' := [(3, .int Lx), (1, .int (nI dn)), (2, .int mr), (0, .ref mo)]) hx hb dX8_run_44 rfl hl (by decide) rfl (fun ls hl => ?_)
    refine lv_aload_n hx hb dX8_run_45 rfl (lv_at hl 3 rfl) ?_
    refine lv_iload_n hx hb dX8_run_46 rfl (lv_at hl 0 rfl) ?_
    have ct := k_cut_of (wc := [(mo, .inr (8, [.ref ms, .int (nI (min (kp + 1) 6)), .ref mb, .int (nI ty), .int 0, .ref mk, .int mlq, .ref mfd, .int mfq, .int (nI jx), .int ox, .int wx])), (ms, .inl (K, 889, .inl sfq))]) (wr := [(mk, .inl (K, 41, .inl lkq)), (mfd, .inl (K, 9, .inl fdq)), (mb, .inl (KC, 60, .inl bf))]) (tc := [(K, .int)]) hG hS hA hK hP hD [3, 0] [1, 2, 4] [0] rfl rfl (by decide) (by decide) (by decide) rfl
    refine k_endi (As := [.ref mo, .int Lx]) ct (k_runV (As := [.int Lx]) (rest := []) S0 Lv_X8_186 rfl (ci := 8) (q0 := 0) rfl rfl ct (c_M_can l D mo ms (nI (min (kp + 1) 6)) mb (nI ty) 0 mk mlq mfd mfq (nI jx) ox wx K sfq xq Lx hRq hbq hlq H.size) hl.1 rfl (Nat.le_of_ble_eq_true rfl) rfl dX8_run_47 ⟨⟨Nat.le_of_ble_eq_true rfl, Nat.le_of_ble_eq_true rfl⟩, Nat.le_of_ble_eq_true rfl, Nat.le_of_ble_eq_true rfl⟩) rfl rfl (fun r_14 _ H locs hw_15 hP hD hK hS => ?_)
    have hK : va_K D vwCl [(K, .int), (KC, .char)] s := hK
    have hP : va_P D vwCl [(mk, .inl (K, 41, .inl lkq)), (mfd, .inl (K, 9, .inl fdq)), (mb, .inl (KC, 60, .inl bf)), (mo, .inr (8, [.ref ms, .int (nI (min (kp + 1) 6)), .ref mb, .int (nI ty), .int 0, .ref mk, .int mlq, .ref mfd, .int mfq, .int (nI jx), .int ox, .int wx])), (ms, .inl (K, 889, .inl sfq))] H := hP
    have hD : va_D A [(mk, .inl (K, 41, .inl lkq)), (mfd, .inl (K, 9, .inl fdq)), (mb, .inl (KC, 60, .inl bf)), (mo, .inr (8, [.ref ms, .int (nI (min (kp + 1) 6)), .ref mb, .int (nI ty), .int 0, .ref mk, .int mlq, .ref mfd, .int mfq, .int (nI jx), .int ox, .int wx])), (ms, .inl (K, 889, .inl sfq))] := hD
    have hw_15 : r_14 = (canF Lx ox xq) := hw_15
    have hw_15 := hw_15.symm
    subst hw_15
    refine k_nrm (y := (canF Lx ox xq)) rfl ?_
    refine k_nrm (y := rx) (by rw [← hkq, ← hfq]; exact (EXC_can hexc).1) ?_
    refine lv_istore_n (lv' := [(2, .int rx), (3, .int Lx), (1, .int (nI dn)), (0, .ref mo)]) hx hb dX8_run_50 rfl hl (by decide) rfl (fun ls hl => ?_)
    refine lv_iload_n hx hb dX8_run_51 rfl (lv_at hl 0 rfl) ?_
    refine lv_if_eq (tgt := 70) hx hb dX8_run_52 (by decide) (fun c_16 => ?_) (fun c_16 => ?_)
    · have hc9 := c_16
      refine lv_goto (tgt := 36) hx hb dX8_run_70 (by decide) ?_
      have he9 : rx = 0 := c_16
      rw [he9] at hl
      have hl : lv_has ls 4 [(2, .int 0), (3, .int Lx), (1, .int (nI dn)), (0, .ref mo)] := hl
      exact ih9 ((jx, dn, 0, xq, sfq, mlq, mfq, lkq, fdq, ox, wx)) H locs ls (by omega) ⟨hjy, (ht0 c_16), hbq, hlq, hRq, hhq, hP.sub [3, 4, 0, 1, 2] rfl, hD.sub [3, 4, 0, 1, 2] (by decide) rfl, hS, lv_sub hl [2, 0, 3] rfl⟩
    · have hc9 := c_16
      have hr1 : rx = 1 := (EXC_r hexc).resolve_left c_16
      subst hr1
      have hl : lv_has ls 4 [(2, .int 1), (3, .int Lx), (1, .int (nI dn)), (0, .ref mo)] := hl
      have hbx2 := EXC_b hbq hexc
      have hlx2 : labW x2 := EXC_lab hbq hlq hexc (fun h9 => by obtain ⟨_, _, _, _, h8⟩ := hnn (hkq.symm.trans h9); exact h8)
      refine lv_aload_n hx hb dX8_run_55 rfl (lv_at hl 3 rfl) ?_
      refine lv_iload_n hx hb dX8_run_56 rfl (lv_at hl 1 rfl) ?_
      have ct := k_cut_of (wc := [(mo, .inr (8, [.ref ms, .int (nI (min (kp + 1) 6)), .ref mb, .int (nI ty), .int 0, .ref mk, .int mlq, .ref mfd, .int mfq, .int (nI jx), .int ox, .int wx])), (ms, .inl (K, 889, .inl sfq)), (mk, .inl (K, 41, .inl lkq)), (mfd, .inl (K, 9, .inl fdq))]) (wr := [(mb, .inl (KC, 60, .inl bf))]) (tc := [(K, .int)]) hG hS hA hK hP hD [3, 4, 0, 1] [2] [0] rfl rfl (by decide) (by decide) (by decide) rfl
      refine k_endv (As := [.ref mo, .int Lx]) ct (k_runV (As := [.int Lx]) (rest := []) S0 Lv_X8_189 rfl (ci := 8) (q0 := 0) rfl rfl ct (c_M_does l D mo ms (nI (min (kp + 1) 6)) mb (nI ty) 0 mk mlq mfd mfq (nI jx) ox wx K sfq lkq fdq xq Lx x2 qq hRq hbq hlq hexc hkq hfq hwq hmm H.size) hl.1 rfl (Nat.le_of_ble_eq_true rfl) rfl dX8_run_57 ⟨⟨Nat.le_of_ble_eq_true rfl, Nat.le_of_ble_eq_true rfl⟩, Nat.le_of_ble_eq_true rfl, Nat.le_of_ble_eq_true rfl⟩) rfl rfl (fun _ u H locs hw_23 hP hD hK hS => ?_)
      obtain ⟨ml1v_18, mf1v_19, sg_20, lk1v_21, fd1v_22⟩ := u
      have hK : va_K D vwCl [(K, .int), (KC, .char)] s := hK
      have hP : va_P D vwCl [(mb, .inl (KC, 60, .inl bf)), (mo, .inr (8, [.ref ms, .int (nI (min (kp + 1) 6)), .ref mb, .int (nI ty), .int 0, .ref mk, .int ml1v_18, .ref mfd, .int mf1v_19, .int (nI jx), .int ox, .int wx])), (ms, .inl (K, 889, .inl sg_20)), (mk, .inl (K, 41, .inl lk1v_21)), (mfd, .inl (K, 9, .inl fd1v_22))] H := hP
      have hD : va_D A [(mb, .inl (KC, 60, .inl bf)), (mo, .inr (8, [.ref ms, .int (nI (min (kp + 1) 6)), .ref mb, .int (nI ty), .int 0, .ref mk, .int ml1v_18, .ref mfd, .int mf1v_19, .int (nI jx), .int ox, .int wx])), (ms, .inl (K, 889, .inl sg_20)), (mk, .inl (K, 41, .inl lk1v_21)), (mfd, .inl (K, 9, .inl fd1v_22))] := hD
      have hw_23 : RS x2 sg_20 ∧ hiEq sg_20 sfq := hw_23
      obtain ⟨x_24, ex_24⟩ : ∃ z : Int32, z = (nI dn) + 1 := ⟨_, rfl⟩
      refine lv_iinc (v := x_24) (lv' := [(1, .int x_24), (2, .int 1), (3, .int Lx), (0, .ref mo)]) hx hb dX8_run_60 hl (k := 2) rfl (by rw [ex_24]; rfl) (by decide) rfl (fun ls hl => ?_)
      refine lv_aload_n hx hb dX8_run_63 rfl (lv_at hl 3 rfl) ?_
      refine lv_bipush (v := 59) hx hb dX8_run_64 (by decide) ?_
      have ct := k_cut_of (wc := [(mo, .inr (8, [.ref ms, .int (nI (min (kp + 1) 6)), .ref mb, .int (nI ty), .int 0, .ref mk, .int ml1v_18, .ref mfd, .int mf1v_19, .int (nI jx), .int ox, .int wx])), (mb, .inl (KC, 60, .inl bf))]) (wr := [(ms, .inl (K, 889, .inl sg_20)), (mk, .inl (K, 41, .inl lk1v_21)), (mfd, .inl (K, 9, .inl fd1v_22))]) (tc := [(KC, .char)]) hG hS hA hK hP hD [1, 0] [2, 3, 4] [1] rfl rfl (by decide) (by decide) (by decide) rfl
      refine k_endi (As := [.ref mo, .int 59]) ct (k_runV (As := [.int 59]) (rest := []) S0 Lv_X8_165 rfl (ci := 8) (q0 := 0) rfl rfl ct (c_M_takes l D mo ms (nI (min (kp + 1) 6)) mb ty 0 mk ml1v_18 mfd mf1v_19 jx ox wx KC bf tx 59 (by assumption) (by first | assumption | omega) (by first | assumption | omega) H.size) hl.1 rfl (Nat.le_of_ble_eq_true rfl) rfl dX8_run_66 ⟨⟨Nat.le_of_ble_eq_true rfl, Nat.le_of_ble_eq_true rfl⟩, Nat.le_of_ble_eq_true rfl, Nat.le_of_ble_eq_true rfl⟩) rfl rfl (fun r_25 sp1v_26 H locs hw_27 hP hD hK hS => ?_)
      have hK : va_K D vwCl [(K, .int), (KC, .char)] s := hK
      have hP : va_P D vwCl [(ms, .inl (K, 889, .inl sg_20)), (mk, .inl (K, 41, .inl lk1v_21)), (mfd, .inl (K, 9, .inl fd1v_22)), (mo, .inr (8, [.ref ms, .int (nI (min (kp + 1) 6)), .ref mb, .int (nI ty), .int 0, .ref mk, .int ml1v_18, .ref mfd, .int mf1v_19, .int (nI sp1v_26), .int ox, .int wx])), (mb, .inl (KC, 60, .inl bf))] H := hP
      have hD : va_D A [(ms, .inl (K, 889, .inl sg_20)), (mk, .inl (K, 41, .inl lk1v_21)), (mfd, .inl (K, 9, .inl fd1v_22)), (mo, .inr (8, [.ref ms, .int (nI (min (kp + 1) 6)), .ref mb, .int (nI ty), .int 0, .ref mk, .int ml1v_18, .ref mfd, .int mf1v_19, .int (nI sp1v_26), .int ox, .int wx])), (mb, .inl (KC, 60, .inl bf))] := hD
      rcases hw_27 with ⟨rfl, rfl, c_28, c_29⟩ | ⟨rfl, he_30, c_31⟩
      · skip
        refine lv_istore_n (lv' := [(2, .int 1), (1, .int x_24), (3, .int Lx), (0, .ref mo)]) hx hb dX8_run_69 rfl hl (by decide) rfl (fun ls hl => ?_)
        refine lv_goto (tgt := 36) hx hb dX8_run_70 (by decide) ?_
        have he9 : x_24 = (nI (dn + 1)) := by rw [ex_24]; exact nI_1 dn
        rw [he9] at hl
        have hl : lv_has ls 4 [(2, .int 1), (1, .int (nI (dn + 1))), (3, .int Lx), (0, .ref mo)] := hl
        exact ih9 ((jx + 1, dn + 1, 1, x2, sg_20, ml1v_18, mf1v_19, lk1v_21, fd1v_22, ox, wx)) H locs ls (by omega) ⟨(by omega), ((ht1 rfl).1 c_28 c_29), hbx2, hlx2, hw_23.1, (hi_tr hw_23.2 hhq), hP.sub [3, 0, 1, 2, 4] rfl, hD.sub [3, 0, 1, 2, 4] (by decide) rfl, hS, lv_sub hl [1, 0, 3] rfl⟩
      · skip
        have he_30 := he_30.symm
        subst he_30
        refine lv_istore_n (lv' := [(2, .int 0), (1, .int x_24), (3, .int Lx), (0, .ref mo)]) hx hb dX8_run_69 rfl hl (by decide) rfl (fun ls hl => ?_)
        refine lv_goto (tgt := 36) hx hb dX8_run_70 (by decide) ?_
        have he9 : x_24 = (nI (dn + 1)) := by rw [ex_24]; exact nI_1 dn
        rw [he9] at hl
        have hl : lv_has ls 4 [(2, .int 0), (1, .int (nI (dn + 1))), (3, .int Lx), (0, .ref mo)] := hl
        exact ih9 ((jx, dn + 1, 0, x2, sg_20, ml1v_18, mf1v_19, lk1v_21, fd1v_22, ox, wx)) H locs ls (by omega) ⟨hjy, ((ht1 rfl).2 c_31), hbx2, hlx2, hw_23.1, (hi_tr hw_23.2 hhq), hP.sub [3, 0, 1, 2, 4] rfl, hD.sub [3, 0, 1, 2, 4] (by decide) rfl, hS, lv_sub hl [1, 0, 3] rfl⟩
set_option maxHeartbeats 4000000 in
set_option maxRecDepth 100000 in
theorem c_M_runX (l : Launch) (D : va_G) (mo : Nat) (ms : Nat) (sv : Int32) (mb : Nat) (ty : Nat) (th : Int32) (mk : Nat) (ml : Int32) (mfd : Nat) (mf : Int32) (sp : Int32) (on : Int32) (tw : Int32) (KC : ClassId) (bf : Nat → Int32) (tx : Nat → Int32) (hcf : ∀ j9, j9 < ty → bf j9 = tx j9) (hty : ty ≤ 60) (hco : ¬ COM tx ty g0) (sz : Nat) : k_Mi (S := Int32 × Int32 × Int32) l D yX8_run cX8_run 4 (some .int) 6 0 0 130 [.ref mo] [(mo, .inr (8, [.ref ms, .int sv, .ref mb, .int (nI ty), .int th, .ref mk, .int ml, .ref mfd, .int mf, .int sp, .int on, .int tw])), (mb, .inl (KC, 60, .inl bf))] [(KC, .char)] (fun (r : Int32) (u : Int32 × Int32 × Int32) => match u with | (spx, on1, tw1) => r = (0)) (fun u => match u with | (spx, on1, tw1) => [(mo, .inr (8, [.ref ms, .int sv, .ref mb, .int (nI ty), .int 1, .ref mk, .int ml, .ref mfd, .int mf, .int spx, .int on1, .int tw1])), (mb, .inl (KC, 60, .inl bf))]) (fun u => match u with | (spx, on1, tw1) => []) sz := by
  refine Met.ofW (cc := cX8_run) (maxL := 4) (ret := (some .int)) (by decide) rfl ?_
  intro p e s m args below meth c s₁ B hml hv
  obtain ⟨rfl, hsz, hP, hK, hD0, hG⟩ := hv
  have hx := B.exec
  have hb := B.bytes
  have hr := B.returns
  have ht : ∀ v9 ∈ wsA, v9.before ([.ref mo] : List Value).toArray s = true := fun v9 h9 => atoms_spec (ws := k_ws yX8_run cX8_run 4 (some .int)) B.pre v9 (List.mem_cons_of_mem _ h9)
  have hown : s.vm.findClass RX8 = some m.cls := findClass_of_methodNamed B.named
  have S0 : k_C p s m ([.ref mo] : List Value).toArray c cX8_run 4 RX8 := ⟨hx, hb, hml, hown, ht⟩
  have hlocks := B.notSynchronized
  subst hsz
  have hD := hD0.self (sz := s.heap.size)
  generalize hAe : va_A [(mo, .inr (8, [.ref ms, .int sv, .ref mb, .int (nI ty), .int th, .ref mk, .int ml, .ref mfd, .int mf, .int sp, .int on, .int tw])), (mb, .inl (KC, 60, .inl bf))] s.heap.size = A at hD hG ⊢
  have hA : ∀ q : Nat, s.heap.size ≤ q → A q := fun q h => by rw [← hAe]; exact Or.inr h
  have hS : va_S A s.heap s.heap [] := va_S.rf
  have hl := lv_entry ([.ref mo]) (n := 4) (Nat.le_of_ble_eq_true rfl)
  rw [lg_entry_eq]
  generalize (lg_sl ([.ref mo]) ++ List.replicate (4 - (lg_sl ([.ref mo])).length) Slot.unset).toArray = ls at hl ⊢
  have hl : lv_has ls 4 [(0, .ref mo)] := hl
  have hP : va_P D vwCl [(mo, .inr (8, [.ref ms, .int sv, .ref mb, .int (nI ty), .int th, .ref mk, .int ml, .ref mfd, .int mf, .int sp, .int on, .int tw])), (mb, .inl (KC, 60, .inl bf))] s.heap := hP
  refine lv_aload_n hx hb dX8_run_0 rfl (lv_at hl 0 rfl) ?_
  refine lv_aload_n hx hb dX8_run_1 rfl (lv_at hl 0 rfl) ?_
  have ct := k_cut_of (wc := [(mo, .inr (8, [.ref ms, .int sv, .ref mb, .int (nI ty), .int th, .ref mk, .int ml, .ref mfd, .int mf, .int sp, .int on, .int tw])), (mb, .inl (KC, 60, .inl bf))]) (wr := []) (tc := [(KC, .char)]) hG hS hA hK hP hD [0, 1] [] [0] rfl rfl (by decide) (by decide) (by decide) rfl
  refine k_endi (As := [.ref mo]) ct (k_runV (As := []) (rest := [.ref mo]) S0 Lv_X8_183 rfl (ci := 8) (q0 := 0) rfl rfl ct (c_M_error l D mo ms sv mb ty th mk ml mfd mf sp on tw KC bf tx (by assumption) (by first | assumption | omega) s.heap.size) hl.1 rfl (Nat.le_of_ble_eq_true rfl) rfl dX8_run_2 ⟨⟨Nat.le_of_ble_eq_true rfl, Nat.le_of_ble_eq_true rfl⟩, Nat.le_of_ble_eq_true rfl, Nat.le_of_ble_eq_true rfl⟩) rfl rfl (fun r_1 u H locs hw_5 hP hD hK hS => ?_)
  obtain ⟨spx_2, on1v_3, tw1v_4⟩ := u
  have hK : va_K D vwCl [(KC, .char)] s := hK
  have hP : va_P D vwCl [(mo, .inr (8, [.ref ms, .int sv, .ref mb, .int (nI ty), .int th, .ref mk, .int ml, .ref mfd, .int mf, .int spx_2, .int on1v_3, .int tw1v_4])), (mb, .inl (KC, 60, .inl bf))] H := hP
  have hD : va_D A [(mo, .inr (8, [.ref ms, .int sv, .ref mb, .int (nI ty), .int th, .ref mk, .int ml, .ref mfd, .int mf, .int spx_2, .int on1v_3, .int tw1v_4])), (mb, .inl (KC, 60, .inl bf))] := hD
  have hw_5 : ERR tx ty r_1 := hw_5
  have hn1 := err_no hw_5 hco
  refine lv_iconst (v := (-1)) hx hb dX8_run_5 (by decide) ?_
  refine lv_icmp_ne (tgt := 13) hx hb dX8_run_6 (by decide) (fun c_6 => ?_) (fun c9 => absurd c9 hn1)
  refine lv_iconst (v := 0) hx hb dX8_run_13 (by decide) ?_
  refine lv_iconst (v := 1) hx hb dX8_run_14 (by decide) ?_
  have ct := k_cut_of (wc := [(mo, .inr (8, [.ref ms, .int sv, .ref mb, .int (nI ty), .int th, .ref mk, .int ml, .ref mfd, .int mf, .int spx_2, .int on1v_3, .int tw1v_4]))]) (wr := [(mb, .inl (KC, 60, .inl bf))]) (tc := []) hG hS hA hK hP hD [0] [1] [] rfl rfl (by decide) (by decide) (by decide) rfl
  refine k_endi (As := [.ref mo, .int 0, .int 1]) ct (k_runV (As := [.int 0, .int 1]) (rest := []) S0 Lv_X8_58 rfl (ci := 8) (q0 := 0) rfl rfl ct (c_M_goes0 l D mo ms sv mb (nI ty) th mk ml mfd mf spx_2 on1v_3 tw1v_4 1 H.size) hl.1 rfl (Nat.le_of_ble_eq_true rfl) rfl dX8_run_15 ⟨⟨Nat.le_of_ble_eq_true rfl, Nat.le_of_ble_eq_true rfl⟩, Nat.le_of_ble_eq_true rfl, Nat.le_of_ble_eq_true rfl⟩) rfl rfl (fun r_7 _ H locs hw_8 hP hD hK hS => ?_)
  have hK : va_K D vwCl [(KC, .char)] s := hK
  have hP : va_P D vwCl [(mb, .inl (KC, 60, .inl bf)), (mo, .inr (8, [.ref ms, .int sv, .ref mb, .int (nI ty), .int 1, .ref mk, .int ml, .ref mfd, .int mf, .int spx_2, .int on1v_3, .int tw1v_4]))] H := hP
  have hD : va_D A [(mb, .inl (KC, 60, .inl bf)), (mo, .inr (8, [.ref ms, .int sv, .ref mb, .int (nI ty), .int 1, .ref mk, .int ml, .ref mfd, .int mf, .int spx_2, .int on1v_3, .int tw1v_4]))] := hD
  have hw_8 : r_7 = (0) := hw_8
  have hw_8 := hw_8.symm
  subst hw_8
  refine k_nrm (y := 0) rfl ?_
  refine lv_if_ne (tgt := 23) hx hb dX8_run_18 (by decide) (fun c9 => absurd (by decide) c9) (fun _ => ?_)
  refine lv_iconst (v := 0) hx hb dX8_run_21 (by decide) ?_
  have hP9 : va_P D vwCl [(mo, .inr (8, [.ref ms, .int sv, .ref mb, .int (nI ty), .int 1, .ref mk, .int ml, .ref mfd, .int mf, .int spx_2, .int on1v_3, .int tw1v_4])), (mb, .inl (KC, 60, .inl bf))] H := hP.sub [1, 0] rfl
  have hD9 : va_D A [(mo, .inr (8, [.ref ms, .int sv, .ref mb, .int (nI ty), .int 1, .ref mk, .int ml, .ref mfd, .int mf, .int spx_2, .int on1v_3, .int tw1v_4])), (mb, .inl (KC, 60, .inl bf))] := hD.sub [1, 0] (by decide) rfl
  have hK9 : va_K D vwCl [] s := hK.sub [] rfl
  exact W.iret (v := 0) hx hb hr (fun t ht9 hW9 => ⟨⟨0, (spx_2, on1v_3, tw1v_4), rfl, by first | rfl | trivial | (simp only [hw_5, c_6, if_true, if_false, reduceIte, and_self]; done) | simp_all, ⟨by rw [ht9]; exact hP9, va_K.moved hW9.alike hK9, hD9⟩⟩, hS.F ht9⟩) hS.2.2 dX8_run_22
set_option maxHeartbeats 4000000 in
set_option maxRecDepth 100000 in
theorem c_M_append (l : Launch) (D : va_G) (mo : Nat) (ms : Nat) (sv : Int32) (mb : Nat) (ty : Nat) (th : Int32) (mk : Nat) (ml : Int32) (mfd : Nat) (mf : Int32) (sp : Int32) (on : Int32) (tw : Int32) (KC : ClassId) (bf : Nat → Int32) (cx : Int32) (hx1 : ¬ cx < 33) (hx2 : cx ≤ 126) (h60 : ty < 60) (sz : Nat) : k_Mi (S := Unit) l D yX8_append cX8_append 2 (some .int) 1 0 0 22 [.ref mo, .int cx] [(mo, .inr (8, [.ref ms, .int sv, .ref mb, .int (nI ty), .int th, .ref mk, .int ml, .ref mfd, .int mf, .int sp, .int on, .int tw])), (mb, .inl (KC, 60, .inl bf))] [(KC, .char)] (fun (r : Int32) (_ : Unit) => r = (nI (ty + 1))) (fun _ => [(mo, .inr (8, [.ref ms, .int sv, .ref mb, .int (nI (ty + 1)), .int 0, .ref mk, .int ml, .ref mfd, .int mf, .int sp, .int on, .int tw])), (mb, .inl (KC, 60, .inl (upd bf ty cx)))]) (fun _ => []) sz := by
  refine Met.ofW (cc := cX8_append) (maxL := 2) (ret := (some .int)) (by decide) rfl ?_
  intro p e s m args below meth c s₁ B hml hv
  obtain ⟨rfl, hsz, hP, hK, hD0, hG⟩ := hv
  have hx := B.exec
  have hb := B.bytes
  have hr := B.returns
  have ht : ∀ v9 ∈ wsA, v9.before ([.ref mo, .int cx] : List Value).toArray s = true := fun v9 h9 => atoms_spec (ws := k_ws yX8_append cX8_append 2 (some .int)) B.pre v9 (List.mem_cons_of_mem _ h9)
  have hown : s.vm.findClass RX8 = some m.cls := findClass_of_methodNamed B.named
  have S0 : k_C p s m ([.ref mo, .int cx] : List Value).toArray c cX8_append 2 RX8 := ⟨hx, hb, hml, hown, ht⟩
  have hlocks := B.notSynchronized
  subst hsz
  have hD := hD0.self (sz := s.heap.size)
  generalize hAe : va_A [(mo, .inr (8, [.ref ms, .int sv, .ref mb, .int (nI ty), .int th, .ref mk, .int ml, .ref mfd, .int mf, .int sp, .int on, .int tw])), (mb, .inl (KC, 60, .inl bf))] s.heap.size = A at hD hG ⊢
  have hA : ∀ q : Nat, s.heap.size ≤ q → A q := fun q h => by rw [← hAe]; exact Or.inr h
  have hS : va_S A s.heap s.heap [] := va_S.rf
  have hl := lv_entry ([.ref mo, .int cx]) (n := 2) (Nat.le_of_ble_eq_true rfl)
  rw [lg_entry_eq]
  generalize (lg_sl ([.ref mo, .int cx]) ++ List.replicate (2 - (lg_sl ([.ref mo, .int cx])).length) Slot.unset).toArray = ls at hl ⊢
  have hl : lv_has ls 2 [(0, .ref mo), (1, .int cx)] := hl
  have hP : va_P D vwCl [(mo, .inr (8, [.ref ms, .int sv, .ref mb, .int (nI ty), .int th, .ref mk, .int ml, .ref mfd, .int mf, .int sp, .int on, .int tw])), (mb, .inl (KC, 60, .inl bf))] s.heap := hP
  refine lv_aload_n hx hb dX8_append_0 rfl (lv_at hl 0 rfl) ?_
  refine lv_iload_n hx hb dX8_append_1 rfl (lv_at hl 1 rfl) ?_
  refine lv_bipush (v := 33) hx hb dX8_append_2 (by decide) ?_
  refine lv_bipush (v := 126) hx hb dX8_append_4 (by decide) ?_
  have ct := k_cut_of (wc := []) (wr := [(mo, .inr (8, [.ref ms, .int sv, .ref mb, .int (nI ty), .int th, .ref mk, .int ml, .ref mfd, .int mf, .int sp, .int on, .int tw])), (mb, .inl (KC, 60, .inl bf))]) (tc := []) hG hS hA hK hP hD [] [0, 1] [] rfl rfl (by decide) (by decide) (by decide) rfl
  refine k_endi (As := [.int cx, .int 33, .int 126]) ct (k_runS (As := [.int cx, .int 33, .int 126]) (rest := [.ref mo]) S0 Ls_X8_46 ct (c_M_in1 l D cx 33 126 hx1 (Int32.not_lt.mpr hx2) s.heap.size) hl.1 rfl (Nat.le_of_ble_eq_true rfl) rfl dX8_append_6 ⟨⟨Nat.le_of_ble_eq_true rfl, Nat.le_of_ble_eq_true rfl⟩, Nat.le_of_ble_eq_true rfl, Nat.le_of_ble_eq_true rfl⟩) rfl rfl (fun r_1 _ H locs hw_2 hP hD hK hS => ?_)
  have hK : va_K D vwCl [(KC, .char)] s := hK
  have hP : va_P D vwCl [(mo, .inr (8, [.ref ms, .int sv, .ref mb, .int (nI ty), .int th, .ref mk, .int ml, .ref mfd, .int mf, .int sp, .int on, .int tw])), (mb, .inl (KC, 60, .inl bf))] H := hP
  have hD : va_D A [(mo, .inr (8, [.ref ms, .int sv, .ref mb, .int (nI ty), .int th, .ref mk, .int ml, .ref mfd, .int mf, .int sp, .int on, .int tw])), (mb, .inl (KC, 60, .inl bf))] := hD
  have hw_2 : r_1 = (1) := hw_2
  have hw_2 := hw_2.symm
  subst hw_2
  refine k_nrm (y := 1) rfl ?_
  refine lv_aload_n hx hb dX8_append_9 rfl (lv_at hl 0 rfl) ?_
  refine va_get (D := D) (ci := 8) (v := .int (nI ty)) (C := RX8) (T := TX8) (N := 12) hx hb ht inA_X8 hown hK hP 0 rfl rfl 3 (by decide) (ht _ lf_X8_147) (fun _ h9 => h9) rfl dX8_append_10 ?_
  refine lv_bipush (v := 60) hx hb dX8_append_13 (by decide) ?_
  refine lv_icmp_ge (tgt := 22) hx hb dX8_append_15 (by decide) (fun c9 => absurd c9 (nI_ge h60 (by decide))) (fun c_3 => ?_)
  refine lv_iconst (v := 1) hx hb dX8_append_18 (by decide) ?_
  refine lv_goto (tgt := 23) hx hb dX8_append_19 (by decide) ?_
  have ct := k_cut_of (wc := [(mo, .inr (8, [.ref ms, .int sv, .ref mb, .int (nI ty), .int th, .ref mk, .int ml, .ref mfd, .int mf, .int sp, .int on, .int tw]))]) (wr := [(mb, .inl (KC, 60, .inl bf))]) (tc := []) hG hS hA hK hP hD [0] [1] [] rfl rfl (by decide) (by decide) (by decide) rfl
  refine k_endi (As := [.ref mo, .int 1, .int 1]) ct (k_runV (As := [.int 1, .int 1]) (rest := []) S0 Lv_X8_58 rfl (ci := 8) (q0 := 0) rfl rfl ct (c_M_goes11 l D mo ms sv mb (nI ty) th mk ml mfd mf sp on tw H.size) hl.1 rfl (Nat.le_of_ble_eq_true rfl) rfl dX8_append_23 ⟨⟨Nat.le_of_ble_eq_true rfl, Nat.le_of_ble_eq_true rfl⟩, Nat.le_of_ble_eq_true rfl, Nat.le_of_ble_eq_true rfl⟩) rfl rfl (fun r_4 _ H locs hw_5 hP hD hK hS => ?_)
  have hK : va_K D vwCl [(KC, .char)] s := hK
  have hP : va_P D vwCl [(mb, .inl (KC, 60, .inl bf)), (mo, .inr (8, [.ref ms, .int sv, .ref mb, .int (nI ty), .int 0, .ref mk, .int ml, .ref mfd, .int mf, .int sp, .int on, .int tw]))] H := hP
  have hD : va_D A [(mb, .inl (KC, 60, .inl bf)), (mo, .inr (8, [.ref ms, .int sv, .ref mb, .int (nI ty), .int 0, .ref mk, .int ml, .ref mfd, .int mf, .int sp, .int on, .int tw]))] := hD
  have hw_5 : r_4 = (1) := hw_5
  have hw_5 := hw_5.symm
  subst hw_5
  refine k_nrm (y := 1) rfl ?_
  refine lv_if_ne (tgt := 31) hx hb dX8_append_26 (by decide) (fun _ => ?_) (fun c9 => absurd c9 (by decide))
  refine lv_aload_n hx hb dX8_append_31 rfl (lv_at hl 0 rfl) ?_
  refine va_get (D := D) (ci := 8) (v := .ref mb) (C := RX8) (T := TX8) (N := 12) hx hb ht inA_X8 hown hK hP 1 rfl rfl 2 (by decide) (ht _ lf_X8_13) (fun _ h9 => h9) rfl dX8_append_32 ?_
  refine lv_aload_n hx hb dX8_append_35 rfl (lv_at hl 0 rfl) ?_
  refine va_get (D := D) (ci := 8) (v := .int (nI ty)) (C := RX8) (T := TX8) (N := 12) hx hb ht inA_X8 hown hK hP 1 rfl rfl 3 (by decide) (ht _ lf_X8_147) (fun _ h9 => h9) rfl dX8_append_36 ?_
  refine lv_iload_n hx hb dX8_append_39 rfl (lv_at hl 1 rfl) ?_
  refine lv_i2c (v := cx) hx hb dX8_append_40 (ch_i2c hx1 hx2) ?_
  refine va_cast hx hb hK hP hD hS 0 0 rfl rfl (vp_in_nI h60 (by decide)) dX8_append_41 (fun H locs hP hD hS => ?_)
  have hP : va_P D vwCl [(mb, .inl (KC, 60, .inl (upd bf ((nI ty).toNatClampNeg) (vp_nar .char cx)))), (mo, .inr (8, [.ref ms, .int sv, .ref mb, .int (nI ty), .int 0, .ref mk, .int ml, .ref mfd, .int mf, .int sp, .int on, .int tw]))] H := hP
  have hD : va_D A [(mb, .inl (KC, 60, .inl (upd bf ((nI ty).toNatClampNeg) (vp_nar .char cx)))), (mo, .inr (8, [.ref ms, .int sv, .ref mb, .int (nI ty), .int 0, .ref mk, .int ml, .ref mfd, .int mf, .int sp, .int on, .int tw]))] := hD
  have hf9 : upd bf ((nI ty).toNatClampNeg) (vp_nar .char cx) = (upd bf ty cx) := by rw [nI_clamp (by omega), ch_nar hx1 hx2]
  rw [hf9] at hP hD
  have hP : va_P D vwCl [(mb, .inl (KC, 60, .inl (upd bf ty cx))), (mo, .inr (8, [.ref ms, .int sv, .ref mb, .int (nI ty), .int 0, .ref mk, .int ml, .ref mfd, .int mf, .int sp, .int on, .int tw]))] H := hP
  have hD : va_D A [(mb, .inl (KC, 60, .inl (upd bf ty cx))), (mo, .inr (8, [.ref ms, .int sv, .ref mb, .int (nI ty), .int 0, .ref mk, .int ml, .ref mfd, .int mf, .int sp, .int on, .int tw]))] := hD
  refine lv_aload_n hx hb dX8_append_42 rfl (lv_at hl 0 rfl) ?_
  refine lv_dup hx hb dX8_append_43 rfl ?_
  refine va_get (D := D) (ci := 8) (v := .int (nI ty)) (C := RX8) (T := TX8) (N := 12) hx hb ht inA_X8 hown hK hP 1 rfl rfl 3 (by decide) (ht _ lf_X8_147) (fun _ h9 => h9) rfl dX8_append_44 ?_
  refine lv_iconst (v := 1) hx hb dX8_append_47 (by decide) ?_
  refine lv_iadd hx hb dX8_append_48 ?_
  refine k_nrm (y := (nI (ty + 1))) (nI_1 ty) ?_
  refine va_put (D := D) (ci := 8) (v := .int (nI (ty + 1))) (ty := .int) (C := RX8) (T := TX8) (N := 12) hx hb ht inA_X8 tyX8 tyX8_ok nmX8 hown hK hP hD hS 1 rfl rfl 3 (by decide) (ht _ lf_X8_147) (fun _ h9 => h9) rfl (tyX8_ok 3 (by decide)) rfl rfl (Nat.le_of_ble_eq_true rfl) dX8_append_49 (fun H locs hP hD hS => ?_)
  have hP : va_P D vwCl [(mb, .inl (KC, 60, .inl (upd bf ty cx))), (mo, .inr (8, [.ref ms, .int sv, .ref mb, .int (nI (ty + 1)), .int 0, .ref mk, .int ml, .ref mfd, .int mf, .int sp, .int on, .int tw]))] H := hP
  have hD : va_D A [(mb, .inl (KC, 60, .inl (upd bf ty cx))), (mo, .inr (8, [.ref ms, .int sv, .ref mb, .int (nI (ty + 1)), .int 0, .ref mk, .int ml, .ref mfd, .int mf, .int sp, .int on, .int tw]))] := hD
  refine lv_aload_n hx hb dX8_append_52 rfl (lv_at hl 0 rfl) ?_
  refine va_get (D := D) (ci := 8) (v := .int (nI (ty + 1))) (C := RX8) (T := TX8) (N := 12) hx hb ht inA_X8 hown hK hP 1 rfl rfl 3 (by decide) (ht _ lf_X8_147) (fun _ h9 => h9) rfl dX8_append_53 ?_
  have hP9 : va_P D vwCl [(mo, .inr (8, [.ref ms, .int sv, .ref mb, .int (nI (ty + 1)), .int 0, .ref mk, .int ml, .ref mfd, .int mf, .int sp, .int on, .int tw])), (mb, .inl (KC, 60, .inl (upd bf ty cx)))] H := hP.sub [1, 0] rfl
  have hD9 : va_D A [(mo, .inr (8, [.ref ms, .int sv, .ref mb, .int (nI (ty + 1)), .int 0, .ref mk, .int ml, .ref mfd, .int mf, .int sp, .int on, .int tw])), (mb, .inl (KC, 60, .inl (upd bf ty cx)))] := hD.sub [1, 0] (by decide) rfl
  have hK9 : va_K D vwCl [] s := hK.sub [] rfl
  exact W.iret (v := (nI (ty + 1))) hx hb hr (fun t ht9 hW9 => ⟨⟨(nI (ty + 1)), (), rfl, by first | rfl | trivial | (simp only [c_3, if_true, if_false, reduceIte, and_self]; done) | simp_all, ⟨by rw [ht9]; exact hP9, va_K.moved hW9.alike hK9, hD9⟩⟩, hS.F ht9⟩) hS.2.2 dX8_append_56
set_option maxHeartbeats 4000000 in
set_option maxRecDepth 100000 in
theorem c_M_appendX1 (l : Launch) (D : va_G) (mo : Nat) (ms : Nat) (sv : Int32) (mb : Nat) (ty : Nat) (th : Int32) (mk : Nat) (ml : Int32) (mfd : Nat) (mf : Int32) (sp : Int32) (on : Int32) (tw : Int32) (KC : ClassId) (bf : Nat → Int32) (cx : Int32) (hx9 : ¬ (¬ cx < 33 ∧ cx ≤ 126)) (sz : Nat) : k_Mi (S := Unit) l D yX8_append cX8_append 2 (some .int) 1 0 0 22 [.ref mo, .int cx] [(mo, .inr (8, [.ref ms, .int sv, .ref mb, .int (nI ty), .int th, .ref mk, .int ml, .ref mfd, .int mf, .int sp, .int on, .int tw])), (mb, .inl (KC, 60, .inl bf))] [(KC, .char)] (fun (r : Int32) (_ : Unit) => r = (0)) (fun _ => [(mo, .inr (8, [.ref ms, .int sv, .ref mb, .int (nI ty), .int 1, .ref mk, .int ml, .ref mfd, .int mf, .int sp, .int on, .int tw])), (mb, .inl (KC, 60, .inl bf))]) (fun _ => []) sz := by
  refine Met.ofW (cc := cX8_append) (maxL := 2) (ret := (some .int)) (by decide) rfl ?_
  intro p e s m args below meth c s₁ B hml hv
  obtain ⟨rfl, hsz, hP, hK, hD0, hG⟩ := hv
  have hx := B.exec
  have hb := B.bytes
  have hr := B.returns
  have ht : ∀ v9 ∈ wsA, v9.before ([.ref mo, .int cx] : List Value).toArray s = true := fun v9 h9 => atoms_spec (ws := k_ws yX8_append cX8_append 2 (some .int)) B.pre v9 (List.mem_cons_of_mem _ h9)
  have hown : s.vm.findClass RX8 = some m.cls := findClass_of_methodNamed B.named
  have S0 : k_C p s m ([.ref mo, .int cx] : List Value).toArray c cX8_append 2 RX8 := ⟨hx, hb, hml, hown, ht⟩
  have hlocks := B.notSynchronized
  subst hsz
  have hD := hD0.self (sz := s.heap.size)
  generalize hAe : va_A [(mo, .inr (8, [.ref ms, .int sv, .ref mb, .int (nI ty), .int th, .ref mk, .int ml, .ref mfd, .int mf, .int sp, .int on, .int tw])), (mb, .inl (KC, 60, .inl bf))] s.heap.size = A at hD hG ⊢
  have hA : ∀ q : Nat, s.heap.size ≤ q → A q := fun q h => by rw [← hAe]; exact Or.inr h
  have hS : va_S A s.heap s.heap [] := va_S.rf
  have hl := lv_entry ([.ref mo, .int cx]) (n := 2) (Nat.le_of_ble_eq_true rfl)
  rw [lg_entry_eq]
  generalize (lg_sl ([.ref mo, .int cx]) ++ List.replicate (2 - (lg_sl ([.ref mo, .int cx])).length) Slot.unset).toArray = ls at hl ⊢
  have hl : lv_has ls 2 [(0, .ref mo), (1, .int cx)] := hl
  have hP : va_P D vwCl [(mo, .inr (8, [.ref ms, .int sv, .ref mb, .int (nI ty), .int th, .ref mk, .int ml, .ref mfd, .int mf, .int sp, .int on, .int tw])), (mb, .inl (KC, 60, .inl bf))] s.heap := hP
  refine lv_aload_n hx hb dX8_append_0 rfl (lv_at hl 0 rfl) ?_
  refine lv_iload_n hx hb dX8_append_1 rfl (lv_at hl 1 rfl) ?_
  refine lv_bipush (v := 33) hx hb dX8_append_2 (by decide) ?_
  refine lv_bipush (v := 126) hx hb dX8_append_4 (by decide) ?_
  have ct := k_cut_of (wc := []) (wr := [(mo, .inr (8, [.ref ms, .int sv, .ref mb, .int (nI ty), .int th, .ref mk, .int ml, .ref mfd, .int mf, .int sp, .int on, .int tw])), (mb, .inl (KC, 60, .inl bf))]) (tc := []) hG hS hA hK hP hD [] [0, 1] [] rfl rfl (by decide) (by decide) (by decide) rfl
  refine k_endi (As := [.int cx, .int 33, .int 126]) ct (k_runS (As := [.int cx, .int 33, .int 126]) (rest := [.ref mo]) S0 Ls_X8_46 ct (c_M_in0 l D cx 33 126 (rg_0 hx9) s.heap.size) hl.1 rfl (Nat.le_of_ble_eq_true rfl) rfl dX8_append_6 ⟨⟨Nat.le_of_ble_eq_true rfl, Nat.le_of_ble_eq_true rfl⟩, Nat.le_of_ble_eq_true rfl, Nat.le_of_ble_eq_true rfl⟩) rfl rfl (fun r_1 _ H locs hw_2 hP hD hK hS => ?_)
  have hK : va_K D vwCl [(KC, .char)] s := hK
  have hP : va_P D vwCl [(mo, .inr (8, [.ref ms, .int sv, .ref mb, .int (nI ty), .int th, .ref mk, .int ml, .ref mfd, .int mf, .int sp, .int on, .int tw])), (mb, .inl (KC, 60, .inl bf))] H := hP
  have hD : va_D A [(mo, .inr (8, [.ref ms, .int sv, .ref mb, .int (nI ty), .int th, .ref mk, .int ml, .ref mfd, .int mf, .int sp, .int on, .int tw])), (mb, .inl (KC, 60, .inl bf))] := hD
  have hw_2 : r_1 = (0) := hw_2
  have hw_2 := hw_2.symm
  subst hw_2
  refine k_nrm (y := 0) rfl ?_
  refine lv_aload_n hx hb dX8_append_9 rfl (lv_at hl 0 rfl) ?_
  refine va_get (D := D) (ci := 8) (v := .int (nI ty)) (C := RX8) (T := TX8) (N := 12) hx hb ht inA_X8 hown hK hP 0 rfl rfl 3 (by decide) (ht _ lf_X8_147) (fun _ h9 => h9) rfl dX8_append_10 ?_
  refine lv_bipush (v := 60) hx hb dX8_append_13 (by decide) ?_
  refine lv_icmp_ge (tgt := 22) hx hb dX8_append_15 (by decide) (fun c_3 => ?_) (fun c_3 => ?_)
  · have hc9 := c_3
    refine lv_iconst (v := 0) hx hb dX8_append_22 (by decide) ?_
    have ct := k_cut_of (wc := [(mo, .inr (8, [.ref ms, .int sv, .ref mb, .int (nI ty), .int th, .ref mk, .int ml, .ref mfd, .int mf, .int sp, .int on, .int tw]))]) (wr := [(mb, .inl (KC, 60, .inl bf))]) (tc := []) hG hS hA hK hP hD [0] [1] [] rfl rfl (by decide) (by decide) (by decide) rfl
    refine k_endi (As := [.ref mo, .int 0, .int 0]) ct (k_runV (As := [.int 0, .int 0]) (rest := []) S0 Lv_X8_58 rfl (ci := 8) (q0 := 0) rfl rfl ct (c_M_goes0 l D mo ms sv mb (nI ty) th mk ml mfd mf sp on tw 0 H.size) hl.1 rfl (Nat.le_of_ble_eq_true rfl) rfl dX8_append_23 ⟨⟨Nat.le_of_ble_eq_true rfl, Nat.le_of_ble_eq_true rfl⟩, Nat.le_of_ble_eq_true rfl, Nat.le_of_ble_eq_true rfl⟩) rfl rfl (fun r_4 _ H locs hw_5 hP hD hK hS => ?_)
    have hK : va_K D vwCl [(KC, .char)] s := hK
    have hP : va_P D vwCl [(mb, .inl (KC, 60, .inl bf)), (mo, .inr (8, [.ref ms, .int sv, .ref mb, .int (nI ty), .int 1, .ref mk, .int ml, .ref mfd, .int mf, .int sp, .int on, .int tw]))] H := hP
    have hD : va_D A [(mb, .inl (KC, 60, .inl bf)), (mo, .inr (8, [.ref ms, .int sv, .ref mb, .int (nI ty), .int 1, .ref mk, .int ml, .ref mfd, .int mf, .int sp, .int on, .int tw]))] := hD
    have hw_5 : r_4 = (0) := hw_5
    have hw_5 := hw_5.symm
    subst hw_5
    refine k_nrm (y := 0) rfl ?_
    refine lv_if_ne (tgt := 31) hx hb dX8_append_26 (by decide) (fun c9 => absurd (by decide) c9) (fun _ => ?_)
    refine lv_iconst (v := 0) hx hb dX8_append_29 (by decide) ?_
    have hP9 : va_P D vwCl [(mo, .inr (8, [.ref ms, .int sv, .ref mb, .int (nI ty), .int 1, .ref mk, .int ml, .ref mfd, .int mf, .int sp, .int on, .int tw])), (mb, .inl (KC, 60, .inl bf))] H := hP.sub [1, 0] rfl
    have hD9 : va_D A [(mo, .inr (8, [.ref ms, .int sv, .ref mb, .int (nI ty), .int 1, .ref mk, .int ml, .ref mfd, .int mf, .int sp, .int on, .int tw])), (mb, .inl (KC, 60, .inl bf))] := hD.sub [1, 0] (by decide) rfl
    have hK9 : va_K D vwCl [] s := hK.sub [] rfl
    exact W.iret (v := 0) hx hb hr (fun t ht9 hW9 => ⟨⟨0, (), rfl, by first | rfl | trivial | (simp only [c_3, if_true, if_false, reduceIte, and_self]; done) | simp_all, ⟨by rw [ht9]; exact hP9, va_K.moved hW9.alike hK9, hD9⟩⟩, hS.F ht9⟩) hS.2.2 dX8_append_30
  · have hc9 := c_3
    refine lv_iconst (v := 1) hx hb dX8_append_18 (by decide) ?_
    refine lv_goto (tgt := 23) hx hb dX8_append_19 (by decide) ?_
    have ct := k_cut_of (wc := [(mo, .inr (8, [.ref ms, .int sv, .ref mb, .int (nI ty), .int th, .ref mk, .int ml, .ref mfd, .int mf, .int sp, .int on, .int tw]))]) (wr := [(mb, .inl (KC, 60, .inl bf))]) (tc := []) hG hS hA hK hP hD [0] [1] [] rfl rfl (by decide) (by decide) (by decide) rfl
    refine k_endi (As := [.ref mo, .int 0, .int 1]) ct (k_runV (As := [.int 0, .int 1]) (rest := []) S0 Lv_X8_58 rfl (ci := 8) (q0 := 0) rfl rfl ct (c_M_goes0 l D mo ms sv mb (nI ty) th mk ml mfd mf sp on tw 1 H.size) hl.1 rfl (Nat.le_of_ble_eq_true rfl) rfl dX8_append_23 ⟨⟨Nat.le_of_ble_eq_true rfl, Nat.le_of_ble_eq_true rfl⟩, Nat.le_of_ble_eq_true rfl, Nat.le_of_ble_eq_true rfl⟩) rfl rfl (fun r_6 _ H locs hw_7 hP hD hK hS => ?_)
    have hK : va_K D vwCl [(KC, .char)] s := hK
    have hP : va_P D vwCl [(mb, .inl (KC, 60, .inl bf)), (mo, .inr (8, [.ref ms, .int sv, .ref mb, .int (nI ty), .int 1, .ref mk, .int ml, .ref mfd, .int mf, .int sp, .int on, .int tw]))] H := hP
    have hD : va_D A [(mb, .inl (KC, 60, .inl bf)), (mo, .inr (8, [.ref ms, .int sv, .ref mb, .int (nI ty), .int 1, .ref mk, .int ml, .ref mfd, .int mf, .int sp, .int on, .int tw]))] := hD
    have hw_7 : r_6 = (0) := hw_7
    have hw_7 := hw_7.symm
    subst hw_7
    refine k_nrm (y := 0) rfl ?_
    refine lv_if_ne (tgt := 31) hx hb dX8_append_26 (by decide) (fun c9 => absurd (by decide) c9) (fun _ => ?_)
    refine lv_iconst (v := 0) hx hb dX8_append_29 (by decide) ?_
    have hP9 : va_P D vwCl [(mo, .inr (8, [.ref ms, .int sv, .ref mb, .int (nI ty), .int 1, .ref mk, .int ml, .ref mfd, .int mf, .int sp, .int on, .int tw])), (mb, .inl (KC, 60, .inl bf))] H := hP.sub [1, 0] rfl
    have hD9 : va_D A [(mo, .inr (8, [.ref ms, .int sv, .ref mb, .int (nI ty), .int 1, .ref mk, .int ml, .ref mfd, .int mf, .int sp, .int on, .int tw])), (mb, .inl (KC, 60, .inl bf))] := hD.sub [1, 0] (by decide) rfl
    have hK9 : va_K D vwCl [] s := hK.sub [] rfl
    exact W.iret (v := 0) hx hb hr (fun t ht9 hW9 => ⟨⟨0, (), rfl, by first | rfl | trivial | (simp only [c_3, if_true, if_false, reduceIte, and_self]; done) | simp_all, ⟨by rw [ht9]; exact hP9, va_K.moved hW9.alike hK9, hD9⟩⟩, hS.F ht9⟩) hS.2.2 dX8_append_30
set_option maxHeartbeats 4000000 in
set_option maxRecDepth 100000 in
theorem c_M_appendX2 (l : Launch) (D : va_G) (mo : Nat) (ms : Nat) (sv : Int32) (mb : Nat) (ty : Nat) (th : Int32) (mk : Nat) (ml : Int32) (mfd : Nat) (mf : Int32) (sp : Int32) (on : Int32) (tw : Int32) (KC : ClassId) (bf : Nat → Int32) (cx : Int32) (hx1 : ¬ cx < 33) (hx2 : cx ≤ 126) (hty : ty ≤ 60) (h60 : 60 ≤ ty) (sz : Nat) : k_Mi (S := Unit) l D yX8_append cX8_append 2 (some .int) 1 0 0 22 [.ref mo, .int cx] [(mo, .inr (8, [.ref ms, .int sv, .ref mb, .int (nI ty), .int th, .ref mk, .int ml, .ref mfd, .int mf, .int sp, .int on, .int tw])), (mb, .inl (KC, 60, .inl bf))] [(KC, .char)] (fun (r : Int32) (_ : Unit) => r = (0)) (fun _ => [(mo, .inr (8, [.ref ms, .int sv, .ref mb, .int (nI ty), .int 2, .ref mk, .int ml, .ref mfd, .int mf, .int sp, .int on, .int tw])), (mb, .inl (KC, 60, .inl bf))]) (fun _ => []) sz := by
  refine Met.ofW (cc := cX8_append) (maxL := 2) (ret := (some .int)) (by decide) rfl ?_
  intro p e s m args below meth c s₁ B hml hv
  obtain ⟨rfl, hsz, hP, hK, hD0, hG⟩ := hv
  have hx := B.exec
  have hb := B.bytes
  have hr := B.returns
  have ht : ∀ v9 ∈ wsA, v9.before ([.ref mo, .int cx] : List Value).toArray s = true := fun v9 h9 => atoms_spec (ws := k_ws yX8_append cX8_append 2 (some .int)) B.pre v9 (List.mem_cons_of_mem _ h9)
  have hown : s.vm.findClass RX8 = some m.cls := findClass_of_methodNamed B.named
  have S0 : k_C p s m ([.ref mo, .int cx] : List Value).toArray c cX8_append 2 RX8 := ⟨hx, hb, hml, hown, ht⟩
  have hlocks := B.notSynchronized
  subst hsz
  have hD := hD0.self (sz := s.heap.size)
  generalize hAe : va_A [(mo, .inr (8, [.ref ms, .int sv, .ref mb, .int (nI ty), .int th, .ref mk, .int ml, .ref mfd, .int mf, .int sp, .int on, .int tw])), (mb, .inl (KC, 60, .inl bf))] s.heap.size = A at hD hG ⊢
  have hA : ∀ q : Nat, s.heap.size ≤ q → A q := fun q h => by rw [← hAe]; exact Or.inr h
  have hS : va_S A s.heap s.heap [] := va_S.rf
  have hl := lv_entry ([.ref mo, .int cx]) (n := 2) (Nat.le_of_ble_eq_true rfl)
  rw [lg_entry_eq]
  generalize (lg_sl ([.ref mo, .int cx]) ++ List.replicate (2 - (lg_sl ([.ref mo, .int cx])).length) Slot.unset).toArray = ls at hl ⊢
  have hl : lv_has ls 2 [(0, .ref mo), (1, .int cx)] := hl
  have hP : va_P D vwCl [(mo, .inr (8, [.ref ms, .int sv, .ref mb, .int (nI ty), .int th, .ref mk, .int ml, .ref mfd, .int mf, .int sp, .int on, .int tw])), (mb, .inl (KC, 60, .inl bf))] s.heap := hP
  refine lv_aload_n hx hb dX8_append_0 rfl (lv_at hl 0 rfl) ?_
  refine lv_iload_n hx hb dX8_append_1 rfl (lv_at hl 1 rfl) ?_
  refine lv_bipush (v := 33) hx hb dX8_append_2 (by decide) ?_
  refine lv_bipush (v := 126) hx hb dX8_append_4 (by decide) ?_
  have ct := k_cut_of (wc := []) (wr := [(mo, .inr (8, [.ref ms, .int sv, .ref mb, .int (nI ty), .int th, .ref mk, .int ml, .ref mfd, .int mf, .int sp, .int on, .int tw])), (mb, .inl (KC, 60, .inl bf))]) (tc := []) hG hS hA hK hP hD [] [0, 1] [] rfl rfl (by decide) (by decide) (by decide) rfl
  refine k_endi (As := [.int cx, .int 33, .int 126]) ct (k_runS (As := [.int cx, .int 33, .int 126]) (rest := [.ref mo]) S0 Ls_X8_46 ct (c_M_in1 l D cx 33 126 hx1 (Int32.not_lt.mpr hx2) s.heap.size) hl.1 rfl (Nat.le_of_ble_eq_true rfl) rfl dX8_append_6 ⟨⟨Nat.le_of_ble_eq_true rfl, Nat.le_of_ble_eq_true rfl⟩, Nat.le_of_ble_eq_true rfl, Nat.le_of_ble_eq_true rfl⟩) rfl rfl (fun r_1 _ H locs hw_2 hP hD hK hS => ?_)
  have hK : va_K D vwCl [(KC, .char)] s := hK
  have hP : va_P D vwCl [(mo, .inr (8, [.ref ms, .int sv, .ref mb, .int (nI ty), .int th, .ref mk, .int ml, .ref mfd, .int mf, .int sp, .int on, .int tw])), (mb, .inl (KC, 60, .inl bf))] H := hP
  have hD : va_D A [(mo, .inr (8, [.ref ms, .int sv, .ref mb, .int (nI ty), .int th, .ref mk, .int ml, .ref mfd, .int mf, .int sp, .int on, .int tw])), (mb, .inl (KC, 60, .inl bf))] := hD
  have hw_2 : r_1 = (1) := hw_2
  have hw_2 := hw_2.symm
  subst hw_2
  refine k_nrm (y := 1) rfl ?_
  refine lv_aload_n hx hb dX8_append_9 rfl (lv_at hl 0 rfl) ?_
  refine va_get (D := D) (ci := 8) (v := .int (nI ty)) (C := RX8) (T := TX8) (N := 12) hx hb ht inA_X8 hown hK hP 0 rfl rfl 3 (by decide) (ht _ lf_X8_147) (fun _ h9 => h9) rfl dX8_append_10 ?_
  refine lv_bipush (v := 60) hx hb dX8_append_13 (by decide) ?_
  refine lv_icmp_ge (tgt := 22) hx hb dX8_append_15 (by decide) (fun c_3 => ?_) (fun c9 => absurd (nI_le (a := 60) h60 (by omega)) c9)
  refine lv_iconst (v := 0) hx hb dX8_append_22 (by decide) ?_
  have ct := k_cut_of (wc := [(mo, .inr (8, [.ref ms, .int sv, .ref mb, .int (nI ty), .int th, .ref mk, .int ml, .ref mfd, .int mf, .int sp, .int on, .int tw]))]) (wr := [(mb, .inl (KC, 60, .inl bf))]) (tc := []) hG hS hA hK hP hD [0] [1] [] rfl rfl (by decide) (by decide) (by decide) rfl
  refine k_endi (As := [.ref mo, .int 1, .int 0]) ct (k_runV (As := [.int 1, .int 0]) (rest := []) S0 Lv_X8_58 rfl (ci := 8) (q0 := 0) rfl rfl ct (c_M_goes10 l D mo ms sv mb (nI ty) th mk ml mfd mf sp on tw H.size) hl.1 rfl (Nat.le_of_ble_eq_true rfl) rfl dX8_append_23 ⟨⟨Nat.le_of_ble_eq_true rfl, Nat.le_of_ble_eq_true rfl⟩, Nat.le_of_ble_eq_true rfl, Nat.le_of_ble_eq_true rfl⟩) rfl rfl (fun r_4 _ H locs hw_5 hP hD hK hS => ?_)
  have hK : va_K D vwCl [(KC, .char)] s := hK
  have hP : va_P D vwCl [(mb, .inl (KC, 60, .inl bf)), (mo, .inr (8, [.ref ms, .int sv, .ref mb, .int (nI ty), .int 2, .ref mk, .int ml, .ref mfd, .int mf, .int sp, .int on, .int tw]))] H := hP
  have hD : va_D A [(mb, .inl (KC, 60, .inl bf)), (mo, .inr (8, [.ref ms, .int sv, .ref mb, .int (nI ty), .int 2, .ref mk, .int ml, .ref mfd, .int mf, .int sp, .int on, .int tw]))] := hD
  have hw_5 : r_4 = (0) := hw_5
  have hw_5 := hw_5.symm
  subst hw_5
  refine k_nrm (y := 0) rfl ?_
  refine lv_if_ne (tgt := 31) hx hb dX8_append_26 (by decide) (fun c9 => absurd (by decide) c9) (fun _ => ?_)
  refine lv_iconst (v := 0) hx hb dX8_append_29 (by decide) ?_
  have hP9 : va_P D vwCl [(mo, .inr (8, [.ref ms, .int sv, .ref mb, .int (nI ty), .int 2, .ref mk, .int ml, .ref mfd, .int mf, .int sp, .int on, .int tw])), (mb, .inl (KC, 60, .inl bf))] H := hP.sub [1, 0] rfl
  have hD9 : va_D A [(mo, .inr (8, [.ref ms, .int sv, .ref mb, .int (nI ty), .int 2, .ref mk, .int ml, .ref mfd, .int mf, .int sp, .int on, .int tw])), (mb, .inl (KC, 60, .inl bf))] := hD.sub [1, 0] (by decide) rfl
  have hK9 : va_K D vwCl [] s := hK.sub [] rfl
  exact W.iret (v := 0) hx hb hr (fun t ht9 hW9 => ⟨⟨0, (), rfl, by first | rfl | trivial | (simp only [c_3, if_true, if_false, reduceIte, and_self]; done) | simp_all, ⟨by rw [ht9]; exact hP9, va_K.moved hW9.alike hK9, hD9⟩⟩, hS.F ht9⟩) hS.2.2 dX8_append_30
set_option maxHeartbeats 4000000 in
set_option maxRecDepth 100000 in
theorem c_M_clearBuffer (l : Launch) (D : va_G) (mo : Nat) (ms : Nat) (sv : Int32) (mb : Nat) (ty : Nat) (th : Int32) (mk : Nat) (ml : Int32) (mfd : Nat) (mf : Int32) (sp : Int32) (on : Int32) (tw : Int32) (sz : Nat) : k_Mi (S := Unit) l D yX8_clearBuffer cX8_clearBuffer 2 (some .int) 0 0 0 0 [.ref mo] [(mo, .inr (8, [.ref ms, .int sv, .ref mb, .int (nI ty), .int th, .ref mk, .int ml, .ref mfd, .int mf, .int sp, .int on, .int tw]))] [] (fun (r : Int32) (_ : Unit) => r = (nI ty)) (fun _ => [(mo, .inr (8, [.ref ms, .int sv, .ref mb, .int (nI 0), .int 0, .ref mk, .int ml, .ref mfd, .int mf, .int sp, .int on, .int tw]))]) (fun _ => []) sz := by
  refine Met.ofW (cc := cX8_clearBuffer) (maxL := 2) (ret := (some .int)) (by decide) rfl ?_
  intro p e s m args below meth c s₁ B hml hv
  obtain ⟨rfl, hsz, hP, hK, hD0, hG⟩ := hv
  have hx := B.exec
  have hb := B.bytes
  have hr := B.returns
  have ht : ∀ v9 ∈ wsA, v9.before ([.ref mo] : List Value).toArray s = true := fun v9 h9 => atoms_spec (ws := k_ws yX8_clearBuffer cX8_clearBuffer 2 (some .int)) B.pre v9 (List.mem_cons_of_mem _ h9)
  have hown : s.vm.findClass RX8 = some m.cls := findClass_of_methodNamed B.named
  have S0 : k_C p s m ([.ref mo] : List Value).toArray c cX8_clearBuffer 2 RX8 := ⟨hx, hb, hml, hown, ht⟩
  have hlocks := B.notSynchronized
  subst hsz
  have hD := hD0.self (sz := s.heap.size)
  generalize hAe : va_A [(mo, .inr (8, [.ref ms, .int sv, .ref mb, .int (nI ty), .int th, .ref mk, .int ml, .ref mfd, .int mf, .int sp, .int on, .int tw]))] s.heap.size = A at hD hG ⊢
  have hA : ∀ q : Nat, s.heap.size ≤ q → A q := fun q h => by rw [← hAe]; exact Or.inr h
  have hS : va_S A s.heap s.heap [] := va_S.rf
  have hl := lv_entry ([.ref mo]) (n := 2) (Nat.le_of_ble_eq_true rfl)
  rw [lg_entry_eq]
  generalize (lg_sl ([.ref mo]) ++ List.replicate (2 - (lg_sl ([.ref mo])).length) Slot.unset).toArray = ls at hl ⊢
  have hl : lv_has ls 2 [(0, .ref mo)] := hl
  have hP : va_P D vwCl [(mo, .inr (8, [.ref ms, .int sv, .ref mb, .int (nI ty), .int th, .ref mk, .int ml, .ref mfd, .int mf, .int sp, .int on, .int tw]))] s.heap := hP
  refine lv_aload_n hx hb dX8_clearBuffer_0 rfl (lv_at hl 0 rfl) ?_
  refine lv_iconst (v := 0) hx hb dX8_clearBuffer_1 (by decide) ?_
  refine va_put (D := D) (ci := 8) (v := .int 0) (ty := .int) (C := RX8) (T := TX8) (N := 12) hx hb ht inA_X8 tyX8 tyX8_ok nmX8 hown hK hP hD hS 0 rfl rfl 4 (by decide) (ht _ lf_X8_23) (fun _ h9 => h9) rfl (tyX8_ok 4 (by decide)) rfl rfl (Nat.le_of_ble_eq_true rfl) dX8_clearBuffer_2 (fun H locs hP hD hS => ?_)
  have hP : va_P D vwCl [(mo, .inr (8, [.ref ms, .int sv, .ref mb, .int (nI ty), .int 0, .ref mk, .int ml, .ref mfd, .int mf, .int sp, .int on, .int tw]))] H := hP
  have hD : va_D A [(mo, .inr (8, [.ref ms, .int sv, .ref mb, .int (nI ty), .int 0, .ref mk, .int ml, .ref mfd, .int mf, .int sp, .int on, .int tw]))] := hD
  refine lv_aload_n hx hb dX8_clearBuffer_5 rfl (lv_at hl 0 rfl) ?_
  refine va_get (D := D) (ci := 8) (v := .int (nI ty)) (C := RX8) (T := TX8) (N := 12) hx hb ht inA_X8 hown hK hP 0 rfl rfl 3 (by decide) (ht _ lf_X8_147) (fun _ h9 => h9) rfl dX8_clearBuffer_6 ?_
  refine lv_istore_n (lv' := [(1, .int (nI ty)), (0, .ref mo)]) hx hb dX8_clearBuffer_9 rfl hl (by decide) rfl (fun ls hl => ?_)
  refine lv_aload_n hx hb dX8_clearBuffer_10 rfl (lv_at hl 1 rfl) ?_
  refine lv_iconst (v := 0) hx hb dX8_clearBuffer_11 (by decide) ?_
  refine va_put (D := D) (ci := 8) (v := .int 0) (ty := .int) (C := RX8) (T := TX8) (N := 12) hx hb ht inA_X8 tyX8 tyX8_ok nmX8 hown hK hP hD hS 0 rfl rfl 3 (by decide) (ht _ lf_X8_147) (fun _ h9 => h9) rfl (tyX8_ok 3 (by decide)) rfl rfl (Nat.le_of_ble_eq_true rfl) dX8_clearBuffer_12 (fun H locs hP hD hS => ?_)
  have hP : va_P D vwCl [(mo, .inr (8, [.ref ms, .int sv, .ref mb, .int 0, .int 0, .ref mk, .int ml, .ref mfd, .int mf, .int sp, .int on, .int tw]))] H := hP
  have hD : va_D A [(mo, .inr (8, [.ref ms, .int sv, .ref mb, .int 0, .int 0, .ref mk, .int ml, .ref mfd, .int mf, .int sp, .int on, .int tw]))] := hD
  refine lv_iload_n hx hb dX8_clearBuffer_15 rfl (lv_at hl 0 rfl) ?_
  have hf_1 : (0 : Int32) = (nI 0) := by first | rfl | (simp only [if_true, if_false, reduceIte]; done)
  have hP : va_P D vwCl [(mo, .inr (8, [.ref ms, .int sv, .ref mb, .int (nI 0), .int 0, .ref mk, .int ml, .ref mfd, .int mf, .int sp, .int on, .int tw]))] H := (congrArg (fun z9 : Int32 => va_P D vwCl [(mo, .inr (8, [.ref ms, .int sv, .ref mb, .int z9, .int 0, .ref mk, .int ml, .ref mfd, .int mf, .int sp, .int on, .int tw]))] H) hf_1).mp hP
  have hD : va_D A [(mo, .inr (8, [.ref ms, .int sv, .ref mb, .int (nI 0), .int 0, .ref mk, .int ml, .ref mfd, .int mf, .int sp, .int on, .int tw]))] := (congrArg (fun z9 : Int32 => va_D A [(mo, .inr (8, [.ref ms, .int sv, .ref mb, .int z9, .int 0, .ref mk, .int ml, .ref mfd, .int mf, .int sp, .int on, .int tw]))]) hf_1).mp hD
  have hP9 : va_P D vwCl [(mo, .inr (8, [.ref ms, .int sv, .ref mb, .int (nI 0), .int 0, .ref mk, .int ml, .ref mfd, .int mf, .int sp, .int on, .int tw]))] H := hP.sub [0] rfl
  have hD9 : va_D A [(mo, .inr (8, [.ref ms, .int sv, .ref mb, .int (nI 0), .int 0, .ref mk, .int ml, .ref mfd, .int mf, .int sp, .int on, .int tw]))] := hD.sub [0] (by decide) rfl
  have hK9 : va_K D vwCl [] s := hK.sub [] rfl
  exact W.iret (v := (nI ty)) hx hb hr (fun t ht9 hW9 => ⟨⟨(nI ty), (), rfl, by first | rfl | trivial | (simp only [if_true, if_false, reduceIte, and_self]; done) | simp_all, ⟨by rw [ht9]; exact hP9, va_K.moved hW9.alike hK9, hD9⟩⟩, hS.F ht9⟩) hS.2.2 dX8_clearBuffer_16
