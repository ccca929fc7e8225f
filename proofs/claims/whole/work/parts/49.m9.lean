set_option maxRecDepth 20000 in
theorem lk_X8_looksAtMeasurement : Cond.code yX8_looksAtMeasurement cX8_looksAtMeasurement 2 none ∈ wsA := mA 918 rfl rfl
theorem ly_X8_looksAtMeasurement : k_y yX8_looksAtMeasurement 0 := ⟨by decide +kernel, by decide +kernel, by decide +kernel⟩
set_option maxRecDepth 20000 in
theorem lm_X8_looksAtMeasurement : Cond.instanceMethod yX8_looksAtMeasurement ∈ wsA := mA 917 rfl rfl
theorem le_X8_looksAtMeasurement : Cond.selects (yX8_looksAtMeasurement).cls yX8_looksAtMeasurement yX8_looksAtMeasurement ∈ wsA := mS 32 rfl rfl
set_option maxRecDepth 20000 in
theorem Lv_X8_119 : k_LV RX8 119 yX8_looksAtMeasurement cX8_looksAtMeasurement 2 none 0 := ⟨mA 915 rfl rfl, lm_X8_looksAtMeasurement, le_X8_looksAtMeasurement, li_BarcodeWandModel, lk_X8_looksAtMeasurement, ly_X8_looksAtMeasurement⟩
set_option maxRecDepth 20000 in
theorem lk_X8_reads : Cond.code yX8_reads cX8_reads 4 (some .int) ∈ wsA := mA 922 rfl rfl
theorem ly_X8_reads : k_y yX8_reads 1 := ⟨by decide +kernel, by decide +kernel, by decide +kernel⟩
set_option maxRecDepth 20000 in
theorem lm_X8_reads : Cond.instanceMethod yX8_reads ∈ wsA := mA 921 rfl rfl
theorem le_X8_reads : Cond.selects (yX8_reads).cls yX8_reads yX8_reads ∈ wsA := mS 33 rfl rfl
set_option maxRecDepth 20000 in
theorem Lv_X8_122 : k_LV RX8 122 yX8_reads cX8_reads 4 (some .int) 1 := ⟨mA 919 rfl rfl, lm_X8_reads, le_X8_reads, li_BarcodeWandModel, lk_X8_reads, ly_X8_reads⟩
set_option maxRecDepth 20000 in
theorem lk_X8_notes : Cond.code yX8_notes cX8_notes 2 none ∈ wsA := mA 961 rfl rfl
theorem ly_X8_notes : k_y yX8_notes 0 := ⟨by decide +kernel, by decide +kernel, by decide +kernel⟩
set_option maxRecDepth 20000 in
theorem lm_X8_notes : Cond.instanceMethod yX8_notes ∈ wsA := mA 960 rfl rfl
theorem le_X8_notes : Cond.selects (yX8_notes).cls yX8_notes yX8_notes ∈ wsA := mS 42 rfl rfl
set_option maxRecDepth 20000 in
theorem Lv_X8_125 : k_LV RX8 125 yX8_notes cX8_notes 2 none 0 := ⟨mA 958 rfl rfl, lm_X8_notes, le_X8_notes, li_BarcodeWandModel, lk_X8_notes, ly_X8_notes⟩
theorem dX8_readsAndCounts_0 : decode cX8_readsAndCounts 0 = .ok (.aload_n 0, 1) := by decide +kernel
theorem dX8_readsAndCounts_1 : decode cX8_readsAndCounts 1 = .ok (.invokevirtual 119, 3) := by decide +kernel
theorem dX8_readsAndCounts_4 : decode cX8_readsAndCounts 4 = .ok (.aload_n 0, 1) := by decide +kernel
theorem dX8_readsAndCounts_5 : decode cX8_readsAndCounts 5 = .ok (.aload_n 0, 1) := by decide +kernel
theorem dX8_readsAndCounts_6 : decode cX8_readsAndCounts 6 = .ok (.getfield 7, 3) := by decide +kernel
theorem dX8_readsAndCounts_9 : decode cX8_readsAndCounts 9 = .ok (.bipush 93, 2) := by decide +kernel
theorem dX8_readsAndCounts_11 : decode cX8_readsAndCounts 11 = .ok (.iaload, 1) := by decide +kernel
theorem dX8_readsAndCounts_12 : decode cX8_readsAndCounts 12 = .ok (.invokevirtual 122, 3) := by decide +kernel
theorem dX8_readsAndCounts_15 : decode cX8_readsAndCounts 15 = .ok (.istore_n 1, 1) := by decide +kernel
theorem dX8_readsAndCounts_16 : decode cX8_readsAndCounts 16 = .ok (.iload_n 1, 1) := by decide +kernel
theorem dX8_readsAndCounts_17 : decode cX8_readsAndCounts 17 = .ok (.ifCond .le 17, 3) := by decide +kernel
theorem dX8_readsAndCounts_20 : decode cX8_readsAndCounts 20 = .ok (.aload_n 0, 1) := by decide +kernel
theorem dX8_readsAndCounts_21 : decode cX8_readsAndCounts 21 = .ok (.getfield 7, 3) := by decide +kernel
theorem dX8_readsAndCounts_24 : decode cX8_readsAndCounts 24 = .ok (.bipush 126, 2) := by decide +kernel
theorem dX8_readsAndCounts_26 : decode cX8_readsAndCounts 26 = .ok (.dup2, 1) := by decide +kernel
theorem dX8_readsAndCounts_27 : decode cX8_readsAndCounts 27 = .ok (.iaload, 1) := by decide +kernel
theorem dX8_readsAndCounts_28 : decode cX8_readsAndCounts 28 = .ok (.iconst 1, 1) := by decide +kernel
theorem dX8_readsAndCounts_29 : decode cX8_readsAndCounts 29 = .ok (.iadd, 1) := by decide +kernel
theorem dX8_readsAndCounts_30 : decode cX8_readsAndCounts 30 = .ok (.iastore, 1) := by decide +kernel
theorem dX8_readsAndCounts_31 : decode cX8_readsAndCounts 31 = .ok (.goto 18, 3) := by decide +kernel
theorem dX8_readsAndCounts_34 : decode cX8_readsAndCounts 34 = .ok (.aload_n 0, 1) := by decide +kernel
theorem dX8_readsAndCounts_35 : decode cX8_readsAndCounts 35 = .ok (.getfield 7, 3) := by decide +kernel
theorem dX8_readsAndCounts_38 : decode cX8_readsAndCounts 38 = .ok (.bipush 125, 2) := by decide +kernel
theorem dX8_readsAndCounts_40 : decode cX8_readsAndCounts 40 = .ok (.dup2, 1) := by decide +kernel
theorem dX8_readsAndCounts_41 : decode cX8_readsAndCounts 41 = .ok (.iaload, 1) := by decide +kernel
theorem dX8_readsAndCounts_42 : decode cX8_readsAndCounts 42 = .ok (.iconst 1, 1) := by decide +kernel
theorem dX8_readsAndCounts_43 : decode cX8_readsAndCounts 43 = .ok (.iadd, 1) := by decide +kernel
theorem dX8_readsAndCounts_44 : decode cX8_readsAndCounts 44 = .ok (.iastore, 1) := by decide +kernel
theorem dX8_readsAndCounts_45 : decode cX8_readsAndCounts 45 = .ok (.aload_n 0, 1) := by decide +kernel
theorem dX8_readsAndCounts_46 : decode cX8_readsAndCounts 46 = .ok (.invokevirtual 125, 3) := by decide +kernel
theorem dX8_readsAndCounts_49 : decode cX8_readsAndCounts 49 = .ok (.iload_n 1, 1) := by decide +kernel
theorem dX8_readsAndCounts_50 : decode cX8_readsAndCounts 50 = .ok (.ireturn, 1) := by decide +kernel
theorem res_le {n : Nat} {f : Nat → Int32} {to r : Int32} (h : r = resF n f to) (hr : r ≤ 0) : r = 0 ∨ r = (-1) := by
  rw [h] at hr ⊢
  rcases res_sg n f to with w | w
  · exact w.2.2
  · exact absurd w.1 (Int32.not_lt.mpr hr)
set_option maxHeartbeats 4000000 in
set_option maxRecDepth 100000 in
theorem c_M_readCount (l : Launch) (D : va_G) (mo : Nat) (ms : Nat) (sv : Int32) (mb : Nat) (ty : Int32) (th : Int32) (mk : Nat) (ml : Int32) (mfd : Nat) (mf : Int32) (sp : Int32) (on : Int32) (tw : Int32) (K : ClassId) (sf : Nat → Int32) (lk : Nat → Int32) (fd : Nat → Int32) (x : ST) (x1 : ST) (r0 : Int32) (hR : RS x sf) (hbx : bST x) (hrc : RC x x1 r0) (sz : Nat) : k_Mi (S := Int32 × Int32 × (Nat → Int32) × (Nat → Int32) × (Nat → Int32)) l D yX8_readsAndCounts cX8_readsAndCounts 2 (some .int) 7 0 0 169 [.ref mo] [(mo, .inr (8, [.ref ms, .int sv, .ref mb, .int ty, .int th, .ref mk, .int ml, .ref mfd, .int mf, .int sp, .int on, .int tw])), (ms, .inl (K, 889, .inl sf)), (mk, .inl (K, 41, .inl lk)), (mfd, .inl (K, 9, .inl fd))] [(K, .int)] (fun (r : Int32) (u : Int32 × Int32 × (Nat → Int32) × (Nat → Int32) × (Nat → Int32)) => match u with | (ml1, mf1, sg, lk1, fd1) => r = r0 ∧ RS x1 sg ∧ hiEq sg sf) (fun u => match u with | (ml1, mf1, sg, lk1, fd1) => [(mo, .inr (8, [.ref ms, .int sv, .ref mb, .int ty, .int th, .ref mk, .int ml1, .ref mfd, .int mf1, .int sp, .int on, .int tw])), (ms, .inl (K, 889, .inl sg)), (mk, .inl (K, 41, .inl lk1)), (mfd, .inl (K, 9, .inl fd1))]) (fun u => match u with | (ml1, mf1, sg, lk1, fd1) => []) sz := by
  refine Met.ofW (cc := cX8_readsAndCounts) (maxL := 2) (ret := (some .int)) (by decide) rfl ?_
  intro p e s m args below meth c s₁ B hml hv
  obtain ⟨rfl, hsz, hP, hK, hD0, hG⟩ := hv
  have hx := B.exec
  have hb := B.bytes
  have hr := B.returns
  have ht : ∀ v9 ∈ wsA, v9.before ([.ref mo] : List Value).toArray s = true := fun v9 h9 => atoms_spec (ws := k_ws yX8_readsAndCounts cX8_readsAndCounts 2 (some .int)) B.pre v9 (List.mem_cons_of_mem _ h9)
  have hown : s.vm.findClass RX8 = some m.cls := findClass_of_methodNamed B.named
  have S0 : k_C p s m ([.ref mo] : List Value).toArray c cX8_readsAndCounts 2 RX8 := ⟨hx, hb, hml, hown, ht⟩
  have hlocks := B.notSynchronized
  subst hsz
  have hD := hD0.self (sz := s.heap.size)
  generalize hAe : va_A [(mo, .inr (8, [.ref ms, .int sv, .ref mb, .int ty, .int th, .ref mk, .int ml, .ref mfd, .int mf, .int sp, .int on, .int tw])), (ms, .inl (K, 889, .inl sf)), (mk, .inl (K, 41, .inl lk)), (mfd, .inl (K, 9, .inl fd))] s.heap.size = A at hD hG ⊢
  have hA : ∀ q : Nat, s.heap.size ≤ q → A q := fun q h => by rw [← hAe]; exact Or.inr h
  have hS : va_S A s.heap s.heap [] := va_S.rf
  have hl := lv_entry ([.ref mo]) (n := 2) (Nat.le_of_ble_eq_true rfl)
  rw [lg_entry_eq]
  generalize (lg_sl ([.ref mo]) ++ List.replicate (2 - (lg_sl ([.ref mo])).length) Slot.unset).toArray = ls at hl ⊢
  have hl : lv_has ls 2 [(0, .ref mo)] := hl
  have hP : va_P D vwCl [(mo, .inr (8, [.ref ms, .int sv, .ref mb, .int ty, .int th, .ref mk, .int ml, .ref mfd, .int mf, .int sp, .int on, .int tw])), (ms, .inl (K, 889, .inl sf)), (mk, .inl (K, 41, .inl lk)), (mfd, .inl (K, 9, .inl fd))] s.heap := hP
  have hR9 := hR
  obtain ⟨q0, q1, q2, h51, q4, h93, ⟨h94, q7⟩, h125, h126⟩ := hR
  obtain ⟨b1, b2, b3, b4⟩ := bST_le hbx
  have hcf : ∀ j9, j9 < s_tn x → (cpy (fun j9 => sf (52 + j9)) lk (s_tn x)) j9 = s_tf x j9 := fun j9 h9 => (cpy_lt h9).trans (q4 j9 h9)
  refine lv_aload_n hx hb dX8_readsAndCounts_0 rfl (lv_at hl 0 rfl) ?_
  have ct := k_cut_of (wc := [(mo, .inr (8, [.ref ms, .int sv, .ref mb, .int ty, .int th, .ref mk, .int ml, .ref mfd, .int mf, .int sp, .int on, .int tw])), (ms, .inl (K, 889, .inl sf)), (mk, .inl (K, 41, .inl lk))]) (wr := [(mfd, .inl (K, 9, .inl fd))]) (tc := [(K, .int)]) hG hS hA hK hP hD [0, 1, 2] [3] [0] rfl rfl (by decide) (by decide) (by decide) rfl
  refine k_endv (As := [.ref mo]) ct (k_runV (As := []) (rest := []) S0 Lv_X8_119 rfl (ci := 8) (q0 := 0) rfl rfl ct (c_M_looksM l D mo ms sv mb ty th mk ml mfd mf sp on tw K sf lk (s_tn x) (by assumption) (by first | assumption | omega) s.heap.size) hl.1 rfl (Nat.le_of_ble_eq_true rfl) rfl dX8_readsAndCounts_1 ⟨⟨Nat.le_of_ble_eq_true rfl, Nat.le_of_ble_eq_true rfl⟩, Nat.le_of_ble_eq_true rfl, Nat.le_of_ble_eq_true rfl⟩) rfl rfl (fun _ _ H locs hw_2 hP hD hK hS => ?_)
  have hK : va_K D vwCl [(K, .int)] s := hK
  have hP : va_P D vwCl [(mfd, .inl (K, 9, .inl fd)), (mo, .inr (8, [.ref ms, .int sv, .ref mb, .int ty, .int th, .ref mk, .int (nI (s_tn x)), .ref mfd, .int mf, .int sp, .int on, .int tw])), (ms, .inl (K, 889, .inl sf)), (mk, .inl (K, 41, .inl (cpy (fun j9 => sf (52 + j9)) lk (s_tn x))))] H := hP
  have hD : va_D A [(mfd, .inl (K, 9, .inl fd)), (mo, .inr (8, [.ref ms, .int sv, .ref mb, .int ty, .int th, .ref mk, .int (nI (s_tn x)), .ref mfd, .int mf, .int sp, .int on, .int tw])), (ms, .inl (K, 889, .inl sf)), (mk, .inl (K, 41, .inl (cpy (fun j9 => sf (52 + j9)) lk (s_tn x))))] := hD
  refine lv_aload_n hx hb dX8_readsAndCounts_4 rfl (lv_at hl 0 rfl) ?_
  refine lv_aload_n hx hb dX8_readsAndCounts_5 rfl (lv_at hl 0 rfl) ?_
  refine va_get (D := D) (ci := 8) (v := .ref ms) (C := RX8) (T := TX8) (N := 12) hx hb ht inA_X8 hown hK hP 1 rfl rfl 0 (by decide) (ht _ lf_X8_7) (fun _ h9 => h9) rfl dX8_readsAndCounts_6 ?_
  refine lv_bipush (v := 93) hx hb dX8_readsAndCounts_9 (by decide) ?_
  refine va_iald hx hb hK hP 2 0 rfl rfl (by unfold vp_in; decide) dX8_readsAndCounts_11 ?_
  refine k_nrm (y := (s_tol x)) (show sf (93 : Int32).toNatClampNeg = (s_tol x) from h93) ?_
  have ct := k_cut_of (wc := [(mo, .inr (8, [.ref ms, .int sv, .ref mb, .int ty, .int th, .ref mk, .int (nI (s_tn x)), .ref mfd, .int mf, .int sp, .int on, .int tw])), (mk, .inl (K, 41, .inl (cpy (fun j9 => sf (52 + j9)) lk (s_tn x)))), (mfd, .inl (K, 9, .inl fd))]) (wr := [(ms, .inl (K, 889, .inl sf))]) (tc := [(K, .int)]) hG hS hA hK hP hD [1, 3, 0] [2] [0] rfl rfl (by decide) (by decide) (by decide) rfl
  refine k_endi (As := [.ref mo, .int (s_tol x)]) ct (k_runV (As := [.int (s_tol x)]) (rest := []) S0 Lv_X8_122 rfl (ci := 8) (q0 := 0) rfl rfl ct (c_M_reads l D mo ms sv mb ty th mk (s_tn x) mfd mf sp on tw K (cpy (fun j9 => sf (52 + j9)) lk (s_tn x)) fd (s_tol x) (by first | assumption | omega) H.size) hl.1 rfl (Nat.le_of_ble_eq_true rfl) rfl dX8_readsAndCounts_12 ⟨⟨Nat.le_of_ble_eq_true rfl, Nat.le_of_ble_eq_true rfl⟩, Nat.le_of_ble_eq_true rfl, Nat.le_of_ble_eq_true rfl⟩) rfl rfl (fun r_3 u H locs hw_6 hP hD hK hS => ?_)
  obtain ⟨mf1v_4, fd1v_5⟩ := u
  have hK : va_K D vwCl [(K, .int)] s := hK
  have hP : va_P D vwCl [(ms, .inl (K, 889, .inl sf)), (mo, .inr (8, [.ref ms, .int sv, .ref mb, .int ty, .int th, .ref mk, .int (nI (s_tn x)), .ref mfd, .int mf1v_4, .int sp, .int on, .int tw])), (mk, .inl (K, 41, .inl (cpy (fun j9 => sf (52 + j9)) lk (s_tn x)))), (mfd, .inl (K, 9, .inl fd1v_5))] H := hP
  have hD : va_D A [(ms, .inl (K, 889, .inl sf)), (mo, .inr (8, [.ref ms, .int sv, .ref mb, .int ty, .int th, .ref mk, .int (nI (s_tn x)), .ref mfd, .int mf1v_4, .int sp, .int on, .int tw])), (mk, .inl (K, 41, .inl (cpy (fun j9 => sf (52 + j9)) lk (s_tn x)))), (mfd, .inl (K, 9, .inl fd1v_5))] := hD
  have hw_6 : r_3 = resF (s_tn x) (cpy (fun j9 => sf (52 + j9)) lk (s_tn x)) (s_tol x) ∧ RFD (s_tn x) (cpy (fun j9 => sf (52 + j9)) lk (s_tn x)) r_3 mf1v_4 fd1v_5 := hw_6
  have hr0 : r0 = r_3 := (hw_6.1.trans ((resF_congr hcf b3 _).trans (RC_of hrc).1.symm)).symm
  subst hr0
  refine lv_istore_n (lv' := [(1, .int r0), (0, .ref mo)]) hx hb dX8_readsAndCounts_15 rfl hl (by decide) rfl (fun ls hl => ?_)
  refine lv_iload_n hx hb dX8_readsAndCounts_16 rfl (lv_at hl 0 rfl) ?_
  refine lv_if_le (tgt := 34) hx hb dX8_readsAndCounts_17 (by decide) (fun c_7 => ?_) (fun c_7 => ?_)
  · have hc9 := c_7
    refine lv_aload_n hx hb dX8_readsAndCounts_34 rfl (lv_at hl 1 rfl) ?_
    refine va_get (D := D) (ci := 8) (v := .ref ms) (C := RX8) (T := TX8) (N := 12) hx hb ht inA_X8 hown hK hP 1 rfl rfl 0 (by decide) (ht _ lf_X8_7) (fun _ h9 => h9) rfl dX8_readsAndCounts_35 ?_
    refine lv_bipush (v := 125) hx hb dX8_readsAndCounts_38 (by decide) ?_
    refine lv_dup2_11 hx hb dX8_readsAndCounts_40 rfl rfl ?_
    refine va_iald hx hb hK hP 0 0 rfl rfl (by unfold vp_in; decide) dX8_readsAndCounts_41 ?_
    refine k_nrm (y := (s_suc x)) (show sf (125 : Int32).toNatClampNeg = (s_suc x) from h125) ?_
    refine lv_iconst (v := 1) hx hb dX8_readsAndCounts_42 (by decide) ?_
    refine lv_iadd hx hb dX8_readsAndCounts_43 ?_
    refine k_nrm (y := (s_suc x + 1)) (rfl) ?_
    refine va_iast hx hb hK hP hD hS 0 0 rfl rfl (by unfold vp_in; decide) dX8_readsAndCounts_44 (fun H locs hP hD hS => ?_)
    have hP : va_P D vwCl [(ms, .inl (K, 889, .inl (upd sf ((125 : Int32).toNatClampNeg) (s_suc x + 1)))), (mo, .inr (8, [.ref ms, .int sv, .ref mb, .int ty, .int th, .ref mk, .int (nI (s_tn x)), .ref mfd, .int mf1v_4, .int sp, .int on, .int tw])), (mk, .inl (K, 41, .inl (cpy (fun j9 => sf (52 + j9)) lk (s_tn x)))), (mfd, .inl (K, 9, .inl fd1v_5))] H := hP
    have hD : va_D A [(ms, .inl (K, 889, .inl (upd sf ((125 : Int32).toNatClampNeg) (s_suc x + 1)))), (mo, .inr (8, [.ref ms, .int sv, .ref mb, .int ty, .int th, .ref mk, .int (nI (s_tn x)), .ref mfd, .int mf1v_4, .int sp, .int on, .int tw])), (mk, .inl (K, 41, .inl (cpy (fun j9 => sf (52 + j9)) lk (s_tn x)))), (mfd, .inl (K, 9, .inl fd1v_5))] := hD
    have hf9 : upd sf ((125 : Int32).toNatClampNeg) (s_suc x + 1) = (upd sf 125 (s_suc x + 1)) := rfl
    rw [hf9] at hP hD
    have hP : va_P D vwCl [(ms, .inl (K, 889, .inl (upd sf 125 (s_suc x + 1)))), (mo, .inr (8, [.ref ms, .int sv, .ref mb, .int ty, .int th, .ref mk, .int (nI (s_tn x)), .ref mfd, .int mf1v_4, .int sp, .int on, .int tw])), (mk, .inl (K, 41, .inl (cpy (fun j9 => sf (52 + j9)) lk (s_tn x)))), (mfd, .inl (K, 9, .inl fd1v_5))] H := hP
    have hD : va_D A [(ms, .inl (K, 889, .inl (upd sf 125 (s_suc x + 1)))), (mo, .inr (8, [.ref ms, .int sv, .ref mb, .int ty, .int th, .ref mk, .int (nI (s_tn x)), .ref mfd, .int mf1v_4, .int sp, .int on, .int tw])), (mk, .inl (K, 41, .inl (cpy (fun j9 => sf (52 + j9)) lk (s_tn x)))), (mfd, .inl (K, 9, .inl fd1v_5))] := hD
    obtain ⟨hmf, hdg, hfd⟩ := hw_6.2 (res_le (RC_of hrc).1 c_7)
    have hg9 := dgc_le b3
    have hf_8 : (mf1v_4 : Int32) = (nI (dgc (s_tn x))) := hmf
    have hP : va_P D vwCl [(ms, .inl (K, 889, .inl (upd sf 125 (s_suc x + 1)))), (mo, .inr (8, [.ref ms, .int sv, .ref mb, .int ty, .int th, .ref mk, .int (nI (s_tn x)), .ref mfd, .int (nI (dgc (s_tn x))), .int sp, .int on, .int tw])), (mk, .inl (K, 41, .inl (cpy (fun j9 => sf (52 + j9)) lk (s_tn x)))), (mfd, .inl (K, 9, .inl fd1v_5))] H := (congrArg (fun z9 : Int32 => va_P D vwCl [(ms, .inl (K, 889, .inl (upd sf 125 (s_suc x + 1)))), (mo, .inr (8, [.ref ms, .int sv, .ref mb, .int ty, .int th, .ref mk, .int (nI (s_tn x)), .ref mfd, .int z9, .int sp, .int on, .int tw])), (mk, .inl (K, 41, .inl (cpy (fun j9 => sf (52 + j9)) lk (s_tn x)))), (mfd, .inl (K, 9, .inl fd1v_5))] H) hf_8).mp hP
    have hD : va_D A [(ms, .inl (K, 889, .inl (upd sf 125 (s_suc x + 1)))), (mo, .inr (8, [.ref ms, .int sv, .ref mb, .int ty, .int th, .ref mk, .int (nI (s_tn x)), .ref mfd, .int (nI (dgc (s_tn x))), .int sp, .int on, .int tw])), (mk, .inl (K, 41, .inl (cpy (fun j9 => sf (52 + j9)) lk (s_tn x)))), (mfd, .inl (K, 9, .inl fd1v_5))] := (congrArg (fun z9 : Int32 => va_D A [(ms, .inl (K, 889, .inl (upd sf 125 (s_suc x + 1)))), (mo, .inr (8, [.ref ms, .int sv, .ref mb, .int ty, .int th, .ref mk, .int (nI (s_tn x)), .ref mfd, .int z9, .int sp, .int on, .int tw])), (mk, .inl (K, 41, .inl (cpy (fun j9 => sf (52 + j9)) lk (s_tn x)))), (mfd, .inl (K, 9, .inl fd1v_5))]) hf_8).mp hD
    refine lv_aload_n hx hb dX8_readsAndCounts_45 rfl (lv_at hl 1 rfl) ?_
    have ct := k_cut_of (wc := [(mo, .inr (8, [.ref ms, .int sv, .ref mb, .int ty, .int th, .ref mk, .int (nI (s_tn x)), .ref mfd, .int (nI (dgc (s_tn x))), .int sp, .int on, .int tw])), (ms, .inl (K, 889, .inl (upd sf 125 (s_suc x + 1)))), (mfd, .inl (K, 9, .inl fd1v_5))]) (wr := [(mk, .inl (K, 41, .inl (cpy (fun j9 => sf (52 + j9)) lk (s_tn x))))]) (tc := [(K, .int)]) hG hS hA hK hP hD [1, 0, 3] [2] [0] rfl rfl (by decide) (by decide) (by decide) rfl
    refine k_endv (As := [.ref mo]) ct (k_runV (As := []) (rest := []) S0 Lv_X8_125 rfl (ci := 8) (q0 := 0) rfl rfl ct (c_M_notes l D mo ms sv mb ty th mk (nI (s_tn x)) mfd (dgc (s_tn x)) sp on tw K (upd sf 125 (s_suc x + 1)) fd1v_5 (s_k x) ((pk_un (by decide)).trans h94) (by first | assumption | omega) (by first | assumption | omega) H.size) hl.1 rfl (Nat.le_of_ble_eq_true rfl) rfl dX8_readsAndCounts_46 ⟨⟨Nat.le_of_ble_eq_true rfl, Nat.le_of_ble_eq_true rfl⟩, Nat.le_of_ble_eq_true rfl, Nat.le_of_ble_eq_true rfl⟩) rfl rfl (fun _ sg_10 H locs hw_11 hP hD hK hS => ?_)
    have hK : va_K D vwCl [(K, .int)] s := hK
    have hP : va_P D vwCl [(mk, .inl (K, 41, .inl (cpy (fun j9 => sf (52 + j9)) lk (s_tn x)))), (mo, .inr (8, [.ref ms, .int sv, .ref mb, .int ty, .int th, .ref mk, .int (nI (s_tn x)), .ref mfd, .int (nI (dgc (s_tn x))), .int sp, .int on, .int tw])), (ms, .inl (K, 889, .inl sg_10)), (mfd, .inl (K, 9, .inl fd1v_5))] H := hP
    have hD : va_D A [(mk, .inl (K, 41, .inl (cpy (fun j9 => sf (52 + j9)) lk (s_tn x)))), (mo, .inr (8, [.ref ms, .int sv, .ref mb, .int ty, .int th, .ref mk, .int (nI (s_tn x)), .ref mfd, .int (nI (dgc (s_tn x))), .int sp, .int on, .int tw])), (ms, .inl (K, 889, .inl sg_10)), (mfd, .inl (K, 9, .inl fd1v_5))] := hD
    have hw_11 : NT (upd sf 125 (s_suc x + 1)) sg_10 (s_k x) (numF fd1v_5 (dgc (s_tn x))) (nI (dgc (s_tn x))) := hw_11
    refine lv_iload_n hx hb dX8_readsAndCounts_49 rfl (lv_at hl 0 rfl) ?_
    have hP9 : va_P D vwCl [(mo, .inr (8, [.ref ms, .int sv, .ref mb, .int ty, .int th, .ref mk, .int (nI (s_tn x)), .ref mfd, .int (nI (dgc (s_tn x))), .int sp, .int on, .int tw])), (ms, .inl (K, 889, .inl sg_10)), (mk, .inl (K, 41, .inl (cpy (fun j9 => sf (52 + j9)) lk (s_tn x)))), (mfd, .inl (K, 9, .inl fd1v_5))] H := hP.sub [1, 2, 0, 3] rfl
    have hD9 : va_D A [(mo, .inr (8, [.ref ms, .int sv, .ref mb, .int ty, .int th, .ref mk, .int (nI (s_tn x)), .ref mfd, .int (nI (dgc (s_tn x))), .int sp, .int on, .int tw])), (ms, .inl (K, 889, .inl sg_10)), (mk, .inl (K, 41, .inl (cpy (fun j9 => sf (52 + j9)) lk (s_tn x)))), (mfd, .inl (K, 9, .inl fd1v_5))] := hD.sub [1, 2, 0, 3] (by decide) rfl
    have hK9 : va_K D vwCl [] s := hK.sub [] rfl
    exact W.iret (v := r0) hx hb hr (fun t ht9 hW9 => ⟨⟨r0, ((nI (s_tn x)), (nI (dgc (s_tn x))), sg_10, (cpy (fun j9 => sf (52 + j9)) lk (s_tn x)), fd1v_5), rfl, by (exact ⟨rfl, RS_note hR9 hbx hrc c_7 (rl_num hcf b3 hfd) rfl hw_11⟩), ⟨by rw [ht9]; exact hP9, va_K.moved hW9.alike hK9, hD9⟩⟩, hS.F ht9⟩) hS.2.2 dX8_readsAndCounts_50
  · have hc9 := c_7
    refine lv_aload_n hx hb dX8_readsAndCounts_20 rfl (lv_at hl 1 rfl) ?_
    refine va_get (D := D) (ci := 8) (v := .ref ms) (C := RX8) (T := TX8) (N := 12) hx hb ht inA_X8 hown hK hP 1 rfl rfl 0 (by decide) (ht _ lf_X8_7) (fun _ h9 => h9) rfl dX8_readsAndCounts_21 ?_
    refine lv_bipush (v := 126) hx hb dX8_readsAndCounts_24 (by decide) ?_
    refine lv_dup2_11 hx hb dX8_readsAndCounts_26 rfl rfl ?_
    refine va_iald hx hb hK hP 0 0 rfl rfl (by unfold vp_in; decide) dX8_readsAndCounts_27 ?_
    refine k_nrm (y := (s_fai x)) (show sf (126 : Int32).toNatClampNeg = (s_fai x) from h126) ?_
    refine lv_iconst (v := 1) hx hb dX8_readsAndCounts_28 (by decide) ?_
    refine lv_iadd hx hb dX8_readsAndCounts_29 ?_
    refine k_nrm (y := (s_fai x + 1)) (rfl) ?_
    refine va_iast hx hb hK hP hD hS 0 0 rfl rfl (by unfold vp_in; decide) dX8_readsAndCounts_30 (fun H locs hP hD hS => ?_)
    have hP : va_P D vwCl [(ms, .inl (K, 889, .inl (upd sf ((126 : Int32).toNatClampNeg) (s_fai x + 1)))), (mo, .inr (8, [.ref ms, .int sv, .ref mb, .int ty, .int th, .ref mk, .int (nI (s_tn x)), .ref mfd, .int mf1v_4, .int sp, .int on, .int tw])), (mk, .inl (K, 41, .inl (cpy (fun j9 => sf (52 + j9)) lk (s_tn x)))), (mfd, .inl (K, 9, .inl fd1v_5))] H := hP
    have hD : va_D A [(ms, .inl (K, 889, .inl (upd sf ((126 : Int32).toNatClampNeg) (s_fai x + 1)))), (mo, .inr (8, [.ref ms, .int sv, .ref mb, .int ty, .int th, .ref mk, .int (nI (s_tn x)), .ref mfd, .int mf1v_4, .int sp, .int on, .int tw])), (mk, .inl (K, 41, .inl (cpy (fun j9 => sf (52 + j9)) lk (s_tn x)))), (mfd, .inl (K, 9, .inl fd1v_5))] := hD
    have hf9 : upd sf ((126 : Int32).toNatClampNeg) (s_fai x + 1) = (upd sf 126 (s_fai x + 1)) := rfl
    rw [hf9] at hP hD
    have hP : va_P D vwCl [(ms, .inl (K, 889, .inl (upd sf 126 (s_fai x + 1)))), (mo, .inr (8, [.ref ms, .int sv, .ref mb, .int ty, .int th, .ref mk, .int (nI (s_tn x)), .ref mfd, .int mf1v_4, .int sp, .int on, .int tw])), (mk, .inl (K, 41, .inl (cpy (fun j9 => sf (52 + j9)) lk (s_tn x)))), (mfd, .inl (K, 9, .inl fd1v_5))] H := hP
    have hD : va_D A [(ms, .inl (K, 889, .inl (upd sf 126 (s_fai x + 1)))), (mo, .inr (8, [.ref ms, .int sv, .ref mb, .int ty, .int th, .ref mk, .int (nI (s_tn x)), .ref mfd, .int mf1v_4, .int sp, .int on, .int tw])), (mk, .inl (K, 41, .inl (cpy (fun j9 => sf (52 + j9)) lk (s_tn x)))), (mfd, .inl (K, 9, .inl fd1v_5))] := hD
    refine lv_goto (tgt := 49) hx hb dX8_readsAndCounts_31 (by decide) ?_
    refine lv_iload_n hx hb dX8_readsAndCounts_49 rfl (lv_at hl 0 rfl) ?_
    have hP9 : va_P D vwCl [(mo, .inr (8, [.ref ms, .int sv, .ref mb, .int ty, .int th, .ref mk, .int (nI (s_tn x)), .ref mfd, .int mf1v_4, .int sp, .int on, .int tw])), (ms, .inl (K, 889, .inl (upd sf 126 (s_fai x + 1)))), (mk, .inl (K, 41, .inl (cpy (fun j9 => sf (52 + j9)) lk (s_tn x)))), (mfd, .inl (K, 9, .inl fd1v_5))] H := hP.sub [1, 0, 2, 3] rfl
    have hD9 : va_D A [(mo, .inr (8, [.ref ms, .int sv, .ref mb, .int ty, .int th, .ref mk, .int (nI (s_tn x)), .ref mfd, .int mf1v_4, .int sp, .int on, .int tw])), (ms, .inl (K, 889, .inl (upd sf 126 (s_fai x + 1)))), (mk, .inl (K, 41, .inl (cpy (fun j9 => sf (52 + j9)) lk (s_tn x)))), (mfd, .inl (K, 9, .inl fd1v_5))] := hD.sub [1, 0, 2, 3] (by decide) rfl
    have hK9 : va_K D vwCl [] s := hK.sub [] rfl
    exact W.iret (v := r0) hx hb hr (fun t ht9 hW9 => ⟨⟨r0, ((nI (s_tn x)), mf1v_4, (upd sf 126 (s_fai x + 1)), (cpy (fun j9 => sf (52 + j9)) lk (s_tn x)), fd1v_5), rfl, by (exact ⟨rfl, RS_fail hR9 hbx hrc c_7⟩), ⟨by rw [ht9]; exact hP9, va_K.moved hW9.alike hK9, hD9⟩⟩, hS.F ht9⟩) hS.2.2 dX8_readsAndCounts_50
