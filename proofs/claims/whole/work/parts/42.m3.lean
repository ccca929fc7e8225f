set_option maxRecDepth 20000 in
theorem lf_X8_78 : Cond.fieldLink RX8 78 "BarcodeWandModel" "manyLooked" "I" ∈ wsA := mA 793 rfl rfl
set_option maxRecDepth 20000 in
theorem lf_X8_17 : Cond.fieldLink RX8 17 "BarcodeWandModel" "looked" "[I" ∈ wsA := mA 792 rfl rfl
set_option maxRecDepth 20000 in
theorem lk_X8_elementWidth : Cond.code yX8_elementWidth cX8_elementWidth 2 (some .int) ∈ wsA := mA 885 rfl rfl
theorem ly_X8_elementWidth : k_y yX8_elementWidth 1 := ⟨by decide +kernel, by decide +kernel, by decide +kernel⟩
set_option maxRecDepth 20000 in
theorem lm_X8_elementWidth : Cond.instanceMethod yX8_elementWidth ∈ wsA := mA 884 rfl rfl
theorem le_X8_elementWidth : Cond.selects (yX8_elementWidth).cls yX8_elementWidth yX8_elementWidth ∈ wsA := mS 28 rfl rfl
set_option maxRecDepth 20000 in
theorem Lv_X8_75 : k_LV RX8 75 yX8_elementWidth cX8_elementWidth 2 (some .int) 1 := ⟨mA 882 rfl rfl, lm_X8_elementWidth, le_X8_elementWidth, li_BarcodeWandModel, lk_X8_elementWidth, ly_X8_elementWidth⟩
theorem dX8_looksAtMeasurement_0 : decode cX8_looksAtMeasurement 0 = .ok (.aload_n 0, 1) := by decide +kernel
theorem dX8_looksAtMeasurement_1 : decode cX8_looksAtMeasurement 1 = .ok (.aload_n 0, 1) := by decide +kernel
theorem dX8_looksAtMeasurement_2 : decode cX8_looksAtMeasurement 2 = .ok (.getfield 7, 3) := by decide +kernel
theorem dX8_looksAtMeasurement_5 : decode cX8_looksAtMeasurement 5 = .ok (.bipush 51, 2) := by decide +kernel
theorem dX8_looksAtMeasurement_7 : decode cX8_looksAtMeasurement 7 = .ok (.iaload, 1) := by decide +kernel
theorem dX8_looksAtMeasurement_8 : decode cX8_looksAtMeasurement 8 = .ok (.putfield 78, 3) := by decide +kernel
theorem dX8_looksAtMeasurement_11 : decode cX8_looksAtMeasurement 11 = .ok (.iconst 0, 1) := by decide +kernel
theorem dX8_looksAtMeasurement_12 : decode cX8_looksAtMeasurement 12 = .ok (.istore_n 1, 1) := by decide +kernel
theorem dX8_looksAtMeasurement_13 : decode cX8_looksAtMeasurement 13 = .ok (.iload_n 1, 1) := by decide +kernel
theorem dX8_looksAtMeasurement_14 : decode cX8_looksAtMeasurement 14 = .ok (.aload_n 0, 1) := by decide +kernel
theorem dX8_looksAtMeasurement_15 : decode cX8_looksAtMeasurement 15 = .ok (.getfield 78, 3) := by decide +kernel
theorem dX8_looksAtMeasurement_18 : decode cX8_looksAtMeasurement 18 = .ok (.if_icmp .ge 24, 3) := by decide +kernel
theorem dX8_looksAtMeasurement_21 : decode cX8_looksAtMeasurement 21 = .ok (.aload_n 0, 1) := by decide +kernel
theorem dX8_looksAtMeasurement_22 : decode cX8_looksAtMeasurement 22 = .ok (.getfield 17, 3) := by decide +kernel
theorem dX8_looksAtMeasurement_25 : decode cX8_looksAtMeasurement 25 = .ok (.iload_n 1, 1) := by decide +kernel
theorem dX8_looksAtMeasurement_26 : decode cX8_looksAtMeasurement 26 = .ok (.aload_n 0, 1) := by decide +kernel
theorem dX8_looksAtMeasurement_27 : decode cX8_looksAtMeasurement 27 = .ok (.getfield 7, 3) := by decide +kernel
theorem dX8_looksAtMeasurement_30 : decode cX8_looksAtMeasurement 30 = .ok (.bipush 52, 2) := by decide +kernel
theorem dX8_looksAtMeasurement_32 : decode cX8_looksAtMeasurement 32 = .ok (.iload_n 1, 1) := by decide +kernel
theorem dX8_looksAtMeasurement_33 : decode cX8_looksAtMeasurement 33 = .ok (.iadd, 1) := by decide +kernel
theorem dX8_looksAtMeasurement_34 : decode cX8_looksAtMeasurement 34 = .ok (.iaload, 1) := by decide +kernel
theorem dX8_looksAtMeasurement_35 : decode cX8_looksAtMeasurement 35 = .ok (.iastore, 1) := by decide +kernel
theorem dX8_looksAtMeasurement_36 : decode cX8_looksAtMeasurement 36 = .ok (.iinc 1 1, 3) := by decide +kernel
theorem dX8_looksAtMeasurement_39 : decode cX8_looksAtMeasurement 39 = .ok (.goto (-26), 3) := by decide +kernel
theorem dX8_looksAtMeasurement_42 : decode cX8_looksAtMeasurement 42 = .ok (.return_, 1) := by decide +kernel
theorem dX8_looksAtLabel_0 : decode cX8_looksAtLabel 0 = .ok (.aload_n 0, 1) := by decide +kernel
theorem dX8_looksAtLabel_1 : decode cX8_looksAtLabel 1 = .ok (.invokevirtual 38, 3) := by decide +kernel
theorem dX8_looksAtLabel_4 : decode cX8_looksAtLabel 4 = .ok (.istore 4, 2) := by decide +kernel
theorem dX8_looksAtLabel_6 : decode cX8_looksAtLabel 6 = .ok (.aload_n 0, 1) := by decide +kernel
theorem dX8_looksAtLabel_7 : decode cX8_looksAtLabel 7 = .ok (.iload 4, 2) := by decide +kernel
theorem dX8_looksAtLabel_9 : decode cX8_looksAtLabel 9 = .ok (.putfield 78, 3) := by decide +kernel
theorem dX8_looksAtLabel_12 : decode cX8_looksAtLabel 12 = .ok (.iconst 0, 1) := by decide +kernel
theorem dX8_looksAtLabel_13 : decode cX8_looksAtLabel 13 = .ok (.istore 5, 2) := by decide +kernel
theorem dX8_looksAtLabel_15 : decode cX8_looksAtLabel 15 = .ok (.iload 5, 2) := by decide +kernel
theorem dX8_looksAtLabel_17 : decode cX8_looksAtLabel 17 = .ok (.iload 4, 2) := by decide +kernel
theorem dX8_looksAtLabel_19 : decode cX8_looksAtLabel 19 = .ok (.if_icmp .ge 87, 3) := by decide +kernel
theorem dX8_looksAtLabel_22 : decode cX8_looksAtLabel 22 = .ok (.bipush 10, 2) := by decide +kernel
theorem dX8_looksAtLabel_24 : decode cX8_looksAtLabel 24 = .ok (.aload_n 0, 1) := by decide +kernel
theorem dX8_looksAtLabel_25 : decode cX8_looksAtLabel 25 = .ok (.iload 5, 2) := by decide +kernel
theorem dX8_looksAtLabel_27 : decode cX8_looksAtLabel 27 = .ok (.invokevirtual 75, 3) := by decide +kernel
theorem dX8_looksAtLabel_30 : decode cX8_looksAtLabel 30 = .ok (.imul, 1) := by decide +kernel
theorem dX8_looksAtLabel_31 : decode cX8_looksAtLabel 31 = .ok (.aload_n 0, 1) := by decide +kernel
theorem dX8_looksAtLabel_32 : decode cX8_looksAtLabel 32 = .ok (.getfield 7, 3) := by decide +kernel
theorem dX8_looksAtLabel_35 : decode cX8_looksAtLabel 35 = .ok (.bipush 10, 2) := by decide +kernel
theorem dX8_looksAtLabel_37 : decode cX8_looksAtLabel 37 = .ok (.iload 5, 2) := by decide +kernel
theorem dX8_looksAtLabel_39 : decode cX8_looksAtLabel 39 = .ok (.iadd, 1) := by decide +kernel
theorem dX8_looksAtLabel_40 : decode cX8_looksAtLabel 40 = .ok (.iaload, 1) := by decide +kernel
theorem dX8_looksAtLabel_41 : decode cX8_looksAtLabel 41 = .ok (.iadd, 1) := by decide +kernel
theorem dX8_looksAtLabel_42 : decode cX8_looksAtLabel 42 = .ok (.iload_n 1, 1) := by decide +kernel
theorem dX8_looksAtLabel_43 : decode cX8_looksAtLabel 43 = .ok (.iload 4, 2) := by decide +kernel
theorem dX8_looksAtLabel_45 : decode cX8_looksAtLabel 45 = .ok (.iconst 1, 1) := by decide +kernel
theorem dX8_looksAtLabel_46 : decode cX8_looksAtLabel 46 = .ok (.isub, 1) := by decide +kernel
theorem dX8_looksAtLabel_47 : decode cX8_looksAtLabel 47 = .ok (.iload 5, 2) := by decide +kernel
theorem dX8_looksAtLabel_49 : decode cX8_looksAtLabel 49 = .ok (.isub, 1) := by decide +kernel
theorem dX8_looksAtLabel_50 : decode cX8_looksAtLabel 50 = .ok (.imul, 1) := by decide +kernel
theorem dX8_looksAtLabel_51 : decode cX8_looksAtLabel 51 = .ok (.iload_n 2, 1) := by decide +kernel
theorem dX8_looksAtLabel_52 : decode cX8_looksAtLabel 52 = .ok (.iload 5, 2) := by decide +kernel
theorem dX8_looksAtLabel_54 : decode cX8_looksAtLabel 54 = .ok (.imul, 1) := by decide +kernel
theorem dX8_looksAtLabel_55 : decode cX8_looksAtLabel 55 = .ok (.iadd, 1) := by decide +kernel
theorem dX8_looksAtLabel_56 : decode cX8_looksAtLabel 56 = .ok (.imul, 1) := by decide +kernel
theorem dX8_looksAtLabel_57 : decode cX8_looksAtLabel 57 = .ok (.bipush 10, 2) := by decide +kernel
theorem dX8_looksAtLabel_59 : decode cX8_looksAtLabel 59 = .ok (.iload 4, 2) := by decide +kernel
theorem dX8_looksAtLabel_61 : decode cX8_looksAtLabel 61 = .ok (.iconst 1, 1) := by decide +kernel
theorem dX8_looksAtLabel_62 : decode cX8_looksAtLabel 62 = .ok (.isub, 1) := by decide +kernel
theorem dX8_looksAtLabel_63 : decode cX8_looksAtLabel 63 = .ok (.imul, 1) := by decide +kernel
theorem dX8_looksAtLabel_64 : decode cX8_looksAtLabel 64 = .ok (.idiv, 1) := by decide +kernel
theorem dX8_looksAtLabel_65 : decode cX8_looksAtLabel 65 = .ok (.istore 6, 2) := by decide +kernel
theorem dX8_looksAtLabel_67 : decode cX8_looksAtLabel 67 = .ok (.aload_n 0, 1) := by decide +kernel
theorem dX8_looksAtLabel_68 : decode cX8_looksAtLabel 68 = .ok (.getfield 17, 3) := by decide +kernel
theorem dX8_looksAtLabel_71 : decode cX8_looksAtLabel 71 = .ok (.iload_n 3, 1) := by decide +kernel
theorem dX8_looksAtLabel_72 : decode cX8_looksAtLabel 72 = .ok (.ifCond .eq 13, 3) := by decide +kernel
theorem dX8_looksAtLabel_75 : decode cX8_looksAtLabel 75 = .ok (.iload 4, 2) := by decide +kernel
theorem dX8_looksAtLabel_77 : decode cX8_looksAtLabel 77 = .ok (.iconst 1, 1) := by decide +kernel
theorem dX8_looksAtLabel_78 : decode cX8_looksAtLabel 78 = .ok (.isub, 1) := by decide +kernel
theorem dX8_looksAtLabel_79 : decode cX8_looksAtLabel 79 = .ok (.iload 5, 2) := by decide +kernel
theorem dX8_looksAtLabel_81 : decode cX8_looksAtLabel 81 = .ok (.isub, 1) := by decide +kernel
theorem dX8_looksAtLabel_82 : decode cX8_looksAtLabel 82 = .ok (.goto 5, 3) := by decide +kernel
theorem dX8_looksAtLabel_85 : decode cX8_looksAtLabel 85 = .ok (.iload 5, 2) := by decide +kernel
theorem dX8_looksAtLabel_87 : decode cX8_looksAtLabel 87 = .ok (.iload 6, 2) := by decide +kernel
theorem dX8_looksAtLabel_89 : decode cX8_looksAtLabel 89 = .ok (.iconst 1, 1) := by decide +kernel
theorem dX8_looksAtLabel_90 : decode cX8_looksAtLabel 90 = .ok (.if_icmp .ge 7, 3) := by decide +kernel
theorem dX8_looksAtLabel_93 : decode cX8_looksAtLabel 93 = .ok (.iconst 1, 1) := by decide +kernel
theorem dX8_looksAtLabel_94 : decode cX8_looksAtLabel 94 = .ok (.goto 5, 3) := by decide +kernel
theorem dX8_looksAtLabel_97 : decode cX8_looksAtLabel 97 = .ok (.iload 6, 2) := by decide +kernel
theorem dX8_looksAtLabel_99 : decode cX8_looksAtLabel 99 = .ok (.iastore, 1) := by decide +kernel
theorem dX8_looksAtLabel_100 : decode cX8_looksAtLabel 100 = .ok (.iinc 5 1, 3) := by decide +kernel
theorem dX8_looksAtLabel_103 : decode cX8_looksAtLabel 103 = .ok (.goto (-88), 3) := by decide +kernel
theorem dX8_looksAtLabel_106 : decode cX8_looksAtLabel 106 = .ok (.return_, 1) := by decide +kernel
set_option maxHeartbeats 4000000 in
set_option maxRecDepth 100000 in
theorem c_M_looksM (l : Launch) (D : va_G) (mo : Nat) (ms : Nat) (sv : Int32) (mb : Nat) (ty : Int32) (th : Int32) (mk : Nat) (ml : Int32) (mfd : Nat) (mf : Int32) (sp : Int32) (on : Int32) (tw : Int32) (K : ClassId) (sf : Nat → Int32) (lk : Nat → Int32) (tn : Nat) (h51 : sf 51 = nI tn) (htn : tn ≤ 41) (sz : Nat) : k_Mv (S := Unit) l D yX8_looksAtMeasurement cX8_looksAtMeasurement 2 none 0 0 0 0 [.ref mo] [(mo, .inr (8, [.ref ms, .int sv, .ref mb, .int ty, .int th, .ref mk, .int ml, .ref mfd, .int mf, .int sp, .int on, .int tw])), (ms, .inl (K, 889, .inl sf)), (mk, .inl (K, 41, .inl lk))] [(K, .int)] (fun (_ : Unit) => True) (fun _ => [(mo, .inr (8, [.ref ms, .int sv, .ref mb, .int ty, .int th, .ref mk, .int (nI tn), .ref mfd, .int mf, .int sp, .int on, .int tw])), (ms, .inl (K, 889, .inl sf)), (mk, .inl (K, 41, .inl (cpy (fun j9 => sf (52 + j9)) lk tn)))]) (fun _ => []) sz := by
  refine Met.ofW (cc := cX8_looksAtMeasurement) (maxL := 2) (ret := none) (by decide) rfl ?_
  intro p e s m args below meth c s₁ B hml hv
  obtain ⟨rfl, hsz, hP, hK, hD0, hG⟩ := hv
  have hx := B.exec
  have hb := B.bytes
  have hr := B.returns
  have ht : ∀ v9 ∈ wsA, v9.before ([.ref mo] : List Value).toArray s = true := fun v9 h9 => atoms_spec (ws := k_ws yX8_looksAtMeasurement cX8_looksAtMeasurement 2 none) B.pre v9 (List.mem_cons_of_mem _ h9)
  have hown : s.vm.findClass RX8 = some m.cls := findClass_of_methodNamed B.named
  have S0 : k_C p s m ([.ref mo] : List Value).toArray c cX8_looksAtMeasurement 2 RX8 := ⟨hx, hb, hml, hown, ht⟩
  have hlocks := B.notSynchronized
  subst hsz
  have hD := hD0.self (sz := s.heap.size)
  generalize hAe : va_A [(mo, .inr (8, [.ref ms, .int sv, .ref mb, .int ty, .int th, .ref mk, .int ml, .ref mfd, .int mf, .int sp, .int on, .int tw])), (ms, .inl (K, 889, .inl sf)), (mk, .inl (K, 41, .inl lk))] s.heap.size = A at hD hG ⊢
  have hA : ∀ q : Nat, s.heap.size ≤ q → A q := fun q h => by rw [← hAe]; exact Or.inr h
  have hS : va_S A s.heap s.heap [] := va_S.rf
  have hl := lv_entry ([.ref mo]) (n := 2) (Nat.le_of_ble_eq_true rfl)
  rw [lg_entry_eq]
  generalize (lg_sl ([.ref mo]) ++ List.replicate (2 - (lg_sl ([.ref mo])).length) Slot.unset).toArray = ls at hl ⊢
  have hl : lv_has ls 2 [(0, .ref mo)] := hl
  have hP : va_P D vwCl [(mo, .inr (8, [.ref ms, .int sv, .ref mb, .int ty, .int th, .ref mk, .int ml, .ref mfd, .int mf, .int sp, .int on, .int tw])), (ms, .inl (K, 889, .inl sf)), (mk, .inl (K, 41, .inl lk))] s.heap := hP
  refine lv_aload_n hx hb dX8_looksAtMeasurement_0 rfl (lv_at hl 0 rfl) ?_
  refine lv_aload_n hx hb dX8_looksAtMeasurement_1 rfl (lv_at hl 0 rfl) ?_
  refine va_get (D := D) (ci := 8) (v := .ref ms) (C := RX8) (T := TX8) (N := 12) hx hb ht inA_X8 hown hK hP 0 rfl rfl 0 (by decide) (ht _ lf_X8_7) (fun _ h9 => h9) rfl dX8_looksAtMeasurement_2 ?_
  refine lv_bipush (v := 51) hx hb dX8_looksAtMeasurement_5 (by decide) ?_
  refine va_iald hx hb hK hP 1 0 rfl rfl (by unfold vp_in; decide) dX8_looksAtMeasurement_7 ?_
  refine k_nrm (y := (nI tn)) (show sf (51 : Int32).toNatClampNeg = (nI tn) from h51) ?_
  refine va_put (D := D) (ci := 8) (v := .int (nI tn)) (ty := .int) (C := RX8) (T := TX8) (N := 12) hx hb ht inA_X8 tyX8 tyX8_ok nmX8 hown hK hP hD hS 0 rfl rfl 6 (by decide) (ht _ lf_X8_78) (fun _ h9 => h9) rfl (tyX8_ok 6 (by decide)) rfl rfl (Nat.le_of_ble_eq_true rfl) dX8_looksAtMeasurement_8 (fun H locs hP hD hS => ?_)
  have hP : va_P D vwCl [(mo, .inr (8, [.ref ms, .int sv, .ref mb, .int ty, .int th, .ref mk, .int (nI tn), .ref mfd, .int mf, .int sp, .int on, .int tw])), (ms, .inl (K, 889, .inl sf)), (mk, .inl (K, 41, .inl lk))] H := hP
  have hD : va_D A [(mo, .inr (8, [.ref ms, .int sv, .ref mb, .int ty, .int th, .ref mk, .int (nI tn), .ref mfd, .int mf, .int sp, .int on, .int tw])), (ms, .inl (K, 889, .inl sf)), (mk, .inl (K, 41, .inl lk))] := hD
  refine lv_iconst (v := 0) hx hb dX8_looksAtMeasurement_11 (by decide) ?_
  refine lv_istore_n (lv' := [(1, .int 0), (0, .ref mo)]) hx hb dX8_looksAtMeasurement_12 rfl hl (by decide) rfl (fun ls hl => ?_)
  have hf_1 : (lk : Nat → Int32) = (cpy (fun j9 => sf (52 + j9)) lk 0) := (cpy_0 _ lk).symm
  have hP : va_P D vwCl [(mo, .inr (8, [.ref ms, .int sv, .ref mb, .int ty, .int th, .ref mk, .int (nI tn), .ref mfd, .int mf, .int sp, .int on, .int tw])), (ms, .inl (K, 889, .inl sf)), (mk, .inl (K, 41, .inl (cpy (fun j9 => sf (52 + j9)) lk 0)))] H := (congrArg (fun z9 : Nat → Int32 => va_P D vwCl [(mo, .inr (8, [.ref ms, .int sv, .ref mb, .int ty, .int th, .ref mk, .int (nI tn), .ref mfd, .int mf, .int sp, .int on, .int tw])), (ms, .inl (K, 889, .inl sf)), (mk, .inl (K, 41, .inl z9))] H) hf_1).mp hP
  have hD : va_D A [(mo, .inr (8, [.ref ms, .int sv, .ref mb, .int ty, .int th, .ref mk, .int (nI tn), .ref mfd, .int mf, .int sp, .int on, .int tw])), (ms, .inl (K, 889, .inl sf)), (mk, .inl (K, 41, .inl (cpy (fun j9 => sf (52 + j9)) lk 0)))] := (congrArg (fun z9 : Nat → Int32 => va_D A [(mo, .inr (8, [.ref ms, .int sv, .ref mb, .int ty, .int th, .ref mk, .int (nI tn), .ref mfd, .int mf, .int sp, .int on, .int tw])), (ms, .inl (K, 889, .inl sf)), (mk, .inl (K, 41, .inl z9))]) hf_1).mp hD
  have hl : lv_has ls 2 [(1, .int (nI 0)), (0, .ref mo)] := hl
  refine k_loop (ι := Nat) (fun (i : Nat) H9 locs9 ls9 => (i ≤ tn) ∧ va_P D vwCl [(mo, .inr (8, [.ref ms, .int sv, .ref mb, .int ty, .int th, .ref mk, .int (nI tn), .ref mfd, .int mf, .int sp, .int on, .int tw])), (ms, .inl (K, 889, .inl sf)), (mk, .inl (K, 41, .inl (cpy (fun j9 => sf (52 + j9)) lk i)))] H9 ∧ va_D A [(mo, .inr (8, [.ref ms, .int sv, .ref mb, .int ty, .int th, .ref mk, .int (nI tn), .ref mfd, .int mf, .int sp, .int on, .int tw])), (ms, .inl (K, 889, .inl sf)), (mk, .inl (K, 41, .inl (cpy (fun j9 => sf (52 + j9)) lk i)))] ∧ va_S A s.heap H9 locs9 ∧ lv_has ls9 2 [(1, .int (nI i)), (0, .ref mo)]) (fun (i : Nat) => tn - i) ?_ (0) ⟨(Nat.zero_le _), hP.sub [0, 1, 2] rfl, hD.sub [0, 1, 2] (by decide) rfl, hS, lv_sub hl [0, 1] rfl⟩
  intro x9 H locs ls hF9 ih9
  obtain ⟨i, hv9⟩ : ∃ z, z = x9 := ⟨_, rfl⟩
  subst hv9
  obtain ⟨hi, hP, hD, hS, hl⟩ := hF9
  try dsimp only at ih9
  have hP : va_P D vwCl [(mo, .inr (8, [.ref ms, .int sv, .ref mb, .int ty, .int th, .ref mk, .int (nI tn), .ref mfd, .int mf, .int sp, .int on, .int tw])), (ms, .inl (K, 889, .inl sf)), (mk, .inl (K, 41, .inl (cpy (fun j9 => sf (52 + j9)) lk i)))] H := hP
  have hD : va_D A [(mo, .inr (8, [.ref ms, .int sv, .ref mb, .int ty, .int th, .ref mk, .int (nI tn), .ref mfd, .int mf, .int sp, .int on, .int tw])), (ms, .inl (K, 889, .inl sf)), (mk, .inl (K, 41, .inl (cpy (fun j9 => sf (52 + j9)) lk i)))] := hD
  have hl : lv_has ls 2 [(1, .int (nI i)), (0, .ref mo)] := hl
  refine lv_iload_n hx hb dX8_looksAtMeasurement_13 rfl (lv_at hl 0 rfl) ?_
  refine lv_aload_n hx hb dX8_looksAtMeasurement_14 rfl (lv_at hl 1 rfl) ?_
  refine va_get (D := D) (ci := 8) (v := .int (nI tn)) (C := RX8) (T := TX8) (N := 12) hx hb ht inA_X8 hown hK hP 0 rfl rfl 6 (by decide) (ht _ lf_X8_78) (fun _ h9 => h9) rfl dX8_looksAtMeasurement_15 ?_
  refine lv_icmp_ge (tgt := 42) hx hb dX8_looksAtMeasurement_18 (by decide) (fun c_2 => ?_) (fun c_2 => ?_)
  · have hc9 := c_2
    obtain rfl : tn = i := by rcases Nat.lt_or_ge i tn with q9 | q9; exact absurd c_2 (nI_ge q9 (by omega)); omega
    have hP9 : va_P D vwCl [(mo, .inr (8, [.ref ms, .int sv, .ref mb, .int ty, .int th, .ref mk, .int (nI tn), .ref mfd, .int mf, .int sp, .int on, .int tw])), (ms, .inl (K, 889, .inl sf)), (mk, .inl (K, 41, .inl (cpy (fun j9 => sf (52 + j9)) lk tn)))] H := hP.sub [0, 1, 2] rfl
    have hD9 : va_D A [(mo, .inr (8, [.ref ms, .int sv, .ref mb, .int ty, .int th, .ref mk, .int (nI tn), .ref mfd, .int mf, .int sp, .int on, .int tw])), (ms, .inl (K, 889, .inl sf)), (mk, .inl (K, 41, .inl (cpy (fun j9 => sf (52 + j9)) lk tn)))] := hD.sub [0, 1, 2] (by decide) rfl
    have hK9 : va_K D vwCl [] s := hK.sub [] rfl
    exact W.vret hx hb hr (fun t ht9 hW9 => ⟨⟨(), rfl, by first | rfl | trivial | (simp only [hi, c_2, if_true, if_false, reduceIte, and_self]; done) | simp_all, ⟨by rw [ht9]; exact hP9, va_K.moved hW9.alike hK9, hD9⟩⟩, hS.F ht9⟩) hS.2.2 dX8_looksAtMeasurement_42
  · have hc9 := c_2
    have hik : i + 1 ≤ tn := by rcases Nat.lt_or_ge i tn with q9 | q9; exact q9; exact absurd (nI_le q9 (by omega)) c_2
    refine lv_aload_n hx hb dX8_looksAtMeasurement_21 rfl (lv_at hl 1 rfl) ?_
    refine va_get (D := D) (ci := 8) (v := .ref mk) (C := RX8) (T := TX8) (N := 12) hx hb ht inA_X8 hown hK hP 0 rfl rfl 5 (by decide) (ht _ lf_X8_17) (fun _ h9 => h9) rfl dX8_looksAtMeasurement_22 ?_
    refine lv_iload_n hx hb dX8_looksAtMeasurement_25 rfl (lv_at hl 0 rfl) ?_
    refine lv_aload_n hx hb dX8_looksAtMeasurement_26 rfl (lv_at hl 1 rfl) ?_
    refine va_get (D := D) (ci := 8) (v := .ref ms) (C := RX8) (T := TX8) (N := 12) hx hb ht inA_X8 hown hK hP 0 rfl rfl 0 (by decide) (ht _ lf_X8_7) (fun _ h9 => h9) rfl dX8_looksAtMeasurement_27 ?_
    refine lv_bipush (v := 52) hx hb dX8_looksAtMeasurement_30 (by decide) ?_
    refine lv_iload_n hx hb dX8_looksAtMeasurement_32 rfl (lv_at hl 0 rfl) ?_
    refine lv_iadd hx hb dX8_looksAtMeasurement_33 ?_
    refine k_nrm (y := (nI (52 + i))) (nI_add 52 i) ?_
    refine va_iald hx hb hK hP 1 0 rfl rfl (vp_in_nI (by omega) (by decide)) dX8_looksAtMeasurement_34 ?_
    refine k_nrm (y := (sf (52 + i))) (by rw [nI_clamp (by omega)]) ?_
    refine va_iast hx hb hK hP hD hS 2 0 rfl rfl (vp_in_nI (by omega) (by decide)) dX8_looksAtMeasurement_35 (fun H locs hP hD hS => ?_)
    have hP : va_P D vwCl [(mo, .inr (8, [.ref ms, .int sv, .ref mb, .int ty, .int th, .ref mk, .int (nI tn), .ref mfd, .int mf, .int sp, .int on, .int tw])), (ms, .inl (K, 889, .inl sf)), (mk, .inl (K, 41, .inl (upd (cpy (fun j9 => sf (52 + j9)) lk i) ((nI i).toNatClampNeg) (sf (52 + i)))))] H := hP
    have hD : va_D A [(mo, .inr (8, [.ref ms, .int sv, .ref mb, .int ty, .int th, .ref mk, .int (nI tn), .ref mfd, .int mf, .int sp, .int on, .int tw])), (ms, .inl (K, 889, .inl sf)), (mk, .inl (K, 41, .inl (upd (cpy (fun j9 => sf (52 + j9)) lk i) ((nI i).toNatClampNeg) (sf (52 + i)))))] := hD
    have hf9 : upd (cpy (fun j9 => sf (52 + j9)) lk i) ((nI i).toNatClampNeg) (sf (52 + i)) = (cpy (fun j9 => sf (52 + j9)) lk (i + 1)) := by rw [nI_clamp (by omega)]; exact cpy_s (fun j9 => sf (52 + j9)) lk i
    rw [hf9] at hP hD
    have hP : va_P D vwCl [(mo, .inr (8, [.ref ms, .int sv, .ref mb, .int ty, .int th, .ref mk, .int (nI tn), .ref mfd, .int mf, .int sp, .int on, .int tw])), (ms, .inl (K, 889, .inl sf)), (mk, .inl (K, 41, .inl (cpy (fun j9 => sf (52 + j9)) lk (i + 1))))] H := hP
    have hD : va_D A [(mo, .inr (8, [.ref ms, .int sv, .ref mb, .int ty, .int th, .ref mk, .int (nI tn), .ref mfd, .int mf, .int sp, .int on, .int tw])), (ms, .inl (K, 889, .inl sf)), (mk, .inl (K, 41, .inl (cpy (fun j9 => sf (52 + j9)) lk (i + 1))))] := hD
    obtain ⟨x_3, ex_3⟩ : ∃ z : Int32, z = (nI i) + 1 := ⟨_, rfl⟩
    refine lv_iinc (v := x_3) (lv' := [(1, .int x_3), (0, .ref mo)]) hx hb dX8_looksAtMeasurement_36 hl (k := 0) rfl (by rw [ex_3]; rfl) (by decide) rfl (fun ls hl => ?_)
    refine lv_goto (tgt := 13) hx hb dX8_looksAtMeasurement_39 (by decide) ?_
    have he9 : x_3 = (nI (i + 1)) := by rw [ex_3]; exact nI_1 i
    rw [he9] at hl
    have hl : lv_has ls 2 [(1, .int (nI (i + 1))), (0, .ref mo)] := hl
    exact ih9 (i + 1) H locs ls (by omega) ⟨hik, hP.sub [0, 1, 2] rfl, hD.sub [0, 1, 2] (by decide) rfl, hS, lv_sub hl [0, 1] rfl⟩
set_option maxHeartbeats 4000000 in
set_option maxRecDepth 100000 in
theorem c_M_looksL (l : Launch) (D : va_G) (mo : Nat) (ms : Nat) (sv : Int32) (mb : Nat) (ty : Int32) (th : Int32) (mk : Nat) (ml : Int32) (mfd : Nat) (mf : Int32) (sp : Int32) (on : Int32) (tw : Int32) (K : ClassId) (sf : Nat → Int32) (lk : Nat → Int32) (nd : Nat) (df : Nat → Int32) (ns : Nat) (zf : Nat → Int32) (lf : Int32) (rt : Int32) (b : Int32) (hns : ns = lnN nd) (h0 : sf 0 = nI nd) (hnd : nd ≤ 9) (hdf : ∀ j, j < nd → sf (1 + j) = df j) (hdg : ∀ j, j < nd → ∃ d, d ≤ 9 ∧ df j = nI d) (hzf : ∀ j, j < ns → sf (10 + j) = zf j) (sz : Nat) : k_Mv (S := Nat → Int32) l D yX8_looksAtLabel cX8_looksAtLabel 7 none 3 0 0 64 [.ref mo, .int lf, .int rt, .int b] [(mo, .inr (8, [.ref ms, .int sv, .ref mb, .int ty, .int th, .ref mk, .int ml, .ref mfd, .int mf, .int sp, .int on, .int tw])), (ms, .inl (K, 889, .inl sf)), (mk, .inl (K, 41, .inl lk))] [(K, .int)] (fun (lg : Nat → Int32) => ∀ j, j < ns → lg j = drwF nd df ns zf lf rt b j) (fun lg => [(mo, .inr (8, [.ref ms, .int sv, .ref mb, .int ty, .int th, .ref mk, .int (nI ns), .ref mfd, .int mf, .int sp, .int on, .int tw])), (ms, .inl (K, 889, .inl sf)), (mk, .inl (K, 41, .inl lg))]) (fun lg => []) sz := by
  refine Met.ofW (cc := cX8_looksAtLabel) (maxL := 7) (ret := none) (by decide) rfl ?_
  intro p e s m args below meth c s₁ B hml hv
  obtain ⟨rfl, hsz, hP, hK, hD0, hG⟩ := hv
  have hx := B.exec
  have hb := B.bytes
  have hr := B.returns
  have ht : ∀ v9 ∈ wsA, v9.before ([.ref mo, .int lf, .int rt, .int b] : List Value).toArray s = true := fun v9 h9 => atoms_spec (ws := k_ws yX8_looksAtLabel cX8_looksAtLabel 7 none) B.pre v9 (List.mem_cons_of_mem _ h9)
  have hown : s.vm.findClass RX8 = some m.cls := findClass_of_methodNamed B.named
  have S0 : k_C p s m ([.ref mo, .int lf, .int rt, .int b] : List Value).toArray c cX8_looksAtLabel 7 RX8 := ⟨hx, hb, hml, hown, ht⟩
  have hlocks := B.notSynchronized
  subst hsz
  have hD := hD0.self (sz := s.heap.size)
  generalize hAe : va_A [(mo, .inr (8, [.ref ms, .int sv, .ref mb, .int ty, .int th, .ref mk, .int ml, .ref mfd, .int mf, .int sp, .int on, .int tw])), (ms, .inl (K, 889, .inl sf)), (mk, .inl (K, 41, .inl lk))] s.heap.size = A at hD hG ⊢
  have hA : ∀ q : Nat, s.heap.size ≤ q → A q := fun q h => by rw [← hAe]; exact Or.inr h
  have hS : va_S A s.heap s.heap [] := va_S.rf
  have hl := lv_entry ([.ref mo, .int lf, .int rt, .int b]) (n := 7) (Nat.le_of_ble_eq_true rfl)
  rw [lg_entry_eq]
  generalize (lg_sl ([.ref mo, .int lf, .int rt, .int b]) ++ List.replicate (7 - (lg_sl ([.ref mo, .int lf, .int rt, .int b])).length) Slot.unset).toArray = ls at hl ⊢
  have hl : lv_has ls 7 [(0, .ref mo), (1, .int lf), (2, .int rt), (3, .int b)] := hl
  have hP : va_P D vwCl [(mo, .inr (8, [.ref ms, .int sv, .ref mb, .int ty, .int th, .ref mk, .int ml, .ref mfd, .int mf, .int sp, .int on, .int tw])), (ms, .inl (K, 889, .inl sf)), (mk, .inl (K, 41, .inl lk))] s.heap := hP
  have h41 : ns ≤ 41 := ew_41 hns hnd
  refine lv_aload_n hx hb dX8_looksAtLabel_0 rfl (lv_at hl 0 rfl) ?_
  have ct := k_cut_of (wc := [(mo, .inr (8, [.ref ms, .int sv, .ref mb, .int ty, .int th, .ref mk, .int ml, .ref mfd, .int mf, .int sp, .int on, .int tw])), (ms, .inl (K, 889, .inl sf))]) (wr := [(mk, .inl (K, 41, .inl lk))]) (tc := [(K, .int)]) hG hS hA hK hP hD [0, 1] [2] [0] rfl rfl (by decide) (by decide) (by decide) rfl
  refine k_endi (As := [.ref mo]) ct (k_runV (As := []) (rest := []) S0 Lv_X8_38 rfl (ci := 8) (q0 := 0) rfl rfl ct (c_M_many l D mo ms sv mb ty th mk ml mfd mf sp on tw K sf nd (by assumption) (by first | assumption | omega) s.heap.size) hl.1 rfl (Nat.le_of_ble_eq_true rfl) rfl dX8_looksAtLabel_1 ⟨⟨Nat.le_of_ble_eq_true rfl, Nat.le_of_ble_eq_true rfl⟩, Nat.le_of_ble_eq_true rfl, Nat.le_of_ble_eq_true rfl⟩) rfl rfl (fun r_1 _ H locs hw_2 hP hD hK hS => ?_)
  have hK : va_K D vwCl [(K, .int)] s := hK
  have hP : va_P D vwCl [(mk, .inl (K, 41, .inl lk)), (mo, .inr (8, [.ref ms, .int sv, .ref mb, .int ty, .int th, .ref mk, .int ml, .ref mfd, .int mf, .int sp, .int on, .int tw])), (ms, .inl (K, 889, .inl sf))] H := hP
  have hD : va_D A [(mk, .inl (K, 41, .inl lk)), (mo, .inr (8, [.ref ms, .int sv, .ref mb, .int ty, .int th, .ref mk, .int ml, .ref mfd, .int mf, .int sp, .int on, .int tw])), (ms, .inl (K, 889, .inl sf))] := hD
  have hw_2 : r_1 = (nI (lnN nd)) := hw_2
  have hw_2 := hw_2.symm
  subst hw_2
  refine k_nrm (y := (nI (lnN nd))) rfl ?_
  refine k_nrm (y := nI ns) (by rw [hns]) ?_
  refine lv_istore (lv' := [(4, .int (nI ns)), (0, .ref mo), (1, .int lf), (2, .int rt), (3, .int b)]) hx hb dX8_looksAtLabel_4 hl (by decide) rfl (fun ls hl => ?_)
  refine lv_aload_n hx hb dX8_looksAtLabel_6 rfl (lv_at hl 1 rfl) ?_
  refine lv_iload hx hb dX8_looksAtLabel_7 (lv_at hl 0 rfl) ?_
  refine va_put (D := D) (ci := 8) (v := .int (nI ns)) (ty := .int) (C := RX8) (T := TX8) (N := 12) hx hb ht inA_X8 tyX8 tyX8_ok nmX8 hown hK hP hD hS 1 rfl rfl 6 (by decide) (ht _ lf_X8_78) (fun _ h9 => h9) rfl (tyX8_ok 6 (by decide)) rfl rfl (Nat.le_of_ble_eq_true rfl) dX8_looksAtLabel_9 (fun H locs hP hD hS => ?_)
  have hP : va_P D vwCl [(mk, .inl (K, 41, .inl lk)), (mo, .inr (8, [.ref ms, .int sv, .ref mb, .int ty, .int th, .ref mk, .int (nI ns), .ref mfd, .int mf, .int sp, .int on, .int tw])), (ms, .inl (K, 889, .inl sf))] H := hP
  have hD : va_D A [(mk, .inl (K, 41, .inl lk)), (mo, .inr (8, [.ref ms, .int sv, .ref mb, .int ty, .int th, .ref mk, .int (nI ns), .ref mfd, .int mf, .int sp, .int on, .int tw])), (ms, .inl (K, 889, .inl sf))] := hD
  refine lv_iconst (v := 0) hx hb dX8_looksAtLabel_12 (by decide) ?_
  refine lv_istore (lv' := [(5, .int 0), (4, .int (nI ns)), (0, .ref mo), (1, .int lf), (2, .int rt), (3, .int b)]) hx hb dX8_looksAtLabel_13 hl (by decide) rfl (fun ls hl => ?_)
  have hl : lv_has ls 7 [(5, .int (nI 0)), (4, .int (nI ns)), (0, .ref mo), (1, .int lf), (2, .int rt), (3, .int b)] := hl
  refine k_loop (ι := Nat × (Nat → Int32)) (fun (x9 : Nat × (Nat → Int32)) H9 locs9 ls9 => match x9 with | (i, lg) => (i ≤ ns) ∧ (∀ m9, m9 < i → lg (llP ns b m9) = timF nd df (nI ns) (nI m9) (zf m9) lf rt) ∧ va_P D vwCl [(mo, .inr (8, [.ref ms, .int sv, .ref mb, .int ty, .int th, .ref mk, .int (nI ns), .ref mfd, .int mf, .int sp, .int on, .int tw])), (ms, .inl (K, 889, .inl sf)), (mk, .inl (K, 41, .inl lg))] H9 ∧ va_D A [(mo, .inr (8, [.ref ms, .int sv, .ref mb, .int ty, .int th, .ref mk, .int (nI ns), .ref mfd, .int mf, .int sp, .int on, .int tw])), (ms, .inl (K, 889, .inl sf)), (mk, .inl (K, 41, .inl lg))] ∧ va_S A s.heap H9 locs9 ∧ lv_has ls9 7 [(5, .int (nI i)), (4, .int (nI ns)), (0, .ref mo), (1, .int lf), (2, .int rt), (3, .int b)]) (fun (x9 : Nat × (Nat → Int32)) => match x9 with | (i, lg) => ns - i) ?_ ((0, lk)) ⟨(Nat.zero_le _), (fun m9 h9 => absurd h9 (Nat.not_lt_zero m9)), hP.sub [1, 2, 0] rfl, hD.sub [1, 2, 0] (by decide) rfl, hS, lv_sub hl [0, 1, 2, 3, 4, 5] rfl⟩
  intro x9 H locs ls hF9 ih9
  obtain ⟨i, lg⟩ := x9
  obtain ⟨hi, hlk, hP, hD, hS, hl⟩ := hF9
  try dsimp only at ih9
  have hP : va_P D vwCl [(mo, .inr (8, [.ref ms, .int sv, .ref mb, .int ty, .int th, .ref mk, .int (nI ns), .ref mfd, .int mf, .int sp, .int on, .int tw])), (ms, .inl (K, 889, .inl sf)), (mk, .inl (K, 41, .inl lg))] H := hP
  have hD : va_D A [(mo, .inr (8, [.ref ms, .int sv, .ref mb, .int ty, .int th, .ref mk, .int (nI ns), .ref mfd, .int mf, .int sp, .int on, .int tw])), (ms, .inl (K, 889, .inl sf)), (mk, .inl (K, 41, .inl lg))] := hD
  have hl : lv_has ls 7 [(5, .int (nI i)), (4, .int (nI ns)), (0, .ref mo), (1, .int lf), (2, .int rt), (3, .int b)] := hl
  refine lv_iload hx hb dX8_looksAtLabel_15 (lv_at hl 0 rfl) ?_
  refine lv_iload hx hb dX8_looksAtLabel_17 (lv_at hl 1 rfl) ?_
  refine lv_icmp_ge (tgt := 106) hx hb dX8_looksAtLabel_19 (by decide) (fun c_3 => ?_) (fun c_3 => ?_)
  · have hc9 := c_3
    obtain rfl : ns = i := by rcases Nat.lt_or_ge i ns with q9 | q9; exact absurd c_3 (nI_ge q9 (by omega)); omega
    have hP9 : va_P D vwCl [(mo, .inr (8, [.ref ms, .int sv, .ref mb, .int ty, .int th, .ref mk, .int (nI ns), .ref mfd, .int mf, .int sp, .int on, .int tw])), (ms, .inl (K, 889, .inl sf)), (mk, .inl (K, 41, .inl lg))] H := hP.sub [0, 1, 2] rfl
    have hD9 : va_D A [(mo, .inr (8, [.ref ms, .int sv, .ref mb, .int ty, .int th, .ref mk, .int (nI ns), .ref mfd, .int mf, .int sp, .int on, .int tw])), (ms, .inl (K, 889, .inl sf)), (mk, .inl (K, 41, .inl lg))] := hD.sub [0, 1, 2] (by decide) rfl
    have hK9 : va_K D vwCl [] s := hK.sub [] rfl
    exact W.vret hx hb hr (fun t ht9 hW9 => ⟨⟨lg, rfl, by exact fun j9 h9 => ll_end (ew_41 hns hnd) hlk h9, ⟨by rw [ht9]; exact hP9, va_K.moved hW9.alike hK9, hD9⟩⟩, hS.F ht9⟩) hS.2.2 dX8_looksAtLabel_106
  · have hc9 := c_3
    have hik : i + 1 ≤ ns := by rcases Nat.lt_or_ge i ns with q9 | q9; exact q9; exact absurd (nI_le q9 (by omega)) c_3
    have h13 : 9 ≤ ns := ew_9 hns hik
    refine lv_bipush (v := 10) hx hb dX8_looksAtLabel_22 (by decide) ?_
    refine lv_aload_n hx hb dX8_looksAtLabel_24 rfl (lv_at hl 2 rfl) ?_
    refine lv_iload hx hb dX8_looksAtLabel_25 (lv_at hl 0 rfl) ?_
    have ct := k_cut_of (wc := [(mo, .inr (8, [.ref ms, .int sv, .ref mb, .int ty, .int th, .ref mk, .int (nI ns), .ref mfd, .int mf, .int sp, .int on, .int tw])), (ms, .inl (K, 889, .inl sf))]) (wr := [(mk, .inl (K, 41, .inl lg))]) (tc := [(K, .int)]) hG hS hA hK hP hD [0, 1] [2] [0] rfl rfl (by decide) (by decide) (by decide) rfl
    refine k_endi (As := [.ref mo, .int (nI i)]) ct (k_runV (As := [.int (nI i)]) (rest := [.int 10]) S0 Lv_X8_75 rfl (ci := 8) (q0 := 0) rfl rfl ct (c_M_width_ l D mo ms sv mb ty th mk (nI ns) mfd mf sp on tw K sf nd df ns i (by first | assumption | rfl) (by first | assumption | omega) (by assumption) (by first | assumption | omega) (by assumption) (by assumption) H.size) hl.1 rfl (Nat.le_of_ble_eq_true rfl) rfl dX8_looksAtLabel_27 ⟨⟨Nat.le_of_ble_eq_true rfl, Nat.le_of_ble_eq_true rfl⟩, Nat.le_of_ble_eq_true rfl, Nat.le_of_ble_eq_true rfl⟩) rfl rfl (fun r_4 _ H locs hw_5 hP hD hK hS => ?_)
    have hK : va_K D vwCl [(K, .int)] s := hK
    have hP : va_P D vwCl [(mk, .inl (K, 41, .inl lg)), (mo, .inr (8, [.ref ms, .int sv, .ref mb, .int ty, .int th, .ref mk, .int (nI ns), .ref mfd, .int mf, .int sp, .int on, .int tw])), (ms, .inl (K, 889, .inl sf))] H := hP
    have hD : va_D A [(mk, .inl (K, 41, .inl lg)), (mo, .inr (8, [.ref ms, .int sv, .ref mb, .int ty, .int th, .ref mk, .int (nI ns), .ref mfd, .int mf, .int sp, .int on, .int tw])), (ms, .inl (K, 889, .inl sf))] := hD
    have hw_5 : r_4 = (widF nd df (nI ns) (nI i)) := hw_5
    have hw_5 := hw_5.symm
    subst hw_5
    refine k_nrm (y := (widF nd df (nI ns) (nI i))) rfl ?_
    refine lv_imul hx hb dX8_looksAtLabel_30 ?_
    refine k_nrm (y := (10 * widF nd df (nI ns) (nI i))) (rfl) ?_
    refine lv_aload_n hx hb dX8_looksAtLabel_31 rfl (lv_at hl 2 rfl) ?_
    refine va_get (D := D) (ci := 8) (v := .ref ms) (C := RX8) (T := TX8) (N := 12) hx hb ht inA_X8 hown hK hP 1 rfl rfl 0 (by decide) (ht _ lf_X8_7) (fun _ h9 => h9) rfl dX8_looksAtLabel_32 ?_
    refine lv_bipush (v := 10) hx hb dX8_looksAtLabel_35 (by decide) ?_
    refine lv_iload hx hb dX8_looksAtLabel_37 (lv_at hl 0 rfl) ?_
    refine lv_iadd hx hb dX8_looksAtLabel_39 ?_
    refine k_nrm (y := (nI (10 + i))) (nI_add 10 i) ?_
    refine va_iald hx hb hK hP 2 0 rfl rfl (vp_in_nI (by omega) (by decide)) dX8_looksAtLabel_40 ?_
    refine k_nrm (y := (zf i)) (by rw [nI_clamp (by omega)]; exact hzf i hik) ?_
    refine lv_iadd hx hb dX8_looksAtLabel_41 ?_
    refine k_nrm (y := (10 * widF nd df (nI ns) (nI i) + zf i)) (rfl) ?_
    refine lv_iload_n hx hb dX8_looksAtLabel_42 rfl (lv_at hl 3 rfl) ?_
    refine lv_iload hx hb dX8_looksAtLabel_43 (lv_at hl 1 rfl) ?_
    refine lv_iconst (v := 1) hx hb dX8_looksAtLabel_45 (by decide) ?_
    refine lv_isub hx hb dX8_looksAtLabel_46 ?_
    refine k_nrm (y := (nI (ns - 1))) (pk_sub (b := 1) (by omega)) ?_
    refine lv_iload hx hb dX8_looksAtLabel_47 (lv_at hl 0 rfl) ?_
    refine lv_isub hx hb dX8_looksAtLabel_49 ?_
    refine k_nrm (y := (nI (ns - 1) - nI i)) (rfl) ?_
    refine lv_imul hx hb dX8_looksAtLabel_50 ?_
    refine k_nrm (y := (lf * (nI (ns - 1) - nI i))) (rfl) ?_
    refine lv_iload_n hx hb dX8_looksAtLabel_51 rfl (lv_at hl 4 rfl) ?_
    refine lv_iload hx hb dX8_looksAtLabel_52 (lv_at hl 0 rfl) ?_
    refine lv_imul hx hb dX8_looksAtLabel_54 ?_
    refine k_nrm (y := (rt * nI i)) (rfl) ?_
    refine lv_iadd hx hb dX8_looksAtLabel_55 ?_
    refine k_nrm (y := (lf * (nI (ns - 1) - nI i) + rt * nI i)) (rfl) ?_
    refine lv_imul hx hb dX8_looksAtLabel_56 ?_
    refine k_nrm (y := ((10 * widF nd df (nI ns) (nI i) + zf i) * (lf * (nI (ns - 1) - nI i) + rt * nI i))) (rfl) ?_
    refine lv_bipush (v := 10) hx hb dX8_looksAtLabel_57 (by decide) ?_
    refine lv_iload hx hb dX8_looksAtLabel_59 (lv_at hl 1 rfl) ?_
    refine lv_iconst (v := 1) hx hb dX8_looksAtLabel_61 (by decide) ?_
    refine lv_isub hx hb dX8_looksAtLabel_62 ?_
    refine k_nrm (y := (nI (ns - 1))) (pk_sub (b := 1) (by omega)) ?_
    refine lv_imul hx hb dX8_looksAtLabel_63 ?_
    refine k_nrm (y := (10 * nI (ns - 1))) (rfl) ?_
    refine lv_idiv hx hb dX8_looksAtLabel_64 (ll_ne h13 h41) ?_
    refine k_nrm (y := ((10 * widF nd df (nI ns) (nI i) + zf i) * (lf * (nI (ns - 1) - nI i) + rt * nI i) / (10 * nI (ns - 1)))) (rfl) ?_
    refine lv_istore (lv' := [(6, .int ((10 * widF nd df (nI ns) (nI i) + zf i) * (lf * (nI (ns - 1) - nI i) + rt * nI i) / (10 * nI (ns - 1)))), (5, .int (nI i)), (4, .int (nI ns)), (0, .ref mo), (1, .int lf), (2, .int rt), (3, .int b)]) hx hb dX8_looksAtLabel_65 hl (by decide) rfl (fun ls hl => ?_)
    refine lv_aload_n hx hb dX8_looksAtLabel_67 rfl (lv_at hl 3 rfl) ?_
    refine va_get (D := D) (ci := 8) (v := .ref mk) (C := RX8) (T := TX8) (N := 12) hx hb ht inA_X8 hown hK hP 1 rfl rfl 5 (by decide) (ht _ lf_X8_17) (fun _ h9 => h9) rfl dX8_looksAtLabel_68 ?_
    refine lv_iload_n hx hb dX8_looksAtLabel_71 rfl (lv_at hl 6 rfl) ?_
    refine lv_if_eq (tgt := 85) hx hb dX8_looksAtLabel_72 (by decide) (fun c_6 => ?_) (fun c_6 => ?_)
    · have hc9 := c_6
      refine lv_iload hx hb dX8_looksAtLabel_85 (lv_at hl 1 rfl) ?_
      refine k_nrm (y := nI (llP ns b i)) (by unfold llP; rw [if_pos c_6]) ?_
      refine lv_iload hx hb dX8_looksAtLabel_87 (lv_at hl 0 rfl) ?_
      refine lv_iconst (v := 1) hx hb dX8_looksAtLabel_89 (by decide) ?_
      refine lv_icmp_ge (tgt := 97) hx hb dX8_looksAtLabel_90 (by decide) (fun c_7 => ?_) (fun c_7 => ?_)
      · have hc9 := c_7
        refine lv_iload hx hb dX8_looksAtLabel_97 (lv_at hl 0 rfl) ?_
        refine k_nrm (y := (timF nd df (nI ns) (nI i) (zf i) lf rt)) (ll_2 h13 h41 c_7) ?_
        refine va_iast hx hb hK hP hD hS 0 0 rfl rfl (vp_in_nI (llP_lt hik h41) (by decide)) dX8_looksAtLabel_99 (fun H locs hP hD hS => ?_)
        have hP : va_P D vwCl [(mk, .inl (K, 41, .inl (upd lg ((nI (llP ns b i)).toNatClampNeg) (timF nd df (nI ns) (nI i) (zf i) lf rt)))), (mo, .inr (8, [.ref ms, .int sv, .ref mb, .int ty, .int th, .ref mk, .int (nI ns), .ref mfd, .int mf, .int sp, .int on, .int tw])), (ms, .inl (K, 889, .inl sf))] H := hP
        have hD : va_D A [(mk, .inl (K, 41, .inl (upd lg ((nI (llP ns b i)).toNatClampNeg) (timF nd df (nI ns) (nI i) (zf i) lf rt)))), (mo, .inr (8, [.ref ms, .int sv, .ref mb, .int ty, .int th, .ref mk, .int (nI ns), .ref mfd, .int mf, .int sp, .int on, .int tw])), (ms, .inl (K, 889, .inl sf))] := hD
        have hf9 : upd lg ((nI (llP ns b i)).toNatClampNeg) (timF nd df (nI ns) (nI i) (zf i) lf rt) = (upd lg (llP ns b i) (timF nd df (nI ns) (nI i) (zf i) lf rt)) := by rw [nI_clamp (llP_lt2 hik h41)]
        rw [hf9] at hP hD
        have hP : va_P D vwCl [(mk, .inl (K, 41, .inl (upd lg (llP ns b i) (timF nd df (nI ns) (nI i) (zf i) lf rt)))), (mo, .inr (8, [.ref ms, .int sv, .ref mb, .int ty, .int th, .ref mk, .int (nI ns), .ref mfd, .int mf, .int sp, .int on, .int tw])), (ms, .inl (K, 889, .inl sf))] H := hP
        have hD : va_D A [(mk, .inl (K, 41, .inl (upd lg (llP ns b i) (timF nd df (nI ns) (nI i) (zf i) lf rt)))), (mo, .inr (8, [.ref ms, .int sv, .ref mb, .int ty, .int th, .ref mk, .int (nI ns), .ref mfd, .int mf, .int sp, .int on, .int tw])), (ms, .inl (K, 889, .inl sf))] := hD
        obtain ⟨x_8, ex_8⟩ : ∃ z : Int32, z = (nI i) + 1 := ⟨_, rfl⟩
        refine lv_iinc (v := x_8) (lv' := [(5, .int x_8), (6, .int ((10 * widF nd df (nI ns) (nI i) + zf i) * (lf * (nI (ns - 1) - nI i) + rt * nI i) / (10 * nI (ns - 1)))), (4, .int (nI ns)), (0, .ref mo), (1, .int lf), (2, .int rt), (3, .int b)]) hx hb dX8_looksAtLabel_100 hl (k := 1) rfl (by rw [ex_8]; rfl) (by decide) rfl (fun ls hl => ?_)
        refine lv_goto (tgt := 15) hx hb dX8_looksAtLabel_103 (by decide) ?_
        have he9 : x_8 = (nI (i + 1)) := by rw [ex_8]; exact nI_1 i
        rw [he9] at hl
        have hl : lv_has ls 7 [(5, .int (nI (i + 1))), (6, .int ((10 * widF nd df (nI ns) (nI i) + zf i) * (lf * (nI (ns - 1) - nI i) + rt * nI i) / (10 * nI (ns - 1)))), (4, .int (nI ns)), (0, .ref mo), (1, .int lf), (2, .int rt), (3, .int b)] := hl
        exact ih9 ((i + 1, (upd lg (llP ns b i) (timF nd df (nI ns) (nI i) (zf i) lf rt)))) H locs ls (by omega) ⟨hik, (ll_s (fun m9 => timF nd df (nI ns) (nI m9) (zf m9) lf rt) hlk hik), hP.sub [1, 2, 0] rfl, hD.sub [1, 2, 0] (by decide) rfl, hS, lv_sub hl [0, 2, 3, 4, 5, 6] rfl⟩
      · have hc9 := c_7
        refine lv_iconst (v := 1) hx hb dX8_looksAtLabel_93 (by decide) ?_
        refine lv_goto (tgt := 99) hx hb dX8_looksAtLabel_94 (by decide) ?_
        refine k_nrm (y := (timF nd df (nI ns) (nI i) (zf i) lf rt)) (ll_1 h13 h41 c_7) ?_
        refine va_iast hx hb hK hP hD hS 0 0 rfl rfl (vp_in_nI (llP_lt hik h41) (by decide)) dX8_looksAtLabel_99 (fun H locs hP hD hS => ?_)
        have hP : va_P D vwCl [(mk, .inl (K, 41, .inl (upd lg ((nI (llP ns b i)).toNatClampNeg) (timF nd df (nI ns) (nI i) (zf i) lf rt)))), (mo, .inr (8, [.ref ms, .int sv, .ref mb, .int ty, .int th, .ref mk, .int (nI ns), .ref mfd, .int mf, .int sp, .int on, .int tw])), (ms, .inl (K, 889, .inl sf))] H := hP
        have hD : va_D A [(mk, .inl (K, 41, .inl (upd lg ((nI (llP ns b i)).toNatClampNeg) (timF nd df (nI ns) (nI i) (zf i) lf rt)))), (mo, .inr (8, [.ref ms, .int sv, .ref mb, .int ty, .int th, .ref mk, .int (nI ns), .ref mfd, .int mf, .int sp, .int on, .int tw])), (ms, .inl (K, 889, .inl sf))] := hD
        have hf9 : upd lg ((nI (llP ns b i)).toNatClampNeg) (timF nd df (nI ns) (nI i) (zf i) lf rt) = (upd lg (llP ns b i) (timF nd df (nI ns) (nI i) (zf i) lf rt)) := by rw [nI_clamp (llP_lt2 hik h41)]
        rw [hf9] at hP hD
        have hP : va_P D vwCl [(mk, .inl (K, 41, .inl (upd lg (llP ns b i) (timF nd df (nI ns) (nI i) (zf i) lf rt)))), (mo, .inr (8, [.ref ms, .int sv, .ref mb, .int ty, .int th, .ref mk, .int (nI ns), .ref mfd, .int mf, .int sp, .int on, .int tw])), (ms, .inl (K, 889, .inl sf))] H := hP
        have hD : va_D A [(mk, .inl (K, 41, .inl (upd lg (llP ns b i) (timF nd df (nI ns) (nI i) (zf i) lf rt)))), (mo, .inr (8, [.ref ms, .int sv, .ref mb, .int ty, .int th, .ref mk, .int (nI ns), .ref mfd, .int mf, .int sp, .int on, .int tw])), (ms, .inl (K, 889, .inl sf))] := hD
        obtain ⟨x_9, ex_9⟩ : ∃ z : Int32, z = (nI i) + 1 := ⟨_, rfl⟩
        refine lv_iinc (v := x_9) (lv' := [(5, .int x_9), (6, .int ((10 * widF nd df (nI ns) (nI i) + zf i) * (lf * (nI (ns - 1) - nI i) + rt * nI i) / (10 * nI (ns - 1)))), (4, .int (nI ns)), (0, .ref mo), (1, .int lf), (2, .int rt), (3, .int b)]) hx hb dX8_looksAtLabel_100 hl (k := 1) rfl (by rw [ex_9]; rfl) (by decide) rfl (fun ls hl => ?_)
        refine lv_goto (tgt := 15) hx hb dX8_looksAtLabel_103 (by decide) ?_
        have he9 : x_9 = (nI (i + 1)) := by rw [ex_9]; exact nI_1 i
        rw [he9] at hl
        have hl : lv_has ls 7 [(5, .int (nI (i + 1))), (6, .int ((10 * widF nd df (nI ns) (nI i) + zf i) * (lf * (nI (ns - 1) - nI i) + rt * nI i) / (10 * nI (ns - 1)))), (4, .int (nI ns)), (0, .ref mo), (1, .int lf), (2, .int rt), (3, .int b)] := hl
        exact ih9 ((i + 1, (upd lg (llP ns b i) (timF nd df (nI ns) (nI i) (zf i) lf rt)))) H locs ls (by omega) ⟨hik, (ll_s (fun m9 => timF nd df (nI ns) (nI m9) (zf m9) lf rt) hlk hik), hP.sub [1, 2, 0] rfl, hD.sub [1, 2, 0] (by decide) rfl, hS, lv_sub hl [0, 2, 3, 4, 5, 6] rfl⟩
    · have hc9 := c_6
      refine lv_iload hx hb dX8_looksAtLabel_75 (lv_at hl 2 rfl) ?_
      refine lv_iconst (v := 1) hx hb dX8_looksAtLabel_77 (by decide) ?_
      refine lv_isub hx hb dX8_looksAtLabel_78 ?_
      refine k_nrm (y := (nI (ns - 1))) (pk_sub (b := 1) (by omega)) ?_
      refine lv_iload hx hb dX8_looksAtLabel_79 (lv_at hl 1 rfl) ?_
      refine lv_isub hx hb dX8_looksAtLabel_81 ?_
      refine k_nrm (y := (nI (ns - 1 - i))) (pk_sub (by omega)) ?_
      refine lv_goto (tgt := 87) hx hb dX8_looksAtLabel_82 (by decide) ?_
      refine k_nrm (y := nI (llP ns b i)) (by unfold llP; rw [if_neg c_6]) ?_
      refine lv_iload hx hb dX8_looksAtLabel_87 (lv_at hl 0 rfl) ?_
      refine lv_iconst (v := 1) hx hb dX8_looksAtLabel_89 (by decide) ?_
      refine lv_icmp_ge (tgt := 97) hx hb dX8_looksAtLabel_90 (by decide) (fun c_10 => ?_) (fun c_10 => ?_)
      · have hc9 := c_10
        refine lv_iload hx hb dX8_looksAtLabel_97 (lv_at hl 0 rfl) ?_
        refine k_nrm (y := (timF nd df (nI ns) (nI i) (zf i) lf rt)) (ll_2 h13 h41 c_10) ?_
        refine va_iast hx hb hK hP hD hS 0 0 rfl rfl (vp_in_nI (llP_lt hik h41) (by decide)) dX8_looksAtLabel_99 (fun H locs hP hD hS => ?_)
        have hP : va_P D vwCl [(mk, .inl (K, 41, .inl (upd lg ((nI (llP ns b i)).toNatClampNeg) (timF nd df (nI ns) (nI i) (zf i) lf rt)))), (mo, .inr (8, [.ref ms, .int sv, .ref mb, .int ty, .int th, .ref mk, .int (nI ns), .ref mfd, .int mf, .int sp, .int on, .int tw])), (ms, .inl (K, 889, .inl sf))] H := hP
        have hD : va_D A [(mk, .inl (K, 41, .inl (upd lg ((nI (llP ns b i)).toNatClampNeg) (timF nd df (nI ns) (nI i) (zf i) lf rt)))), (mo, .inr (8, [.ref ms, .int sv, .ref mb, .int ty, .int th, .ref mk, .int (nI ns), .ref mfd, .int mf, .int sp, .int on, .int tw])), (ms, .inl (K, 889, .inl sf))] := hD
        have hf9 : upd lg ((nI (llP ns b i)).toNatClampNeg) (timF nd df (nI ns) (nI i) (zf i) lf rt) = (upd lg (llP ns b i) (timF nd df (nI ns) (nI i) (zf i) lf rt)) := by rw [nI_clamp (llP_lt2 hik h41)]
        rw [hf9] at hP hD
        have hP : va_P D vwCl [(mk, .inl (K, 41, .inl (upd lg (llP ns b i) (timF nd df (nI ns) (nI i) (zf i) lf rt)))), (mo, .inr (8, [.ref ms, .int sv, .ref mb, .int ty, .int th, .ref mk, .int (nI ns), .ref mfd, .int mf, .int sp, .int on, .int tw])), (ms, .inl (K, 889, .inl sf))] H := hP
        have hD : va_D A [(mk, .inl (K, 41, .inl (upd lg (llP ns b i) (timF nd df (nI ns) (nI i) (zf i) lf rt)))), (mo, .inr (8, [.ref ms, .int sv, .ref mb, .int ty, .int th, .ref mk, .int (nI ns), .ref mfd, .int mf, .int sp, .int on, .int tw])), (ms, .inl (K, 889, .inl sf))] := hD
        obtain ⟨x_11, ex_11⟩ : ∃ z : Int32, z = (nI i) + 1 := ⟨_, rfl⟩
        refine lv_iinc (v := x_11) (lv' := [(5, .int x_11), (6, .int ((10 * widF nd df (nI ns) (nI i) + zf i) * (lf * (nI (ns - 1) - nI i) + rt * nI i) / (10 * nI (ns - 1)))), (4, .int (nI ns)), (0, .ref mo), (1, .int lf), (2, .int rt), (3, .int b)]) hx hb dX8_looksAtLabel_100 hl (k := 1) rfl (by rw [ex_11]; rfl) (by decide) rfl (fun ls hl => ?_)
        refine lv_goto (tgt := 15) hx hb dX8_looksAtLabel_103 (by decide) ?_
        have he9 : x_11 = (nI (i + 1)) := by rw [ex_11]; exact nI_1 i
        rw [he9] at hl
        have hl : lv_has ls 7 [(5, .int (nI (i + 1))), (6, .int ((10 * widF nd df (nI ns) (nI i) + zf i) * (lf * (nI (ns - 1) - nI i) + rt * nI i) / (10 * nI (ns - 1)))), (4, .int (nI ns)), (0, .ref mo), (1, .int lf), (2, .int rt), (3, .int b)] := hl
        exact ih9 ((i + 1, (upd lg (llP ns b i) (timF nd df (nI ns) (nI i) (zf i) lf rt)))) H locs ls (by omega) ⟨hik, (ll_s (fun m9 => timF nd df (nI ns) (nI m9) (zf m9) lf rt) hlk hik), hP.sub [1, 2, 0] rfl, hD.sub [1, 2, 0] (by decide) rfl, hS, lv_sub hl [0, 2, 3, 4, 5, 6] rfl⟩
      · have hc9 := c_10
        refine lv_iconst (v := 1) hx hb dX8_looksAtLabel_93 (by decide) ?_
        refine lv_goto (tgt := 99) hx hb dX8_looksAtLabel_94 (by decide) ?_
        refine k_nrm (y := (timF nd df (nI ns) (nI i) (zf i) lf rt)) (ll_1 h13 h41 c_10) ?_
        refine va_iast hx hb hK hP hD hS 0 0 rfl rfl (vp_in_nI (llP_lt hik h41) (by decide)) dX8_looksAtLabel_99 (fun H locs hP hD hS => ?_)
        have hP : va_P D vwCl [(mk, .inl (K, 41, .inl (upd lg ((nI (llP ns b i)).toNatClampNeg) (timF nd df (nI ns) (nI i) (zf i) lf rt)))), (mo, .inr (8, [.ref ms, .int sv, .ref mb, .int ty, .int th, .ref mk, .int (nI ns), .ref mfd, .int mf, .int sp, .int on, .int tw])), (ms, .inl (K, 889, .inl sf))] H := hP
        have hD : va_D A [(mk, .inl (K, 41, .inl (upd lg ((nI (llP ns b i)).toNatClampNeg) (timF nd df (nI ns) (nI i) (zf i) lf rt)))), (mo, .inr (8, [.ref ms, .int sv, .ref mb, .int ty, .int th, .ref mk, .int (nI ns), .ref mfd, .int mf, .int sp, .int on, .int tw])), (ms, .inl (K, 889, .inl sf))] := hD
        have hf9 : upd lg ((nI (llP ns b i)).toNatClampNeg) (timF nd df (nI ns) (nI i) (zf i) lf rt) = (upd lg (llP ns b i) (timF nd df (nI ns) (nI i) (zf i) lf rt)) := by rw [nI_clamp (llP_lt2 hik h41)]
        rw [hf9] at hP hD
        have hP : va_P D vwCl [(mk, .inl (K, 41, .inl (upd lg (llP ns b i) (timF nd df (nI ns) (nI i) (zf i) lf rt)))), (mo, .inr (8, [.ref ms, .int sv, .ref mb, .int ty, .int th, .ref mk, .int (nI ns), .ref mfd, .int mf, .int sp, .int on, .int tw])), (ms, .inl (K, 889, .inl sf))] H := hP
        have hD : va_D A [(mk, .inl (K, 41, .inl (upd lg (llP ns b i) (timF nd df (nI ns) (nI i) (zf i) lf rt)))), (mo, .inr (8, [.ref ms, .int sv, .ref mb, .int ty, .int th, .ref mk, .int (nI ns), .ref mfd, .int mf, .int sp, .int on, .int tw])), (ms, .inl (K, 889, .inl sf))] := hD
        obtain ⟨x_12, ex_12⟩ : ∃ z : Int32, z = (nI i) + 1 := ⟨_, rfl⟩
        refine lv_iinc (v := x_12) (lv' := [(5, .int x_12), (6, .int ((10 * widF nd df (nI ns) (nI i) + zf i) * (lf * (nI (ns - 1) - nI i) + rt * nI i) / (10 * nI (ns - 1)))), (4, .int (nI ns)), (0, .ref mo), (1, .int lf), (2, .int rt), (3, .int b)]) hx hb dX8_looksAtLabel_100 hl (k := 1) rfl (by rw [ex_12]; rfl) (by decide) rfl (fun ls hl => ?_)
        refine lv_goto (tgt := 15) hx hb dX8_looksAtLabel_103 (by decide) ?_
        have he9 : x_12 = (nI (i + 1)) := by rw [ex_12]; exact nI_1 i
        rw [he9] at hl
        have hl : lv_has ls 7 [(5, .int (nI (i + 1))), (6, .int ((10 * widF nd df (nI ns) (nI i) + zf i) * (lf * (nI (ns - 1) - nI i) + rt * nI i) / (10 * nI (ns - 1)))), (4, .int (nI ns)), (0, .ref mo), (1, .int lf), (2, .int rt), (3, .int b)] := hl
        exact ih9 ((i + 1, (upd lg (llP ns b i) (timF nd df (nI ns) (nI i) (zf i) lf rt)))) H locs ls (by omega) ⟨hik, (ll_s (fun m9 => timF nd df (nI ns) (nI m9) (zf m9) lf rt) hlk hik), hP.sub [1, 2, 0] rfl, hD.sub [1, 2, 0] (by decide) rfl, hS, lv_sub hl [0, 2, 3, 4, 5, 6] rfl⟩
