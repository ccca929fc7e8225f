theorem lk_X4_copyFrom : Cond.code yX4_copyFrom cX4_copyFrom 3 none ∈ wsA := mA 253 rfl rfl
theorem ly_X4_copyFrom : k_y yX4_copyFrom 1 := ⟨by decide +kernel, by decide +kernel, by decide +kernel⟩
theorem lm_X4_copyFrom : Cond.instanceMethod yX4_copyFrom ∈ wsA := mA 251 rfl rfl
theorem le_X4_copyFrom : Cond.selects (yX4_copyFrom).cls yX4_copyFrom yX4_copyFrom ∈ wsA := mA 252 rfl rfl
theorem Lv_X2_66 : k_LV RX2 66 yX4_copyFrom cX4_copyFrom 3 none 1 := ⟨mA 250 rfl rfl, lm_X4_copyFrom, le_X4_copyFrom, li_BarcodeWand_Row, lk_X4_copyFrom, ly_X4_copyFrom⟩
theorem Lv_X0_48 : k_LV RX0 48 yX4_copyFrom cX4_copyFrom 3 none 1 := ⟨mA 271 rfl rfl, lm_X4_copyFrom, le_X4_copyFrom, li_BarcodeWand_Row, lk_X4_copyFrom, ly_X4_copyFrom⟩
theorem lk_X2_copyFrom : Cond.code yX2_copyFrom cX2_copyFrom 2 none ∈ wsA := mA 249 rfl rfl
theorem ly_X2_copyFrom : k_y yX2_copyFrom 1 := ⟨by decide +kernel, by decide +kernel, by decide +kernel⟩
theorem lm_X2_copyFrom : Cond.instanceMethod yX2_copyFrom ∈ wsA := mA 247 rfl rfl
theorem le_X2_copyFrom : Cond.selects (yX2_copyFrom).cls yX2_copyFrom yX2_copyFrom ∈ wsA := mA 248 rfl rfl
theorem Lv_X6_38 : k_LV RX6 38 yX2_copyFrom cX2_copyFrom 2 none 1 := ⟨mA 246 rfl rfl, lm_X2_copyFrom, le_X2_copyFrom, li_BarcodeWand_Label, lk_X2_copyFrom, ly_X2_copyFrom⟩
theorem Lv_X6_42 : k_LV RX6 42 yX4_copyFrom cX4_copyFrom 3 none 1 := ⟨mA 266 rfl rfl, lm_X4_copyFrom, le_X4_copyFrom, li_BarcodeWand_Row, lk_X4_copyFrom, ly_X4_copyFrom⟩
theorem lk_X0_copyFrom : Cond.code yX0_copyFrom cX0_copyFrom 2 none ∈ wsA := mA 270 rfl rfl
theorem ly_X0_copyFrom : k_y yX0_copyFrom 1 := ⟨by decide +kernel, by decide +kernel, by decide +kernel⟩
theorem lm_X0_copyFrom : Cond.instanceMethod yX0_copyFrom ∈ wsA := mA 268 rfl rfl
theorem le_X0_copyFrom : Cond.selects (yX0_copyFrom).cls yX0_copyFrom yX0_copyFrom ∈ wsA := mA 269 rfl rfl
theorem Lv_X6_45 : k_LV RX6 45 yX0_copyFrom cX0_copyFrom 2 none 1 := ⟨mA 267 rfl rfl, lm_X0_copyFrom, le_X0_copyFrom, li_BarcodeWand_CodeList, lk_X0_copyFrom, ly_X0_copyFrom⟩
theorem lf_X6_48 : Cond.fieldLink RX6 48 "BarcodeWand$State" "successes" "I" ∈ wsA := mA 94 rfl rfl
theorem lf_X6_51 : Cond.fieldLink RX6 51 "BarcodeWand$State" "failures" "I" ∈ wsA := mA 96 rfl rfl
theorem lk_X6_copyFrom : Cond.code yX6_copyFrom cX6_copyFrom 2 none ∈ wsA := mA 245 rfl rfl
theorem ly_X6_copyFrom : k_y yX6_copyFrom 1 := ⟨by decide +kernel, by decide +kernel, by decide +kernel⟩
theorem lm_X6_copyFrom : Cond.instanceMethod yX6_copyFrom ∈ wsA := mA 243 rfl rfl
theorem le_X6_copyFrom : Cond.selects (yX6_copyFrom).cls yX6_copyFrom yX6_copyFrom ∈ wsA := mA 244 rfl rfl
theorem Lv_X5_42 : k_LV RX5 42 yX6_copyFrom cX6_copyFrom 2 none 1 := ⟨mA 242 rfl rfl, lm_X6_copyFrom, le_X6_copyFrom, li_BarcodeWand_State, lk_X6_copyFrom, ly_X6_copyFrom⟩
theorem lf_X5_22 : Cond.fieldLink RX5 22 "BarcodeWand$SavedStates" "next" "I" ∈ wsA := mA 121 rfl rfl
theorem li_BarcodeWand_SavedStates : Cond.initialized "BarcodeWand$SavedStates" ∈ wsA := mA 7 rfl rfl
theorem lk_X5_stateAt : Cond.code yX5_stateAt cX5_stateAt 2 (some (.object "BarcodeWand$State")) ∈ wsA := mA 238 rfl rfl
theorem ly_X5_stateAt : k_y yX5_stateAt 1 := ⟨by decide +kernel, by decide +kernel, by decide +kernel⟩
theorem lm_X5_stateAt : Cond.instanceMethod yX5_stateAt ∈ wsA := mA 237 rfl rfl
theorem le_X5_stateAt : Cond.selects (yX5_stateAt).cls yX5_stateAt yX5_stateAt ∈ wsA := mS 0 rfl rfl
theorem Lv_X5_25 : k_LV RX5 25 yX5_stateAt cX5_stateAt 2 (some (.object "BarcodeWand$State")) 1 := ⟨mA 235 rfl rfl, lm_X5_stateAt, le_X5_stateAt, li_BarcodeWand_SavedStates, lk_X5_stateAt, ly_X5_stateAt⟩
theorem lk_X5_copy : Cond.code yX5_copy cX5_copy 2 none ∈ wsA := mA 241 rfl rfl
theorem ly_X5_copy : k_y yX5_copy 2 := ⟨by decide +kernel, by decide +kernel, by decide +kernel⟩
theorem ls_X5_copy : Cond.static yX5_copy ∈ wsA := mA 240 rfl rfl
theorem Ls_X5_29 : k_LS RX5 29 yX5_copy cX5_copy 2 none 2 := ⟨mA 239 rfl rfl, ls_X5_copy, li_BarcodeWand_SavedStates, lk_X5_copy, ly_X5_copy⟩
theorem lf_X5_18 : Cond.fieldLink RX5 18 "BarcodeWand$SavedStates" "kept" "I" ∈ wsA := mA 122 rfl rfl
theorem lM_X5_33 : Cond.methodLink RX5 33 Lib.Math.min.name ∈ wsA := mA 272 rfl rfl
theorem lM_st_min : Cond.static Lib.Math.min.name ∈ wsA := mA 273 rfl rfl
theorem lM_code_min : Cond.code Lib.Math.min.name Lib.Math.min.code 2 (some .int) ∈ wsA := mA 274 rfl rfl
theorem dX2_copyFrom_0 : decode cX2_copyFrom 0 = .ok (.aload_n 0, 1) := by decide +kernel
theorem dX2_copyFrom_1 : decode cX2_copyFrom 1 = .ok (.getfield 14, 3) := by decide +kernel
theorem dX2_copyFrom_4 : decode cX2_copyFrom 4 = .ok (.aload_n 1, 1) := by decide +kernel
theorem dX2_copyFrom_5 : decode cX2_copyFrom 5 = .ok (.getfield 14, 3) := by decide +kernel
theorem dX2_copyFrom_8 : decode cX2_copyFrom 8 = .ok (.invokevirtual 66, 3) := by decide +kernel
theorem dX2_copyFrom_11 : decode cX2_copyFrom 11 = .ok (.aload_n 0, 1) := by decide +kernel
theorem dX2_copyFrom_12 : decode cX2_copyFrom 12 = .ok (.getfield 20, 3) := by decide +kernel
theorem dX2_copyFrom_15 : decode cX2_copyFrom 15 = .ok (.aload_n 1, 1) := by decide +kernel
theorem dX2_copyFrom_16 : decode cX2_copyFrom 16 = .ok (.getfield 20, 3) := by decide +kernel
theorem dX2_copyFrom_19 : decode cX2_copyFrom 19 = .ok (.invokevirtual 66, 3) := by decide +kernel
theorem dX2_copyFrom_22 : decode cX2_copyFrom 22 = .ok (.return_, 1) := by decide +kernel
theorem dX0_copyFrom_0 : decode cX0_copyFrom 0 = .ok (.aload_n 0, 1) := by decide +kernel
theorem dX0_copyFrom_1 : decode cX0_copyFrom 1 = .ok (.getfield 14, 3) := by decide +kernel
theorem dX0_copyFrom_4 : decode cX0_copyFrom 4 = .ok (.aload_n 1, 1) := by decide +kernel
theorem dX0_copyFrom_5 : decode cX0_copyFrom 5 = .ok (.getfield 14, 3) := by decide +kernel
theorem dX0_copyFrom_8 : decode cX0_copyFrom 8 = .ok (.invokevirtual 48, 3) := by decide +kernel
theorem dX0_copyFrom_11 : decode cX0_copyFrom 11 = .ok (.aload_n 0, 1) := by decide +kernel
theorem dX0_copyFrom_12 : decode cX0_copyFrom 12 = .ok (.getfield 20, 3) := by decide +kernel
theorem dX0_copyFrom_15 : decode cX0_copyFrom 15 = .ok (.aload_n 1, 1) := by decide +kernel
theorem dX0_copyFrom_16 : decode cX0_copyFrom 16 = .ok (.getfield 20, 3) := by decide +kernel
theorem dX0_copyFrom_19 : decode cX0_copyFrom 19 = .ok (.invokevirtual 48, 3) := by decide +kernel
theorem dX0_copyFrom_22 : decode cX0_copyFrom 22 = .ok (.aload_n 0, 1) := by decide +kernel
theorem dX0_copyFrom_23 : decode cX0_copyFrom 23 = .ok (.getfield 23, 3) := by decide +kernel
theorem dX0_copyFrom_26 : decode cX0_copyFrom 26 = .ok (.aload_n 1, 1) := by decide +kernel
theorem dX0_copyFrom_27 : decode cX0_copyFrom 27 = .ok (.getfield 23, 3) := by decide +kernel
theorem dX0_copyFrom_30 : decode cX0_copyFrom 30 = .ok (.invokevirtual 48, 3) := by decide +kernel
theorem dX0_copyFrom_33 : decode cX0_copyFrom 33 = .ok (.return_, 1) := by decide +kernel
theorem dX6_copyFrom_0 : decode cX6_copyFrom 0 = .ok (.aload_n 0, 1) := by decide +kernel
theorem dX6_copyFrom_1 : decode cX6_copyFrom 1 = .ok (.getfield 12, 3) := by decide +kernel
theorem dX6_copyFrom_4 : decode cX6_copyFrom 4 = .ok (.aload_n 1, 1) := by decide +kernel
theorem dX6_copyFrom_5 : decode cX6_copyFrom 5 = .ok (.getfield 12, 3) := by decide +kernel
theorem dX6_copyFrom_8 : decode cX6_copyFrom 8 = .ok (.invokevirtual 38, 3) := by decide +kernel
theorem dX6_copyFrom_11 : decode cX6_copyFrom 11 = .ok (.aload_n 0, 1) := by decide +kernel
theorem dX6_copyFrom_12 : decode cX6_copyFrom 12 = .ok (.getfield 23, 3) := by decide +kernel
theorem dX6_copyFrom_15 : decode cX6_copyFrom 15 = .ok (.aload_n 1, 1) := by decide +kernel
theorem dX6_copyFrom_16 : decode cX6_copyFrom 16 = .ok (.getfield 23, 3) := by decide +kernel
theorem dX6_copyFrom_19 : decode cX6_copyFrom 19 = .ok (.invokevirtual 42, 3) := by decide +kernel
theorem dX6_copyFrom_22 : decode cX6_copyFrom 22 = .ok (.aload_n 0, 1) := by decide +kernel
theorem dX6_copyFrom_23 : decode cX6_copyFrom 23 = .ok (.getfield 30, 3) := by decide +kernel
theorem dX6_copyFrom_26 : decode cX6_copyFrom 26 = .ok (.aload_n 1, 1) := by decide +kernel
theorem dX6_copyFrom_27 : decode cX6_copyFrom 27 = .ok (.getfield 30, 3) := by decide +kernel
theorem dX6_copyFrom_30 : decode cX6_copyFrom 30 = .ok (.invokevirtual 45, 3) := by decide +kernel
theorem dX6_copyFrom_33 : decode cX6_copyFrom 33 = .ok (.aload_n 0, 1) := by decide +kernel
theorem dX6_copyFrom_34 : decode cX6_copyFrom 34 = .ok (.aload_n 1, 1) := by decide +kernel
theorem dX6_copyFrom_35 : decode cX6_copyFrom 35 = .ok (.getfield 34, 3) := by decide +kernel
theorem dX6_copyFrom_38 : decode cX6_copyFrom 38 = .ok (.putfield 34, 3) := by decide +kernel
theorem dX6_copyFrom_41 : decode cX6_copyFrom 41 = .ok (.aload_n 0, 1) := by decide +kernel
theorem dX6_copyFrom_42 : decode cX6_copyFrom 42 = .ok (.aload_n 1, 1) := by decide +kernel
theorem dX6_copyFrom_43 : decode cX6_copyFrom 43 = .ok (.getfield 48, 3) := by decide +kernel
theorem dX6_copyFrom_46 : decode cX6_copyFrom 46 = .ok (.putfield 48, 3) := by decide +kernel
theorem dX6_copyFrom_49 : decode cX6_copyFrom 49 = .ok (.aload_n 0, 1) := by decide +kernel
theorem dX6_copyFrom_50 : decode cX6_copyFrom 50 = .ok (.aload_n 1, 1) := by decide +kernel
theorem dX6_copyFrom_51 : decode cX6_copyFrom 51 = .ok (.getfield 51, 3) := by decide +kernel
theorem dX6_copyFrom_54 : decode cX6_copyFrom 54 = .ok (.putfield 51, 3) := by decide +kernel
theorem dX6_copyFrom_57 : decode cX6_copyFrom 57 = .ok (.return_, 1) := by decide +kernel
theorem dX5_copy_0 : decode cX5_copy 0 = .ok (.aload_n 0, 1) := by decide +kernel
theorem dX5_copy_1 : decode cX5_copy 1 = .ok (.ifnull 12, 3) := by decide +kernel
theorem dX5_copy_4 : decode cX5_copy 4 = .ok (.aload_n 1, 1) := by decide +kernel
theorem dX5_copy_5 : decode cX5_copy 5 = .ok (.ifnull 8, 3) := by decide +kernel
theorem dX5_copy_8 : decode cX5_copy 8 = .ok (.aload_n 1, 1) := by decide +kernel
theorem dX5_copy_9 : decode cX5_copy 9 = .ok (.aload_n 0, 1) := by decide +kernel
theorem dX5_copy_10 : decode cX5_copy 10 = .ok (.invokevirtual 42, 3) := by decide +kernel
theorem dX5_copy_13 : decode cX5_copy 13 = .ok (.return_, 1) := by decide +kernel
theorem dX5_stateAt_0 : decode cX5_stateAt 0 = .ok (.iload_n 1, 1) := by decide +kernel
theorem dX5_stateAt_1 : decode cX5_stateAt 1 = .ok (.ifCond .lt 21, 3) := by decide +kernel
theorem dX5_stateAt_4 : decode cX5_stateAt 4 = .ok (.iload_n 1, 1) := by decide +kernel
theorem dX5_stateAt_5 : decode cX5_stateAt 5 = .ok (.aload_n 0, 1) := by decide +kernel
theorem dX5_stateAt_6 : decode cX5_stateAt 6 = .ok (.getfield 11, 3) := by decide +kernel
theorem dX5_stateAt_9 : decode cX5_stateAt 9 = .ok (.arraylength, 1) := by decide +kernel
theorem dX5_stateAt_10 : decode cX5_stateAt 10 = .ok (.if_icmp .ge 12, 3) := by decide +kernel
theorem dX5_stateAt_13 : decode cX5_stateAt 13 = .ok (.aload_n 0, 1) := by decide +kernel
theorem dX5_stateAt_14 : decode cX5_stateAt 14 = .ok (.getfield 11, 3) := by decide +kernel
theorem dX5_stateAt_17 : decode cX5_stateAt 17 = .ok (.iload_n 1, 1) := by decide +kernel
theorem dX5_stateAt_18 : decode cX5_stateAt 18 = .ok (.aaload, 1) := by decide +kernel
theorem dX5_stateAt_19 : decode cX5_stateAt 19 = .ok (.goto 4, 3) := by decide +kernel
theorem dX5_stateAt_22 : decode cX5_stateAt 22 = .ok (.aconst_null, 1) := by decide +kernel
theorem dX5_stateAt_23 : decode cX5_stateAt 23 = .ok (.areturn, 1) := by decide +kernel
theorem dX5_save_0 : decode cX5_save 0 = .ok (.aload_n 1, 1) := by decide +kernel
theorem dX5_save_1 : decode cX5_save 1 = .ok (.aload_n 0, 1) := by decide +kernel
theorem dX5_save_2 : decode cX5_save 2 = .ok (.aload_n 0, 1) := by decide +kernel
theorem dX5_save_3 : decode cX5_save 3 = .ok (.getfield 22, 3) := by decide +kernel
theorem dX5_save_6 : decode cX5_save 6 = .ok (.invokevirtual 25, 3) := by decide +kernel
theorem dX5_save_9 : decode cX5_save 9 = .ok (.invokestatic 29, 3) := by decide +kernel
theorem dX5_save_12 : decode cX5_save 12 = .ok (.aload_n 0, 1) := by decide +kernel
theorem dX5_save_13 : decode cX5_save 13 = .ok (.aload_n 0, 1) := by decide +kernel
theorem dX5_save_14 : decode cX5_save 14 = .ok (.getfield 22, 3) := by decide +kernel
theorem dX5_save_17 : decode cX5_save 17 = .ok (.iconst 1, 1) := by decide +kernel
theorem dX5_save_18 : decode cX5_save 18 = .ok (.iadd, 1) := by decide +kernel
theorem dX5_save_19 : decode cX5_save 19 = .ok (.bipush 6, 2) := by decide +kernel
theorem dX5_save_21 : decode cX5_save 21 = .ok (.irem, 1) := by decide +kernel
theorem dX5_save_22 : decode cX5_save 22 = .ok (.putfield 22, 3) := by decide +kernel
theorem dX5_save_25 : decode cX5_save 25 = .ok (.aload_n 0, 1) := by decide +kernel
theorem dX5_save_26 : decode cX5_save 26 = .ok (.aload_n 0, 1) := by decide +kernel
theorem dX5_save_27 : decode cX5_save 27 = .ok (.getfield 18, 3) := by decide +kernel
theorem dX5_save_30 : decode cX5_save 30 = .ok (.iconst 1, 1) := by decide +kernel
theorem dX5_save_31 : decode cX5_save 31 = .ok (.iadd, 1) := by decide +kernel
theorem dX5_save_32 : decode cX5_save 32 = .ok (.bipush 6, 2) := by decide +kernel
theorem dX5_save_34 : decode cX5_save 34 = .ok (.invokestatic 33, 3) := by decide +kernel
theorem dX5_save_37 : decode cX5_save 37 = .ok (.putfield 18, 3) := by decide +kernel
theorem dX5_save_40 : decode cX5_save 40 = .ok (.return_, 1) := by decide +kernel
theorem dX5_size_0 : decode cX5_size 0 = .ok (.aload_n 0, 1) := by decide +kernel
theorem dX5_size_1 : decode cX5_size 1 = .ok (.getfield 18, 3) := by decide +kernel
theorem dX5_size_4 : decode cX5_size 4 = .ok (.ireturn, 1) := by decide +kernel
set_option maxHeartbeats 4000000 in
set_option maxRecDepth 100000 in
theorem c_Label_copy0 (l : Launch) (D : va_G) (zla : Nat) (zld : Nat) (zlz : Nat) (zldA : Nat) (zldN : Int32) (zlzA : Nat) (zlzN : Int32) (la : Nat) (ld : Nat) (lz : Nat) (ldA : Nat) (lzA : Nat) (sz : Nat) : k_Mv (S := Unit) l D yX2_copyFrom cX2_copyFrom 2 none 2 0 0 42 [.ref zla, .ref la] [(zla, .inr (2, [.ref zld, .ref zlz])), (zld, .inr (4, [.ref zldA, .int zldN])), (zlz, .inr (4, [.ref zlzA, .int zlzN])), (la, .inr (2, [.ref ld, .ref lz])), (ld, .inr (4, [.ref ldA, .int 0])), (lz, .inr (4, [.ref lzA, .int 0]))] [] (fun (_ : Unit) => True) (fun _ => [(zla, .inr (2, [.ref zld, .ref zlz])), (zld, .inr (4, [.ref zldA, .int 0])), (zlz, .inr (4, [.ref zlzA, .int 0])), (la, .inr (2, [.ref ld, .ref lz])), (ld, .inr (4, [.ref ldA, .int 0])), (lz, .inr (4, [.ref lzA, .int 0]))]) (fun _ => []) sz := by
  refine Met.ofW (cc := cX2_copyFrom) (maxL := 2) (ret := none) (by decide) rfl ?_
  intro p e s m args below meth c s₁ B hml hv
  obtain ⟨rfl, hsz, hP, hK, hD0, hG⟩ := hv
  have hx := B.exec
  have hb := B.bytes
  have hr := B.returns
  have ht : ∀ v9 ∈ wsA, v9.before ([.ref zla, .ref la] : List Value).toArray s = true := fun v9 h9 => atoms_spec (ws := k_ws yX2_copyFrom cX2_copyFrom 2 none) B.pre v9 (List.mem_cons_of_mem _ h9)
  have hown : s.vm.findClass RX2 = some m.cls := findClass_of_methodNamed B.named
  have S0 : k_C p s m ([.ref zla, .ref la] : List Value).toArray c cX2_copyFrom 2 RX2 := ⟨hx, hb, hml, hown, ht⟩
  have hlocks := B.notSynchronized
  subst hsz
  have hD := hD0.self (sz := s.heap.size)
  generalize hAe : va_A [(zla, .inr (2, [.ref zld, .ref zlz])), (zld, .inr (4, [.ref zldA, .int zldN])), (zlz, .inr (4, [.ref zlzA, .int zlzN])), (la, .inr (2, [.ref ld, .ref lz])), (ld, .inr (4, [.ref ldA, .int 0])), (lz, .inr (4, [.ref lzA, .int 0]))] s.heap.size = A at hD hG ⊢
  have hA : ∀ q : Nat, s.heap.size ≤ q → A q := fun q h => by rw [← hAe]; exact Or.inr h
  have hS : va_S A s.heap s.heap [] := va_S.rf
  have hl := lv_entry ([.ref zla, .ref la]) (n := 2) (Nat.le_of_ble_eq_true rfl)
  rw [lg_entry_eq]
  generalize (lg_sl ([.ref zla, .ref la]) ++ List.replicate (2 - (lg_sl ([.ref zla, .ref la])).length) Slot.unset).toArray = ls at hl ⊢
  have hl : lv_has ls 2 [(0, .ref zla), (1, .ref la)] := hl
  have hP : va_P D vwCl [(zla, .inr (2, [.ref zld, .ref zlz])), (zld, .inr (4, [.ref zldA, .int zldN])), (zlz, .inr (4, [.ref zlzA, .int zlzN])), (la, .inr (2, [.ref ld, .ref lz])), (ld, .inr (4, [.ref ldA, .int 0])), (lz, .inr (4, [.ref lzA, .int 0]))] s.heap := hP
  refine lv_aload_n hx hb dX2_copyFrom_0 rfl (lv_at hl 0 rfl) ?_
  refine va_get (D := D) (ci := 2) (v := .ref zld) (C := RX2) (T := TX2) (N := 2) hx hb ht inA_X2 hown hK hP 0 rfl rfl 0 (by decide) (ht _ lf_X2_14) (fun _ h9 => h9) rfl dX2_copyFrom_1 ?_
  refine lv_aload_n hx hb dX2_copyFrom_4 rfl (lv_at hl 1 rfl) ?_
  refine va_get (D := D) (ci := 2) (v := .ref ld) (C := RX2) (T := TX2) (N := 2) hx hb ht inA_X2 hown hK hP 3 rfl rfl 0 (by decide) (ht _ lf_X2_14) (fun _ h9 => h9) rfl dX2_copyFrom_5 ?_
  have ct := k_cut_of (wc := [(zld, .inr (4, [.ref zldA, .int zldN])), (ld, .inr (4, [.ref ldA, .int 0]))]) (wr := [(zla, .inr (2, [.ref zld, .ref zlz])), (zlz, .inr (4, [.ref zlzA, .int zlzN])), (la, .inr (2, [.ref ld, .ref lz])), (lz, .inr (4, [.ref lzA, .int 0]))]) (tc := []) hG hS hA hK hP hD [1, 4] [0, 2, 3, 5] [] rfl rfl (by decide) (by decide) (by decide) rfl
  refine k_endv (As := [.ref zld, .ref ld]) ct (k_runV (As := [.ref ld]) (rest := []) S0 Lv_X2_66 rfl (ci := 4) (q0 := 0) rfl rfl ct (c_Row_copy0 l D zld zldA zldN ld ldA s.heap.size) hl.1 rfl (Nat.le_of_ble_eq_true rfl) rfl dX2_copyFrom_8 ⟨⟨Nat.le_of_ble_eq_true rfl, Nat.le_of_ble_eq_true rfl⟩, Nat.le_of_ble_eq_true rfl, Nat.le_of_ble_eq_true rfl⟩) rfl rfl (fun _ _ H locs hw_2 hP hD hK hS => ?_)
  have hK : va_K D vwCl [] s := hK
  have hP : va_P D vwCl [(zla, .inr (2, [.ref zld, .ref zlz])), (zlz, .inr (4, [.ref zlzA, .int zlzN])), (la, .inr (2, [.ref ld, .ref lz])), (lz, .inr (4, [.ref lzA, .int 0])), (zld, .inr (4, [.ref zldA, .int 0])), (ld, .inr (4, [.ref ldA, .int 0]))] H := hP
  have hD : va_D A [(zla, .inr (2, [.ref zld, .ref zlz])), (zlz, .inr (4, [.ref zlzA, .int zlzN])), (la, .inr (2, [.ref ld, .ref lz])), (lz, .inr (4, [.ref lzA, .int 0])), (zld, .inr (4, [.ref zldA, .int 0])), (ld, .inr (4, [.ref ldA, .int 0]))] := hD
  refine lv_aload_n hx hb dX2_copyFrom_11 rfl (lv_at hl 0 rfl) ?_
  refine va_get (D := D) (ci := 2) (v := .ref zlz) (C := RX2) (T := TX2) (N := 2) hx hb ht inA_X2 hown hK hP 0 rfl rfl 1 (by decide) (ht _ lf_X2_20) (fun _ h9 => h9) rfl dX2_copyFrom_12 ?_
  refine lv_aload_n hx hb dX2_copyFrom_15 rfl (lv_at hl 1 rfl) ?_
  refine va_get (D := D) (ci := 2) (v := .ref lz) (C := RX2) (T := TX2) (N := 2) hx hb ht inA_X2 hown hK hP 2 rfl rfl 1 (by decide) (ht _ lf_X2_20) (fun _ h9 => h9) rfl dX2_copyFrom_16 ?_
  have ct := k_cut_of (wc := [(zlz, .inr (4, [.ref zlzA, .int zlzN])), (lz, .inr (4, [.ref lzA, .int 0]))]) (wr := [(zla, .inr (2, [.ref zld, .ref zlz])), (la, .inr (2, [.ref ld, .ref lz])), (zld, .inr (4, [.ref zldA, .int 0])), (ld, .inr (4, [.ref ldA, .int 0]))]) (tc := []) hG hS hA hK hP hD [1, 3] [0, 2, 4, 5] [] rfl rfl (by decide) (by decide) (by decide) rfl
  refine k_endv (As := [.ref zlz, .ref lz]) ct (k_runV (As := [.ref lz]) (rest := []) S0 Lv_X2_66 rfl (ci := 4) (q0 := 0) rfl rfl ct (c_Row_copy0 l D zlz zlzA zlzN lz lzA H.size) hl.1 rfl (Nat.le_of_ble_eq_true rfl) rfl dX2_copyFrom_19 ⟨⟨Nat.le_of_ble_eq_true rfl, Nat.le_of_ble_eq_true rfl⟩, Nat.le_of_ble_eq_true rfl, Nat.le_of_ble_eq_true rfl⟩) rfl rfl (fun _ _ H locs hw_4 hP hD hK hS => ?_)
  have hK : va_K D vwCl [] s := hK
  have hP : va_P D vwCl [(zla, .inr (2, [.ref zld, .ref zlz])), (la, .inr (2, [.ref ld, .ref lz])), (zld, .inr (4, [.ref zldA, .int 0])), (ld, .inr (4, [.ref ldA, .int 0])), (zlz, .inr (4, [.ref zlzA, .int 0])), (lz, .inr (4, [.ref lzA, .int 0]))] H := hP
  have hD : va_D A [(zla, .inr (2, [.ref zld, .ref zlz])), (la, .inr (2, [.ref ld, .ref lz])), (zld, .inr (4, [.ref zldA, .int 0])), (ld, .inr (4, [.ref ldA, .int 0])), (zlz, .inr (4, [.ref zlzA, .int 0])), (lz, .inr (4, [.ref lzA, .int 0]))] := hD
  have hP9 : va_P D vwCl [(zla, .inr (2, [.ref zld, .ref zlz])), (zld, .inr (4, [.ref zldA, .int 0])), (zlz, .inr (4, [.ref zlzA, .int 0])), (la, .inr (2, [.ref ld, .ref lz])), (ld, .inr (4, [.ref ldA, .int 0])), (lz, .inr (4, [.ref lzA, .int 0]))] H := hP.sub [0, 2, 4, 1, 3, 5] rfl
  have hD9 : va_D A [(zla, .inr (2, [.ref zld, .ref zlz])), (zld, .inr (4, [.ref zldA, .int 0])), (zlz, .inr (4, [.ref zlzA, .int 0])), (la, .inr (2, [.ref ld, .ref lz])), (ld, .inr (4, [.ref ldA, .int 0])), (lz, .inr (4, [.ref lzA, .int 0]))] := hD.sub [0, 2, 4, 1, 3, 5] (by decide) rfl
  have hK9 : va_K D vwCl [] s := hK.sub [] rfl
  exact W.vret hx hb hr (fun t ht9 hW9 => ⟨⟨(), rfl, by first | rfl | trivial | (simp only [if_true, if_false, reduceIte, and_self]; done) | simp_all, ⟨by rw [ht9]; exact hP9, va_K.moved hW9.alike hK9, hD9⟩⟩, hS.F ht9⟩) hS.2.2 dX2_copyFrom_22
set_option maxHeartbeats 4000000 in
set_option maxRecDepth 100000 in
theorem c_CodeList_copy0 (l : Launch) (D : va_G) (zli : Nat) (zln : Nat) (zll : Nat) (zlc : Nat) (zlnA : Nat) (zlnN : Int32) (zllA : Nat) (zllN : Int32) (zlcA : Nat) (zlcN : Int32) (li : Nat) (ln : Nat) (ll : Nat) (lc : Nat) (lnA : Nat) (llA : Nat) (lcA : Nat) (sz : Nat) : k_Mv (S := Unit) l D yX0_copyFrom cX0_copyFrom 2 none 2 0 0 42 [.ref zli, .ref li] [(zli, .inr (0, [.ref zln, .ref zll, .ref zlc])), (zln, .inr (4, [.ref zlnA, .int zlnN])), (zll, .inr (4, [.ref zllA, .int zllN])), (zlc, .inr (4, [.ref zlcA, .int zlcN])), (li, .inr (0, [.ref ln, .ref ll, .ref lc])), (ln, .inr (4, [.ref lnA, .int 0])), (ll, .inr (4, [.ref llA, .int 0])), (lc, .inr (4, [.ref lcA, .int 0]))] [] (fun (_ : Unit) => True) (fun _ => [(zli, .inr (0, [.ref zln, .ref zll, .ref zlc])), (zln, .inr (4, [.ref zlnA, .int 0])), (zll, .inr (4, [.ref zllA, .int 0])), (zlc, .inr (4, [.ref zlcA, .int 0])), (li, .inr (0, [.ref ln, .ref ll, .ref lc])), (ln, .inr (4, [.ref lnA, .int 0])), (ll, .inr (4, [.ref llA, .int 0])), (lc, .inr (4, [.ref lcA, .int 0]))]) (fun _ => []) sz := by
  refine Met.ofW (cc := cX0_copyFrom) (maxL := 2) (ret := none) (by decide) rfl ?_
  intro p e s m args below meth c s₁ B hml hv
  obtain ⟨rfl, hsz, hP, hK, hD0, hG⟩ := hv
  have hx := B.exec
  have hb := B.bytes
  have hr := B.returns
  have ht : ∀ v9 ∈ wsA, v9.before ([.ref zli, .ref li] : List Value).toArray s = true := fun v9 h9 => atoms_spec (ws := k_ws yX0_copyFrom cX0_copyFrom 2 none) B.pre v9 (List.mem_cons_of_mem _ h9)
  have hown : s.vm.findClass RX0 = some m.cls := findClass_of_methodNamed B.named
  have S0 : k_C p s m ([.ref zli, .ref li] : List Value).toArray c cX0_copyFrom 2 RX0 := ⟨hx, hb, hml, hown, ht⟩
  have hlocks := B.notSynchronized
  subst hsz
  have hD := hD0.self (sz := s.heap.size)
  generalize hAe : va_A [(zli, .inr (0, [.ref zln, .ref zll, .ref zlc])), (zln, .inr (4, [.ref zlnA, .int zlnN])), (zll, .inr (4, [.ref zllA, .int zllN])), (zlc, .inr (4, [.ref zlcA, .int zlcN])), (li, .inr (0, [.ref ln, .ref ll, .ref lc])), (ln, .inr (4, [.ref lnA, .int 0])), (ll, .inr (4, [.ref llA, .int 0])), (lc, .inr (4, [.ref lcA, .int 0]))] s.heap.size = A at hD hG ⊢
  have hA : ∀ q : Nat, s.heap.size ≤ q → A q := fun q h => by rw [← hAe]; exact Or.inr h
  have hS : va_S A s.heap s.heap [] := va_S.rf
  have hl := lv_entry ([.ref zli, .ref li]) (n := 2) (Nat.le_of_ble_eq_true rfl)
  rw [lg_entry_eq]
  generalize (lg_sl ([.ref zli, .ref li]) ++ List.replicate (2 - (lg_sl ([.ref zli, .ref li])).length) Slot.unset).toArray = ls at hl ⊢
  have hl : lv_has ls 2 [(0, .ref zli), (1, .ref li)] := hl
  have hP : va_P D vwCl [(zli, .inr (0, [.ref zln, .ref zll, .ref zlc])), (zln, .inr (4, [.ref zlnA, .int zlnN])), (zll, .inr (4, [.ref zllA, .int zllN])), (zlc, .inr (4, [.ref zlcA, .int zlcN])), (li, .inr (0, [.ref ln, .ref ll, .ref lc])), (ln, .inr (4, [.ref lnA, .int 0])), (ll, .inr (4, [.ref llA, .int 0])), (lc, .inr (4, [.ref lcA, .int 0]))] s.heap := hP
  refine lv_aload_n hx hb dX0_copyFrom_0 rfl (lv_at hl 0 rfl) ?_
  refine va_get (D := D) (ci := 0) (v := .ref zln) (C := RX0) (T := TX0) (N := 3) hx hb ht inA_X0 hown hK hP 0 rfl rfl 0 (by decide) (ht _ lf_X0_14) (fun _ h9 => h9) rfl dX0_copyFrom_1 ?_
  refine lv_aload_n hx hb dX0_copyFrom_4 rfl (lv_at hl 1 rfl) ?_
  refine va_get (D := D) (ci := 0) (v := .ref ln) (C := RX0) (T := TX0) (N := 3) hx hb ht inA_X0 hown hK hP 4 rfl rfl 0 (by decide) (ht _ lf_X0_14) (fun _ h9 => h9) rfl dX0_copyFrom_5 ?_
  have ct := k_cut_of (wc := [(zln, .inr (4, [.ref zlnA, .int zlnN])), (ln, .inr (4, [.ref lnA, .int 0]))]) (wr := [(zli, .inr (0, [.ref zln, .ref zll, .ref zlc])), (zll, .inr (4, [.ref zllA, .int zllN])), (zlc, .inr (4, [.ref zlcA, .int zlcN])), (li, .inr (0, [.ref ln, .ref ll, .ref lc])), (ll, .inr (4, [.ref llA, .int 0])), (lc, .inr (4, [.ref lcA, .int 0]))]) (tc := []) hG hS hA hK hP hD [1, 5] [0, 2, 3, 4, 6, 7] [] rfl rfl (by decide) (by decide) (by decide) rfl
  refine k_endv (As := [.ref zln, .ref ln]) ct (k_runV (As := [.ref ln]) (rest := []) S0 Lv_X0_48 rfl (ci := 4) (q0 := 0) rfl rfl ct (c_Row_copy0 l D zln zlnA zlnN ln lnA s.heap.size) hl.1 rfl (Nat.le_of_ble_eq_true rfl) rfl dX0_copyFrom_8 ⟨⟨Nat.le_of_ble_eq_true rfl, Nat.le_of_ble_eq_true rfl⟩, Nat.le_of_ble_eq_true rfl, Nat.le_of_ble_eq_true rfl⟩) rfl rfl (fun _ _ H locs hw_2 hP hD hK hS => ?_)
  have hK : va_K D vwCl [] s := hK
  have hP : va_P D vwCl [(zli, .inr (0, [.ref zln, .ref zll, .ref zlc])), (zll, .inr (4, [.ref zllA, .int zllN])), (zlc, .inr (4, [.ref zlcA, .int zlcN])), (li, .inr (0, [.ref ln, .ref ll, .ref lc])), (ll, .inr (4, [.ref llA, .int 0])), (lc, .inr (4, [.ref lcA, .int 0])), (zln, .inr (4, [.ref zlnA, .int 0])), (ln, .inr (4, [.ref lnA, .int 0]))] H := hP
  have hD : va_D A [(zli, .inr (0, [.ref zln, .ref zll, .ref zlc])), (zll, .inr (4, [.ref zllA, .int zllN])), (zlc, .inr (4, [.ref zlcA, .int zlcN])), (li, .inr (0, [.ref ln, .ref ll, .ref lc])), (ll, .inr (4, [.ref llA, .int 0])), (lc, .inr (4, [.ref lcA, .int 0])), (zln, .inr (4, [.ref zlnA, .int 0])), (ln, .inr (4, [.ref lnA, .int 0]))] := hD
  refine lv_aload_n hx hb dX0_copyFrom_11 rfl (lv_at hl 0 rfl) ?_
  refine va_get (D := D) (ci := 0) (v := .ref zll) (C := RX0) (T := TX0) (N := 3) hx hb ht inA_X0 hown hK hP 0 rfl rfl 1 (by decide) (ht _ lf_X0_20) (fun _ h9 => h9) rfl dX0_copyFrom_12 ?_
  refine lv_aload_n hx hb dX0_copyFrom_15 rfl (lv_at hl 1 rfl) ?_
  refine va_get (D := D) (ci := 0) (v := .ref ll) (C := RX0) (T := TX0) (N := 3) hx hb ht inA_X0 hown hK hP 3 rfl rfl 1 (by decide) (ht _ lf_X0_20) (fun _ h9 => h9) rfl dX0_copyFrom_16 ?_
  have ct := k_cut_of (wc := [(zll, .inr (4, [.ref zllA, .int zllN])), (ll, .inr (4, [.ref llA, .int 0]))]) (wr := [(zli, .inr (0, [.ref zln, .ref zll, .ref zlc])), (zlc, .inr (4, [.ref zlcA, .int zlcN])), (li, .inr (0, [.ref ln, .ref ll, .ref lc])), (lc, .inr (4, [.ref lcA, .int 0])), (zln, .inr (4, [.ref zlnA, .int 0])), (ln, .inr (4, [.ref lnA, .int 0]))]) (tc := []) hG hS hA hK hP hD [1, 4] [0, 2, 3, 5, 6, 7] [] rfl rfl (by decide) (by decide) (by decide) rfl
  refine k_endv (As := [.ref zll, .ref ll]) ct (k_runV (As := [.ref ll]) (rest := []) S0 Lv_X0_48 rfl (ci := 4) (q0 := 0) rfl rfl ct (c_Row_copy0 l D zll zllA zllN ll llA H.size) hl.1 rfl (Nat.le_of_ble_eq_true rfl) rfl dX0_copyFrom_19 ⟨⟨Nat.le_of_ble_eq_true rfl, Nat.le_of_ble_eq_true rfl⟩, Nat.le_of_ble_eq_true rfl, Nat.le_of_ble_eq_true rfl⟩) rfl rfl (fun _ _ H locs hw_4 hP hD hK hS => ?_)
  have hK : va_K D vwCl [] s := hK
  have hP : va_P D vwCl [(zli, .inr (0, [.ref zln, .ref zll, .ref zlc])), (zlc, .inr (4, [.ref zlcA, .int zlcN])), (li, .inr (0, [.ref ln, .ref ll, .ref lc])), (lc, .inr (4, [.ref lcA, .int 0])), (zln, .inr (4, [.ref zlnA, .int 0])), (ln, .inr (4, [.ref lnA, .int 0])), (zll, .inr (4, [.ref zllA, .int 0])), (ll, .inr (4, [.ref llA, .int 0]))] H := hP
  have hD : va_D A [(zli, .inr (0, [.ref zln, .ref zll, .ref zlc])), (zlc, .inr (4, [.ref zlcA, .int zlcN])), (li, .inr (0, [.ref ln, .ref ll, .ref lc])), (lc, .inr (4, [.ref lcA, .int 0])), (zln, .inr (4, [.ref zlnA, .int 0])), (ln, .inr (4, [.ref lnA, .int 0])), (zll, .inr (4, [.ref zllA, .int 0])), (ll, .inr (4, [.ref llA, .int 0]))] := hD
  refine lv_aload_n hx hb dX0_copyFrom_22 rfl (lv_at hl 0 rfl) ?_
  refine va_get (D := D) (ci := 0) (v := .ref zlc) (C := RX0) (T := TX0) (N := 3) hx hb ht inA_X0 hown hK hP 0 rfl rfl 2 (by decide) (ht _ lf_X0_23) (fun _ h9 => h9) rfl dX0_copyFrom_23 ?_
  refine lv_aload_n hx hb dX0_copyFrom_26 rfl (lv_at hl 1 rfl) ?_
  refine va_get (D := D) (ci := 0) (v := .ref lc) (C := RX0) (T := TX0) (N := 3) hx hb ht inA_X0 hown hK hP 2 rfl rfl 2 (by decide) (ht _ lf_X0_23) (fun _ h9 => h9) rfl dX0_copyFrom_27 ?_
  have ct := k_cut_of (wc := [(zlc, .inr (4, [.ref zlcA, .int zlcN])), (lc, .inr (4, [.ref lcA, .int 0]))]) (wr := [(zli, .inr (0, [.ref zln, .ref zll, .ref zlc])), (li, .inr (0, [.ref ln, .ref ll, .ref lc])), (zln, .inr (4, [.ref zlnA, .int 0])), (ln, .inr (4, [.ref lnA, .int 0])), (zll, .inr (4, [.ref zllA, .int 0])), (ll, .inr (4, [.ref llA, .int 0]))]) (tc := []) hG hS hA hK hP hD [1, 3] [0, 2, 4, 5, 6, 7] [] rfl rfl (by decide) (by decide) (by decide) rfl
  refine k_endv (As := [.ref zlc, .ref lc]) ct (k_runV (As := [.ref lc]) (rest := []) S0 Lv_X0_48 rfl (ci := 4) (q0 := 0) rfl rfl ct (c_Row_copy0 l D zlc zlcA zlcN lc lcA H.size) hl.1 rfl (Nat.le_of_ble_eq_true rfl) rfl dX0_copyFrom_30 ⟨⟨Nat.le_of_ble_eq_true rfl, Nat.le_of_ble_eq_true rfl⟩, Nat.le_of_ble_eq_true rfl, Nat.le_of_ble_eq_true rfl⟩) rfl rfl (fun _ _ H locs hw_6 hP hD hK hS => ?_)
  have hK : va_K D vwCl [] s := hK
  have hP : va_P D vwCl [(zli, .inr (0, [.ref zln, .ref zll, .ref zlc])), (li, .inr (0, [.ref ln, .ref ll, .ref lc])), (zln, .inr (4, [.ref zlnA, .int 0])), (ln, .inr (4, [.ref lnA, .int 0])), (zll, .inr (4, [.ref zllA, .int 0])), (ll, .inr (4, [.ref llA, .int 0])), (zlc, .inr (4, [.ref zlcA, .int 0])), (lc, .inr (4, [.ref lcA, .int 0]))] H := hP
  have hD : va_D A [(zli, .inr (0, [.ref zln, .ref zll, .ref zlc])), (li, .inr (0, [.ref ln, .ref ll, .ref lc])), (zln, .inr (4, [.ref zlnA, .int 0])), (ln, .inr (4, [.ref lnA, .int 0])), (zll, .inr (4, [.ref zllA, .int 0])), (ll, .inr (4, [.ref llA, .int 0])), (zlc, .inr (4, [.ref zlcA, .int 0])), (lc, .inr (4, [.ref lcA, .int 0]))] := hD
  have hP9 : va_P D vwCl [(zli, .inr (0, [.ref zln, .ref zll, .ref zlc])), (zln, .inr (4, [.ref zlnA, .int 0])), (zll, .inr (4, [.ref zllA, .int 0])), (zlc, .inr (4, [.ref zlcA, .int 0])), (li, .inr (0, [.ref ln, .ref ll, .ref lc])), (ln, .inr (4, [.ref lnA, .int 0])), (ll, .inr (4, [.ref llA, .int 0])), (lc, .inr (4, [.ref lcA, .int 0]))] H := hP.sub [0, 2, 4, 6, 1, 3, 5, 7] rfl
  have hD9 : va_D A [(zli, .inr (0, [.ref zln, .ref zll, .ref zlc])), (zln, .inr (4, [.ref zlnA, .int 0])), (zll, .inr (4, [.ref zllA, .int 0])), (zlc, .inr (4, [.ref zlcA, .int 0])), (li, .inr (0, [.ref ln, .ref ll, .ref lc])), (ln, .inr (4, [.ref lnA, .int 0])), (ll, .inr (4, [.ref llA, .int 0])), (lc, .inr (4, [.ref lcA, .int 0]))] := hD.sub [0, 2, 4, 6, 1, 3, 5, 7] (by decide) rfl
  have hK9 : va_K D vwCl [] s := hK.sub [] rfl
  exact W.vret hx hb hr (fun t ht9 hW9 => ⟨⟨(), rfl, by first | rfl | trivial | (simp only [if_true, if_false, reduceIte, and_self]; done) | simp_all, ⟨by rw [ht9]; exact hP9, va_K.moved hW9.alike hK9, hD9⟩⟩, hS.F ht9⟩) hS.2.2 dX0_copyFrom_33
set_option maxHeartbeats 4000000 in
set_option maxRecDepth 100000 in
theorem c_State_copy0 (l : Launch) (D : va_G) (zst : Nat) (zla : Nat) (zme : Nat) (zli : Nat) (ztol : Int32) (zsu : Int32) (zfa : Int32) (zld : Nat) (zlz : Nat) (zldA : Nat) (zldN : Int32) (zlzA : Nat) (zlzN : Int32) (zmeA : Nat) (zmeN : Int32) (zln : Nat) (zll : Nat) (zlc : Nat) (zlnA : Nat) (zlnN : Int32) (zllA : Nat) (zllN : Int32) (zlcA : Nat) (zlcN : Int32) (st : Nat) (la : Nat) (me : Nat) (li : Nat) (tol : Int32) (su : Int32) (fa : Int32) (ld : Nat) (lz : Nat) (ldA : Nat) (lzA : Nat) (meA : Nat) (ln : Nat) (ll : Nat) (lc : Nat) (lnA : Nat) (llA : Nat) (lcA : Nat) (sz : Nat) : k_Mv (S := Unit) l D yX6_copyFrom cX6_copyFrom 2 none 3 0 0 63 [.ref zst, .ref st] [(zst, .inr (6, [.ref zla, .ref zme, .ref zli, .int ztol, .int zsu, .int zfa])), (zla, .inr (2, [.ref zld, .ref zlz])), (zld, .inr (4, [.ref zldA, .int zldN])), (zlz, .inr (4, [.ref zlzA, .int zlzN])), (zme, .inr (4, [.ref zmeA, .int zmeN])), (zli, .inr (0, [.ref zln, .ref zll, .ref zlc])), (zln, .inr (4, [.ref zlnA, .int zlnN])), (zll, .inr (4, [.ref zllA, .int zllN])), (zlc, .inr (4, [.ref zlcA, .int zlcN])), (st, .inr (6, [.ref la, .ref me, .ref li, .int tol, .int su, .int fa])), (la, .inr (2, [.ref ld, .ref lz])), (ld, .inr (4, [.ref ldA, .int 0])), (lz, .inr (4, [.ref lzA, .int 0])), (me, .inr (4, [.ref meA, .int 0])), (li, .inr (0, [.ref ln, .ref ll, .ref lc])), (ln, .inr (4, [.ref lnA, .int 0])), (ll, .inr (4, [.ref llA, .int 0])), (lc, .inr (4, [.ref lcA, .int 0]))] [] (fun (_ : Unit) => True) (fun _ => [(zst, .inr (6, [.ref zla, .ref zme, .ref zli, .int tol, .int su, .int fa])), (zla, .inr (2, [.ref zld, .ref zlz])), (zld, .inr (4, [.ref zldA, .int 0])), (zlz, .inr (4, [.ref zlzA, .int 0])), (zme, .inr (4, [.ref zmeA, .int 0])), (zli, .inr (0, [.ref zln, .ref zll, .ref zlc])), (zln, .inr (4, [.ref zlnA, .int 0])), (zll, .inr (4, [.ref zllA, .int 0])), (zlc, .inr (4, [.ref zlcA, .int 0])), (st, .inr (6, [.ref la, .ref me, .ref li, .int tol, .int su, .int fa])), (la, .inr (2, [.ref ld, .ref lz])), (ld, .inr (4, [.ref ldA, .int 0])), (lz, .inr (4, [.ref lzA, .int 0])), (me, .inr (4, [.ref meA, .int 0])), (li, .inr (0, [.ref ln, .ref ll, .ref lc])), (ln, .inr (4, [.ref lnA, .int 0])), (ll, .inr (4, [.ref llA, .int 0])), (lc, .inr (4, [.ref lcA, .int 0]))]) (fun _ => []) sz := by
  refine Met.ofW (cc := cX6_copyFrom) (maxL := 2) (ret := none) (by decide) rfl ?_
  intro p e s m args below meth c s₁ B hml hv
  obtain ⟨rfl, hsz, hP, hK, hD0, hG⟩ := hv
  have hx := B.exec
  have hb := B.bytes
  have hr := B.returns
  have ht : ∀ v9 ∈ wsA, v9.before ([.ref zst, .ref st] : List Value).toArray s = true := fun v9 h9 => atoms_spec (ws := k_ws yX6_copyFrom cX6_copyFrom 2 none) B.pre v9 (List.mem_cons_of_mem _ h9)
  have hown : s.vm.findClass RX6 = some m.cls := findClass_of_methodNamed B.named
  have S0 : k_C p s m ([.ref zst, .ref st] : List Value).toArray c cX6_copyFrom 2 RX6 := ⟨hx, hb, hml, hown, ht⟩
  have hlocks := B.notSynchronized
  subst hsz
  have hD := hD0.self (sz := s.heap.size)
  generalize hAe : va_A [(zst, .inr (6, [.ref zla, .ref zme, .ref zli, .int ztol, .int zsu, .int zfa])), (zla, .inr (2, [.ref zld, .ref zlz])), (zld, .inr (4, [.ref zldA, .int zldN])), (zlz, .inr (4, [.ref zlzA, .int zlzN])), (zme, .inr (4, [.ref zmeA, .int zmeN])), (zli, .inr (0, [.ref zln, .ref zll, .ref zlc])), (zln, .inr (4, [.ref zlnA, .int zlnN])), (zll, .inr (4, [.ref zllA, .int zllN])), (zlc, .inr (4, [.ref zlcA, .int zlcN])), (st, .inr (6, [.ref la, .ref me, .ref li, .int tol, .int su, .int fa])), (la, .inr (2, [.ref ld, .ref lz])), (ld, .inr (4, [.ref ldA, .int 0])), (lz, .inr (4, [.ref lzA, .int 0])), (me, .inr (4, [.ref meA, .int 0])), (li, .inr (0, [.ref ln, .ref ll, .ref lc])), (ln, .inr (4, [.ref lnA, .int 0])), (ll, .inr (4, [.ref llA, .int 0])), (lc, .inr (4, [.ref lcA, .int 0]))] s.heap.size = A at hD hG ⊢
  have hA : ∀ q : Nat, s.heap.size ≤ q → A q := fun q h => by rw [← hAe]; exact Or.inr h
  have hS : va_S A s.heap s.heap [] := va_S.rf
  have hl := lv_entry ([.ref zst, .ref st]) (n := 2) (Nat.le_of_ble_eq_true rfl)
  rw [lg_entry_eq]
  generalize (lg_sl ([.ref zst, .ref st]) ++ List.replicate (2 - (lg_sl ([.ref zst, .ref st])).length) Slot.unset).toArray = ls at hl ⊢
  have hl : lv_has ls 2 [(0, .ref zst), (1, .ref st)] := hl
  have hP : va_P D vwCl [(zst, .inr (6, [.ref zla, .ref zme, .ref zli, .int ztol, .int zsu, .int zfa])), (zla, .inr (2, [.ref zld, .ref zlz])), (zld, .inr (4, [.ref zldA, .int zldN])), (zlz, .inr (4, [.ref zlzA, .int zlzN])), (zme, .inr (4, [.ref zmeA, .int zmeN])), (zli, .inr (0, [.ref zln, .ref zll, .ref zlc])), (zln, .inr (4, [.ref zlnA, .int zlnN])), (zll, .inr (4, [.ref zllA, .int zllN])), (zlc, .inr (4, [.ref zlcA, .int zlcN])), (st, .inr (6, [.ref la, .ref me, .ref li, .int tol, .int su, .int fa])), (la, .inr (2, [.ref ld, .ref lz])), (ld, .inr (4, [.ref ldA, .int 0])), (lz, .inr (4, [.ref lzA, .int 0])), (me, .inr (4, [.ref meA, .int 0])), (li, .inr (0, [.ref ln, .ref ll, .ref lc])), (ln, .inr (4, [.ref lnA, .int 0])), (ll, .inr (4, [.ref llA, .int 0])), (lc, .inr (4, [.ref lcA, .int 0]))] s.heap := hP
  refine lv_aload_n hx hb dX6_copyFrom_0 rfl (lv_at hl 0 rfl) ?_
  refine va_get (D := D) (ci := 6) (v := .ref zla) (C := RX6) (T := TX6) (N := 6) hx hb ht inA_X6 hown hK hP 0 rfl rfl 0 (by decide) (ht _ lf_X6_12) (fun _ h9 => h9) rfl dX6_copyFrom_1 ?_
  refine lv_aload_n hx hb dX6_copyFrom_4 rfl (lv_at hl 1 rfl) ?_
  refine va_get (D := D) (ci := 6) (v := .ref la) (C := RX6) (T := TX6) (N := 6) hx hb ht inA_X6 hown hK hP 9 rfl rfl 0 (by decide) (ht _ lf_X6_12) (fun _ h9 => h9) rfl dX6_copyFrom_5 ?_
  have ct := k_cut_of (wc := [(zla, .inr (2, [.ref zld, .ref zlz])), (zld, .inr (4, [.ref zldA, .int zldN])), (zlz, .inr (4, [.ref zlzA, .int zlzN])), (la, .inr (2, [.ref ld, .ref lz])), (ld, .inr (4, [.ref ldA, .int 0])), (lz, .inr (4, [.ref lzA, .int 0]))]) (wr := [(zst, .inr (6, [.ref zla, .ref zme, .ref zli, .int ztol, .int zsu, .int zfa])), (zme, .inr (4, [.ref zmeA, .int zmeN])), (zli, .inr (0, [.ref zln, .ref zll, .ref zlc])), (zln, .inr (4, [.ref zlnA, .int zlnN])), (zll, .inr (4, [.ref zllA, .int zllN])), (zlc, .inr (4, [.ref zlcA, .int zlcN])), (st, .inr (6, [.ref la, .ref me, .ref li, .int tol, .int su, .int fa])), (me, .inr (4, [.ref meA, .int 0])), (li, .inr (0, [.ref ln, .ref ll, .ref lc])), (ln, .inr (4, [.ref lnA, .int 0])), (ll, .inr (4, [.ref llA, .int 0])), (lc, .inr (4, [.ref lcA, .int 0]))]) (tc := []) hG hS hA hK hP hD [1, 2, 3, 10, 11, 12] [0, 4, 5, 6, 7, 8, 9, 13, 14, 15, 16, 17] [] rfl rfl (by decide) (by decide) (by decide) rfl
  refine k_endv (As := [.ref zla, .ref la]) ct (k_runV (As := [.ref la]) (rest := []) S0 Lv_X6_38 rfl (ci := 2) (q0 := 0) rfl rfl ct (c_Label_copy0 l D zla zld zlz zldA zldN zlzA zlzN la ld lz ldA lzA s.heap.size) hl.1 rfl (Nat.le_of_ble_eq_true rfl) rfl dX6_copyFrom_8 ⟨⟨Nat.le_of_ble_eq_true rfl, Nat.le_of_ble_eq_true rfl⟩, Nat.le_of_ble_eq_true rfl, Nat.le_of_ble_eq_true rfl⟩) rfl rfl (fun _ _ H locs hw_2 hP hD hK hS => ?_)
  have hK : va_K D vwCl [] s := hK
  have hP : va_P D vwCl [(zst, .inr (6, [.ref zla, .ref zme, .ref zli, .int ztol, .int zsu, .int zfa])), (zme, .inr (4, [.ref zmeA, .int zmeN])), (zli, .inr (0, [.ref zln, .ref zll, .ref zlc])), (zln, .inr (4, [.ref zlnA, .int zlnN])), (zll, .inr (4, [.ref zllA, .int zllN])), (zlc, .inr (4, [.ref zlcA, .int zlcN])), (st, .inr (6, [.ref la, .ref me, .ref li, .int tol, .int su, .int fa])), (me, .inr (4, [.ref meA, .int 0])), (li, .inr (0, [.ref ln, .ref ll, .ref lc])), (ln, .inr (4, [.ref lnA, .int 0])), (ll, .inr (4, [.ref llA, .int 0])), (lc, .inr (4, [.ref lcA, .int 0])), (zla, .inr (2, [.ref zld, .ref zlz])), (zld, .inr (4, [.ref zldA, .int 0])), (zlz, .inr (4, [.ref zlzA, .int 0])), (la, .inr (2, [.ref ld, .ref lz])), (ld, .inr (4, [.ref ldA, .int 0])), (lz, .inr (4, [.ref lzA, .int 0]))] H := hP
  have hD : va_D A [(zst, .inr (6, [.ref zla, .ref zme, .ref zli, .int ztol, .int zsu, .int zfa])), (zme, .inr (4, [.ref zmeA, .int zmeN])), (zli, .inr (0, [.ref zln, .ref zll, .ref zlc])), (zln, .inr (4, [.ref zlnA, .int zlnN])), (zll, .inr (4, [.ref zllA, .int zllN])), (zlc, .inr (4, [.ref zlcA, .int zlcN])), (st, .inr (6, [.ref la, .ref me, .ref li, .int tol, .int su, .int fa])), (me, .inr (4, [.ref meA, .int 0])), (li, .inr (0, [.ref ln, .ref ll, .ref lc])), (ln, .inr (4, [.ref lnA, .int 0])), (ll, .inr (4, [.ref llA, .int 0])), (lc, .inr (4, [.ref lcA, .int 0])), (zla, .inr (2, [.ref zld, .ref zlz])), (zld, .inr (4, [.ref zldA, .int 0])), (zlz, .inr (4, [.ref zlzA, .int 0])), (la, .inr (2, [.ref ld, .ref lz])), (ld, .inr (4, [.ref ldA, .int 0])), (lz, .inr (4, [.ref lzA, .int 0]))] := hD
  refine lv_aload_n hx hb dX6_copyFrom_11 rfl (lv_at hl 0 rfl) ?_
  refine va_get (D := D) (ci := 6) (v := .ref zme) (C := RX6) (T := TX6) (N := 6) hx hb ht inA_X6 hown hK hP 0 rfl rfl 1 (by decide) (ht _ lf_X6_23) (fun _ h9 => h9) rfl dX6_copyFrom_12 ?_
  refine lv_aload_n hx hb dX6_copyFrom_15 rfl (lv_at hl 1 rfl) ?_
  refine va_get (D := D) (ci := 6) (v := .ref me) (C := RX6) (T := TX6) (N := 6) hx hb ht inA_X6 hown hK hP 6 rfl rfl 1 (by decide) (ht _ lf_X6_23) (fun _ h9 => h9) rfl dX6_copyFrom_16 ?_
  have ct := k_cut_of (wc := [(zme, .inr (4, [.ref zmeA, .int zmeN])), (me, .inr (4, [.ref meA, .int 0]))]) (wr := [(zst, .inr (6, [.ref zla, .ref zme, .ref zli, .int ztol, .int zsu, .int zfa])), (zli, .inr (0, [.ref zln, .ref zll, .ref zlc])), (zln, .inr (4, [.ref zlnA, .int zlnN])), (zll, .inr (4, [.ref zllA, .int zllN])), (zlc, .inr (4, [.ref zlcA, .int zlcN])), (st, .inr (6, [.ref la, .ref me, .ref li, .int tol, .int su, .int fa])), (li, .inr (0, [.ref ln, .ref ll, .ref lc])), (ln, .inr (4, [.ref lnA, .int 0])), (ll, .inr (4, [.ref llA, .int 0])), (lc, .inr (4, [.ref lcA, .int 0])), (zla, .inr (2, [.ref zld, .ref zlz])), (zld, .inr (4, [.ref zldA, .int 0])), (zlz, .inr (4, [.ref zlzA, .int 0])), (la, .inr (2, [.ref ld, .ref lz])), (ld, .inr (4, [.ref ldA, .int 0])), (lz, .inr (4, [.ref lzA, .int 0]))]) (tc := []) hG hS hA hK hP hD [1, 7] [0, 2, 3, 4, 5, 6, 8, 9, 10, 11, 12, 13, 14, 15, 16, 17] [] rfl rfl (by decide) (by decide) (by decide) rfl
  refine k_endv (As := [.ref zme, .ref me]) ct (k_runV (As := [.ref me]) (rest := []) S0 Lv_X6_42 rfl (ci := 4) (q0 := 0) rfl rfl ct (c_Row_copy0 l D zme zmeA zmeN me meA H.size) hl.1 rfl (Nat.le_of_ble_eq_true rfl) rfl dX6_copyFrom_19 ⟨⟨Nat.le_of_ble_eq_true rfl, Nat.le_of_ble_eq_true rfl⟩, Nat.le_of_ble_eq_true rfl, Nat.le_of_ble_eq_true rfl⟩) rfl rfl (fun _ _ H locs hw_4 hP hD hK hS => ?_)
  have hK : va_K D vwCl [] s := hK
  have hP : va_P D vwCl [(zst, .inr (6, [.ref zla, .ref zme, .ref zli, .int ztol, .int zsu, .int zfa])), (zli, .inr (0, [.ref zln, .ref zll, .ref zlc])), (zln, .inr (4, [.ref zlnA, .int zlnN])), (zll, .inr (4, [.ref zllA, .int zllN])), (zlc, .inr (4, [.ref zlcA, .int zlcN])), (st, .inr (6, [.ref la, .ref me, .ref li, .int tol, .int su, .int fa])), (li, .inr (0, [.ref ln, .ref ll, .ref lc])), (ln, .inr (4, [.ref lnA, .int 0])), (ll, .inr (4, [.ref llA, .int 0])), (lc, .inr (4, [.ref lcA, .int 0])), (zla, .inr (2, [.ref zld, .ref zlz])), (zld, .inr (4, [.ref zldA, .int 0])), (zlz, .inr (4, [.ref zlzA, .int 0])), (la, .inr (2, [.ref ld, .ref lz])), (ld, .inr (4, [.ref ldA, .int 0])), (lz, .inr (4, [.ref lzA, .int 0])), (zme, .inr (4, [.ref zmeA, .int 0])), (me, .inr (4, [.ref meA, .int 0]))] H := hP
  have hD : va_D A [(zst, .inr (6, [.ref zla, .ref zme, .ref zli, .int ztol, .int zsu, .int zfa])), (zli, .inr (0, [.ref zln, .ref zll, .ref zlc])), (zln, .inr (4, [.ref zlnA, .int zlnN])), (zll, .inr (4, [.ref zllA, .int zllN])), (zlc, .inr (4, [.ref zlcA, .int zlcN])), (st, .inr (6, [.ref la, .ref me, .ref li, .int tol, .int su, .int fa])), (li, .inr (0, [.ref ln, .ref ll, .ref lc])), (ln, .inr (4, [.ref lnA, .int 0])), (ll, .inr (4, [.ref llA, .int 0])), (lc, .inr (4, [.ref lcA, .int 0])), (zla, .inr (2, [.ref zld, .ref zlz])), (zld, .inr (4, [.ref zldA, .int 0])), (zlz, .inr (4, [.ref zlzA, .int 0])), (la, .inr (2, [.ref ld, .ref lz])), (ld, .inr (4, [.ref ldA, .int 0])), (lz, .inr (4, [.ref lzA, .int 0])), (zme, .inr (4, [.ref zmeA, .int 0])), (me, .inr (4, [.ref meA, .int 0]))] := hD
  refine lv_aload_n hx hb dX6_copyFrom_22 rfl (lv_at hl 0 rfl) ?_
  refine va_get (D := D) (ci := 6) (v := .ref zli) (C := RX6) (T := TX6) (N := 6) hx hb ht inA_X6 hown hK hP 0 rfl rfl 2 (by decide) (ht _ lf_X6_30) (fun _ h9 => h9) rfl dX6_copyFrom_23 ?_
  refine lv_aload_n hx hb dX6_copyFrom_26 rfl (lv_at hl 1 rfl) ?_
  refine va_get (D := D) (ci := 6) (v := .ref li) (C := RX6) (T := TX6) (N := 6) hx hb ht inA_X6 hown hK hP 5 rfl rfl 2 (by decide) (ht _ lf_X6_30) (fun _ h9 => h9) rfl dX6_copyFrom_27 ?_
  have ct := k_cut_of (wc := [(zli, .inr (0, [.ref zln, .ref zll, .ref zlc])), (zln, .inr (4, [.ref zlnA, .int zlnN])), (zll, .inr (4, [.ref zllA, .int zllN])), (zlc, .inr (4, [.ref zlcA, .int zlcN])), (li, .inr (0, [.ref ln, .ref ll, .ref lc])), (ln, .inr (4, [.ref lnA, .int 0])), (ll, .inr (4, [.ref llA, .int 0])), (lc, .inr (4, [.ref lcA, .int 0]))]) (wr := [(zst, .inr (6, [.ref zla, .ref zme, .ref zli, .int ztol, .int zsu, .int zfa])), (st, .inr (6, [.ref la, .ref me, .ref li, .int tol, .int su, .int fa])), (zla, .inr (2, [.ref zld, .ref zlz])), (zld, .inr (4, [.ref zldA, .int 0])), (zlz, .inr (4, [.ref zlzA, .int 0])), (la, .inr (2, [.ref ld, .ref lz])), (ld, .inr (4, [.ref ldA, .int 0])), (lz, .inr (4, [.ref lzA, .int 0])), (zme, .inr (4, [.ref zmeA, .int 0])), (me, .inr (4, [.ref meA, .int 0]))]) (tc := []) hG hS hA hK hP hD [1, 2, 3, 4, 6, 7, 8, 9] [0, 5, 10, 11, 12, 13, 14, 15, 16, 17] [] rfl rfl (by decide) (by decide) (by decide) rfl
  refine k_endv (As := [.ref zli, .ref li]) ct (k_runV (As := [.ref li]) (rest := []) S0 Lv_X6_45 rfl (ci := 0) (q0 := 0) rfl rfl ct (c_CodeList_copy0 l D zli zln zll zlc zlnA zlnN zllA zllN zlcA zlcN li ln ll lc lnA llA lcA H.size) hl.1 rfl (Nat.le_of_ble_eq_true rfl) rfl dX6_copyFrom_30 ⟨⟨Nat.le_of_ble_eq_true rfl, Nat.le_of_ble_eq_true rfl⟩, Nat.le_of_ble_eq_true rfl, Nat.le_of_ble_eq_true rfl⟩) rfl rfl (fun _ _ H locs hw_6 hP hD hK hS => ?_)
  have hK : va_K D vwCl [] s := hK
  have hP : va_P D vwCl [(zst, .inr (6, [.ref zla, .ref zme, .ref zli, .int ztol, .int zsu, .int zfa])), (st, .inr (6, [.ref la, .ref me, .ref li, .int tol, .int su, .int fa])), (zla, .inr (2, [.ref zld, .ref zlz])), (zld, .inr (4, [.ref zldA, .int 0])), (zlz, .inr (4, [.ref zlzA, .int 0])), (la, .inr (2, [.ref ld, .ref lz])), (ld, .inr (4, [.ref ldA, .int 0])), (lz, .inr (4, [.ref lzA, .int 0])), (zme, .inr (4, [.ref zmeA, .int 0])), (me, .inr (4, [.ref meA, .int 0])), (zli, .inr (0, [.ref zln, .ref zll, .ref zlc])), (zln, .inr (4, [.ref zlnA, .int 0])), (zll, .inr (4, [.ref zllA, .int 0])), (zlc, .inr (4, [.ref zlcA, .int 0])), (li, .inr (0, [.ref ln, .ref ll, .ref lc])), (ln, .inr (4, [.ref lnA, .int 0])), (ll, .inr (4, [.ref llA, .int 0])), (lc, .inr (4, [.ref lcA, .int 0]))] H := hP
  have hD : va_D A [(zst, .inr (6, [.ref zla, .ref zme, .ref zli, .int ztol, .int zsu, .int zfa])), (st, .inr (6, [.ref la, .ref me, .ref li, .int tol, .int su, .int fa])), (zla, .inr (2, [.ref zld, .ref zlz])), (zld, .inr (4, [.ref zldA, .int 0])), (zlz, .inr (4, [.ref zlzA, .int 0])), (la, .inr (2, [.ref ld, .ref lz])), (ld, .inr (4, [.ref ldA, .int 0])), (lz, .inr (4, [.ref lzA, .int 0])), (zme, .inr (4, [.ref zmeA, .int 0])), (me, .inr (4, [.ref meA, .int 0])), (zli, .inr (0, [.ref zln, .ref zll, .ref zlc])), (zln, .inr (4, [.ref zlnA, .int 0])), (zll, .inr (4, [.ref zllA, .int 0])), (zlc, .inr (4, [.ref zlcA, .int 0])), (li, .inr (0, [.ref ln, .ref ll, .ref lc])), (ln, .inr (4, [.ref lnA, .int 0])), (ll, .inr (4, [.ref llA, .int 0])), (lc, .inr (4, [.ref lcA, .int 0]))] := hD
  refine lv_aload_n hx hb dX6_copyFrom_33 rfl (lv_at hl 0 rfl) ?_
  refine lv_aload_n hx hb dX6_copyFrom_34 rfl (lv_at hl 1 rfl) ?_
  refine va_get (D := D) (ci := 6) (v := .int tol) (C := RX6) (T := TX6) (N := 6) hx hb ht inA_X6 hown hK hP 1 rfl rfl 3 (by decide) (ht _ lf_X6_34) (fun _ h9 => h9) rfl dX6_copyFrom_35 ?_
  refine va_put (D := D) (ci := 6) (v := .int tol) (ty := .int) (C := RX6) (T := TX6) (N := 6) hx hb ht inA_X6 tyX6 tyX6_ok nmX6 hown hK hP hD hS 0 rfl rfl 3 (by decide) (ht _ lf_X6_34) (fun _ h9 => h9) rfl (tyX6_ok 3 (by decide)) rfl rfl (Nat.le_of_ble_eq_true rfl) dX6_copyFrom_38 (fun H locs hP hD hS => ?_)
  have hP : va_P D vwCl [(zst, .inr (6, [.ref zla, .ref zme, .ref zli, .int tol, .int zsu, .int zfa])), (st, .inr (6, [.ref la, .ref me, .ref li, .int tol, .int su, .int fa])), (zla, .inr (2, [.ref zld, .ref zlz])), (zld, .inr (4, [.ref zldA, .int 0])), (zlz, .inr (4, [.ref zlzA, .int 0])), (la, .inr (2, [.ref ld, .ref lz])), (ld, .inr (4, [.ref ldA, .int 0])), (lz, .inr (4, [.ref lzA, .int 0])), (zme, .inr (4, [.ref zmeA, .int 0])), (me, .inr (4, [.ref meA, .int 0])), (zli, .inr (0, [.ref zln, .ref zll, .ref zlc])), (zln, .inr (4, [.ref zlnA, .int 0])), (zll, .inr (4, [.ref zllA, .int 0])), (zlc, .inr (4, [.ref zlcA, .int 0])), (li, .inr (0, [.ref ln, .ref ll, .ref lc])), (ln, .inr (4, [.ref lnA, .int 0])), (ll, .inr (4, [.ref llA, .int 0])), (lc, .inr (4, [.ref lcA, .int 0]))] H := hP
  have hD : va_D A [(zst, .inr (6, [.ref zla, .ref zme, .ref zli, .int tol, .int zsu, .int zfa])), (st, .inr (6, [.ref la, .ref me, .ref li, .int tol, .int su, .int fa])), (zla, .inr (2, [.ref zld, .ref zlz])), (zld, .inr (4, [.ref zldA, .int 0])), (zlz, .inr (4, [.ref zlzA, .int 0])), (la, .inr (2, [.ref ld, .ref lz])), (ld, .inr (4, [.ref ldA, .int 0])), (lz, .inr (4, [.ref lzA, .int 0])), (zme, .inr (4, [.ref zmeA, .int 0])), (me, .inr (4, [.ref meA, .int 0])), (zli, .inr (0, [.ref zln, .ref zll, .ref zlc])), (zln, .inr (4, [.ref zlnA, .int 0])), (zll, .inr (4, [.ref zllA, .int 0])), (zlc, .inr (4, [.ref zlcA, .int 0])), (li, .inr (0, [.ref ln, .ref ll, .ref lc])), (ln, .inr (4, [.ref lnA, .int 0])), (ll, .inr (4, [.ref llA, .int 0])), (lc, .inr (4, [.ref lcA, .int 0]))] := hD
  refine lv_aload_n hx hb dX6_copyFrom_41 rfl (lv_at hl 0 rfl) ?_
  refine lv_aload_n hx hb dX6_copyFrom_42 rfl (lv_at hl 1 rfl) ?_
  refine va_get (D := D) (ci := 6) (v := .int su) (C := RX6) (T := TX6) (N := 6) hx hb ht inA_X6 hown hK hP 1 rfl rfl 4 (by decide) (ht _ lf_X6_48) (fun _ h9 => h9) rfl dX6_copyFrom_43 ?_
  refine va_put (D := D) (ci := 6) (v := .int su) (ty := .int) (C := RX6) (T := TX6) (N := 6) hx hb ht inA_X6 tyX6 tyX6_ok nmX6 hown hK hP hD hS 0 rfl rfl 4 (by decide) (ht _ lf_X6_48) (fun _ h9 => h9) rfl (tyX6_ok 4 (by decide)) rfl rfl (Nat.le_of_ble_eq_true rfl) dX6_copyFrom_46 (fun H locs hP hD hS => ?_)
  have hP : va_P D vwCl [(zst, .inr (6, [.ref zla, .ref zme, .ref zli, .int tol, .int su, .int zfa])), (st, .inr (6, [.ref la, .ref me, .ref li, .int tol, .int su, .int fa])), (zla, .inr (2, [.ref zld, .ref zlz])), (zld, .inr (4, [.ref zldA, .int 0])), (zlz, .inr (4, [.ref zlzA, .int 0])), (la, .inr (2, [.ref ld, .ref lz])), (ld, .inr (4, [.ref ldA, .int 0])), (lz, .inr (4, [.ref lzA, .int 0])), (zme, .inr (4, [.ref zmeA, .int 0])), (me, .inr (4, [.ref meA, .int 0])), (zli, .inr (0, [.ref zln, .ref zll, .ref zlc])), (zln, .inr (4, [.ref zlnA, .int 0])), (zll, .inr (4, [.ref zllA, .int 0])), (zlc, .inr (4, [.ref zlcA, .int 0])), (li, .inr (0, [.ref ln, .ref ll, .ref lc])), (ln, .inr (4, [.ref lnA, .int 0])), (ll, .inr (4, [.ref llA, .int 0])), (lc, .inr (4, [.ref lcA, .int 0]))] H := hP
  have hD : va_D A [(zst, .inr (6, [.ref zla, .ref zme, .ref zli, .int tol, .int su, .int zfa])), (st, .inr (6, [.ref la, .ref me, .ref li, .int tol, .int su, .int fa])), (zla, .inr (2, [.ref zld, .ref zlz])), (zld, .inr (4, [.ref zldA, .int 0])), (zlz, .inr (4, [.ref zlzA, .int 0])), (la, .inr (2, [.ref ld, .ref lz])), (ld, .inr (4, [.ref ldA, .int 0])), (lz, .inr (4, [.ref lzA, .int 0])), (zme, .inr (4, [.ref zmeA, .int 0])), (me, .inr (4, [.ref meA, .int 0])), (zli, .inr (0, [.ref zln, .ref zll, .ref zlc])), (zln, .inr (4, [.ref zlnA, .int 0])), (zll, .inr (4, [.ref zllA, .int 0])), (zlc, .inr (4, [.ref zlcA, .int 0])), (li, .inr (0, [.ref ln, .ref ll, .ref lc])), (ln, .inr (4, [.ref lnA, .int 0])), (ll, .inr (4, [.ref llA, .int 0])), (lc, .inr (4, [.ref lcA, .int 0]))] := hD
  refine lv_aload_n hx hb dX6_copyFrom_49 rfl (lv_at hl 0 rfl) ?_
  refine lv_aload_n hx hb dX6_copyFrom_50 rfl (lv_at hl 1 rfl) ?_
  refine va_get (D := D) (ci := 6) (v := .int fa) (C := RX6) (T := TX6) (N := 6) hx hb ht inA_X6 hown hK hP 1 rfl rfl 5 (by decide) (ht _ lf_X6_51) (fun _ h9 => h9) rfl dX6_copyFrom_51 ?_
  refine va_put (D := D) (ci := 6) (v := .int fa) (ty := .int) (C := RX6) (T := TX6) (N := 6) hx hb ht inA_X6 tyX6 tyX6_ok nmX6 hown hK hP hD hS 0 rfl rfl 5 (by decide) (ht _ lf_X6_51) (fun _ h9 => h9) rfl (tyX6_ok 5 (by decide)) rfl rfl (Nat.le_of_ble_eq_true rfl) dX6_copyFrom_54 (fun H locs hP hD hS => ?_)
  have hP : va_P D vwCl [(zst, .inr (6, [.ref zla, .ref zme, .ref zli, .int tol, .int su, .int fa])), (st, .inr (6, [.ref la, .ref me, .ref li, .int tol, .int su, .int fa])), (zla, .inr (2, [.ref zld, .ref zlz])), (zld, .inr (4, [.ref zldA, .int 0])), (zlz, .inr (4, [.ref zlzA, .int 0])), (la, .inr (2, [.ref ld, .ref lz])), (ld, .inr (4, [.ref ldA, .int 0])), (lz, .inr (4, [.ref lzA, .int 0])), (zme, .inr (4, [.ref zmeA, .int 0])), (me, .inr (4, [.ref meA, .int 0])), (zli, .inr (0, [.ref zln, .ref zll, .ref zlc])), (zln, .inr (4, [.ref zlnA, .int 0])), (zll, .inr (4, [.ref zllA, .int 0])), (zlc, .inr (4, [.ref zlcA, .int 0])), (li, .inr (0, [.ref ln, .ref ll, .ref lc])), (ln, .inr (4, [.ref lnA, .int 0])), (ll, .inr (4, [.ref llA, .int 0])), (lc, .inr (4, [.ref lcA, .int 0]))] H := hP
  have hD : va_D A [(zst, .inr (6, [.ref zla, .ref zme, .ref zli, .int tol, .int su, .int fa])), (st, .inr (6, [.ref la, .ref me, .ref li, .int tol, .int su, .int fa])), (zla, .inr (2, [.ref zld, .ref zlz])), (zld, .inr (4, [.ref zldA, .int 0])), (zlz, .inr (4, [.ref zlzA, .int 0])), (la, .inr (2, [.ref ld, .ref lz])), (ld, .inr (4, [.ref ldA, .int 0])), (lz, .inr (4, [.ref lzA, .int 0])), (zme, .inr (4, [.ref zmeA, .int 0])), (me, .inr (4, [.ref meA, .int 0])), (zli, .inr (0, [.ref zln, .ref zll, .ref zlc])), (zln, .inr (4, [.ref zlnA, .int 0])), (zll, .inr (4, [.ref zllA, .int 0])), (zlc, .inr (4, [.ref zlcA, .int 0])), (li, .inr (0, [.ref ln, .ref ll, .ref lc])), (ln, .inr (4, [.ref lnA, .int 0])), (ll, .inr (4, [.ref llA, .int 0])), (lc, .inr (4, [.ref lcA, .int 0]))] := hD
  have hP9 : va_P D vwCl [(zst, .inr (6, [.ref zla, .ref zme, .ref zli, .int tol, .int su, .int fa])), (zla, .inr (2, [.ref zld, .ref zlz])), (zld, .inr (4, [.ref zldA, .int 0])), (zlz, .inr (4, [.ref zlzA, .int 0])), (zme, .inr (4, [.ref zmeA, .int 0])), (zli, .inr (0, [.ref zln, .ref zll, .ref zlc])), (zln, .inr (4, [.ref zlnA, .int 0])), (zll, .inr (4, [.ref zllA, .int 0])), (zlc, .inr (4, [.ref zlcA, .int 0])), (st, .inr (6, [.ref la, .ref me, .ref li, .int tol, .int su, .int fa])), (la, .inr (2, [.ref ld, .ref lz])), (ld, .inr (4, [.ref ldA, .int 0])), (lz, .inr (4, [.ref lzA, .int 0])), (me, .inr (4, [.ref meA, .int 0])), (li, .inr (0, [.ref ln, .ref ll, .ref lc])), (ln, .inr (4, [.ref lnA, .int 0])), (ll, .inr (4, [.ref llA, .int 0])), (lc, .inr (4, [.ref lcA, .int 0]))] H := hP.sub [0, 2, 3, 4, 8, 10, 11, 12, 13, 1, 5, 6, 7, 9, 14, 15, 16, 17] rfl
  have hD9 : va_D A [(zst, .inr (6, [.ref zla, .ref zme, .ref zli, .int tol, .int su, .int fa])), (zla, .inr (2, [.ref zld, .ref zlz])), (zld, .inr (4, [.ref zldA, .int 0])), (zlz, .inr (4, [.ref zlzA, .int 0])), (zme, .inr (4, [.ref zmeA, .int 0])), (zli, .inr (0, [.ref zln, .ref zll, .ref zlc])), (zln, .inr (4, [.ref zlnA, .int 0])), (zll, .inr (4, [.ref zllA, .int 0])), (zlc, .inr (4, [.ref zlcA, .int 0])), (st, .inr (6, [.ref la, .ref me, .ref li, .int tol, .int su, .int fa])), (la, .inr (2, [.ref ld, .ref lz])), (ld, .inr (4, [.ref ldA, .int 0])), (lz, .inr (4, [.ref lzA, .int 0])), (me, .inr (4, [.ref meA, .int 0])), (li, .inr (0, [.ref ln, .ref ll, .ref lc])), (ln, .inr (4, [.ref lnA, .int 0])), (ll, .inr (4, [.ref llA, .int 0])), (lc, .inr (4, [.ref lcA, .int 0]))] := hD.sub [0, 2, 3, 4, 8, 10, 11, 12, 13, 1, 5, 6, 7, 9, 14, 15, 16, 17] (by decide) rfl
  have hK9 : va_K D vwCl [] s := hK.sub [] rfl
  exact W.vret hx hb hr (fun t ht9 hW9 => ⟨⟨(), rfl, by first | rfl | trivial | (simp only [if_true, if_false, reduceIte, and_self]; done) | simp_all, ⟨by rw [ht9]; exact hP9, va_K.moved hW9.alike hK9, hD9⟩⟩, hS.F ht9⟩) hS.2.2 dX6_copyFrom_57
set_option maxHeartbeats 4000000 in
set_option maxRecDepth 100000 in
theorem c_Saved_copy0 (l : Launch) (D : va_G) (zst : Nat) (zla : Nat) (zme : Nat) (zli : Nat) (ztol : Int32) (zsu : Int32) (zfa : Int32) (zld : Nat) (zlz : Nat) (zldA : Nat) (zldN : Int32) (zlzA : Nat) (zlzN : Int32) (zmeA : Nat) (zmeN : Int32) (zln : Nat) (zll : Nat) (zlc : Nat) (zlnA : Nat) (zlnN : Int32) (zllA : Nat) (zllN : Int32) (zlcA : Nat) (zlcN : Int32) (st : Nat) (la : Nat) (me : Nat) (li : Nat) (tol : Int32) (su : Int32) (fa : Int32) (ld : Nat) (lz : Nat) (ldA : Nat) (lzA : Nat) (meA : Nat) (ln : Nat) (ll : Nat) (lc : Nat) (lnA : Nat) (llA : Nat) (lcA : Nat) (sz : Nat) : k_Mv (S := Unit) l D yX5_copy cX5_copy 2 none 4 0 0 84 [.ref st, .ref zst] [(zst, .inr (6, [.ref zla, .ref zme, .ref zli, .int ztol, .int zsu, .int zfa])), (zla, .inr (2, [.ref zld, .ref zlz])), (zld, .inr (4, [.ref zldA, .int zldN])), (zlz, .inr (4, [.ref zlzA, .int zlzN])), (zme, .inr (4, [.ref zmeA, .int zmeN])), (zli, .inr (0, [.ref zln, .ref zll, .ref zlc])), (zln, .inr (4, [.ref zlnA, .int zlnN])), (zll, .inr (4, [.ref zllA, .int zllN])), (zlc, .inr (4, [.ref zlcA, .int zlcN])), (st, .inr (6, [.ref la, .ref me, .ref li, .int tol, .int su, .int fa])), (la, .inr (2, [.ref ld, .ref lz])), (ld, .inr (4, [.ref ldA, .int 0])), (lz, .inr (4, [.ref lzA, .int 0])), (me, .inr (4, [.ref meA, .int 0])), (li, .inr (0, [.ref ln, .ref ll, .ref lc])), (ln, .inr (4, [.ref lnA, .int 0])), (ll, .inr (4, [.ref llA, .int 0])), (lc, .inr (4, [.ref lcA, .int 0]))] [] (fun (_ : Unit) => True) (fun _ => [(zst, .inr (6, [.ref zla, .ref zme, .ref zli, .int tol, .int su, .int fa])), (zla, .inr (2, [.ref zld, .ref zlz])), (zld, .inr (4, [.ref zldA, .int 0])), (zlz, .inr (4, [.ref zlzA, .int 0])), (zme, .inr (4, [.ref zmeA, .int 0])), (zli, .inr (0, [.ref zln, .ref zll, .ref zlc])), (zln, .inr (4, [.ref zlnA, .int 0])), (zll, .inr (4, [.ref zllA, .int 0])), (zlc, .inr (4, [.ref zlcA, .int 0])), (st, .inr (6, [.ref la, .ref me, .ref li, .int tol, .int su, .int fa])), (la, .inr (2, [.ref ld, .ref lz])), (ld, .inr (4, [.ref ldA, .int 0])), (lz, .inr (4, [.ref lzA, .int 0])), (me, .inr (4, [.ref meA, .int 0])), (li, .inr (0, [.ref ln, .ref ll, .ref lc])), (ln, .inr (4, [.ref lnA, .int 0])), (ll, .inr (4, [.ref llA, .int 0])), (lc, .inr (4, [.ref lcA, .int 0]))]) (fun _ => []) sz := by
  refine Met.ofW (cc := cX5_copy) (maxL := 2) (ret := none) (by decide) rfl ?_
  intro p e s m args below meth c s₁ B hml hv
  obtain ⟨rfl, hsz, hP, hK, hD0, hG⟩ := hv
  have hx := B.exec
  have hb := B.bytes
  have hr := B.returns
  have ht : ∀ v9 ∈ wsA, v9.before ([.ref st, .ref zst] : List Value).toArray s = true := fun v9 h9 => atoms_spec (ws := k_ws yX5_copy cX5_copy 2 none) B.pre v9 (List.mem_cons_of_mem _ h9)
  have hown : s.vm.findClass RX5 = some m.cls := findClass_of_methodNamed B.named
  have S0 : k_C p s m ([.ref st, .ref zst] : List Value).toArray c cX5_copy 2 RX5 := ⟨hx, hb, hml, hown, ht⟩
  have hlocks := B.notSynchronized
  subst hsz
  have hD := hD0.self (sz := s.heap.size)
  generalize hAe : va_A [(zst, .inr (6, [.ref zla, .ref zme, .ref zli, .int ztol, .int zsu, .int zfa])), (zla, .inr (2, [.ref zld, .ref zlz])), (zld, .inr (4, [.ref zldA, .int zldN])), (zlz, .inr (4, [.ref zlzA, .int zlzN])), (zme, .inr (4, [.ref zmeA, .int zmeN])), (zli, .inr (0, [.ref zln, .ref zll, .ref zlc])), (zln, .inr (4, [.ref zlnA, .int zlnN])), (zll, .inr (4, [.ref zllA, .int zllN])), (zlc, .inr (4, [.ref zlcA, .int zlcN])), (st, .inr (6, [.ref la, .ref me, .ref li, .int tol, .int su, .int fa])), (la, .inr (2, [.ref ld, .ref lz])), (ld, .inr (4, [.ref ldA, .int 0])), (lz, .inr (4, [.ref lzA, .int 0])), (me, .inr (4, [.ref meA, .int 0])), (li, .inr (0, [.ref ln, .ref ll, .ref lc])), (ln, .inr (4, [.ref lnA, .int 0])), (ll, .inr (4, [.ref llA, .int 0])), (lc, .inr (4, [.ref lcA, .int 0]))] s.heap.size = A at hD hG ⊢
  have hA : ∀ q : Nat, s.heap.size ≤ q → A q := fun q h => by rw [← hAe]; exact Or.inr h
  have hS : va_S A s.heap s.heap [] := va_S.rf
  have hl := lv_entry ([.ref st, .ref zst]) (n := 2) (Nat.le_of_ble_eq_true rfl)
  rw [lg_entry_eq]
  generalize (lg_sl ([.ref st, .ref zst]) ++ List.replicate (2 - (lg_sl ([.ref st, .ref zst])).length) Slot.unset).toArray = ls at hl ⊢
  have hl : lv_has ls 2 [(0, .ref st), (1, .ref zst)] := hl
  have hP : va_P D vwCl [(zst, .inr (6, [.ref zla, .ref zme, .ref zli, .int ztol, .int zsu, .int zfa])), (zla, .inr (2, [.ref zld, .ref zlz])), (zld, .inr (4, [.ref zldA, .int zldN])), (zlz, .inr (4, [.ref zlzA, .int zlzN])), (zme, .inr (4, [.ref zmeA, .int zmeN])), (zli, .inr (0, [.ref zln, .ref zll, .ref zlc])), (zln, .inr (4, [.ref zlnA, .int zlnN])), (zll, .inr (4, [.ref zllA, .int zllN])), (zlc, .inr (4, [.ref zlcA, .int zlcN])), (st, .inr (6, [.ref la, .ref me, .ref li, .int tol, .int su, .int fa])), (la, .inr (2, [.ref ld, .ref lz])), (ld, .inr (4, [.ref ldA, .int 0])), (lz, .inr (4, [.ref lzA, .int 0])), (me, .inr (4, [.ref meA, .int 0])), (li, .inr (0, [.ref ln, .ref ll, .ref lc])), (ln, .inr (4, [.ref lnA, .int 0])), (ll, .inr (4, [.ref llA, .int 0])), (lc, .inr (4, [.ref lcA, .int 0]))] s.heap := hP
  refine lv_aload_n hx hb dX5_copy_0 rfl (lv_at hl 0 rfl) ?_
  refine lv_ifnull hx hb dX5_copy_1 ?_
  refine lv_aload_n hx hb dX5_copy_4 rfl (lv_at hl 1 rfl) ?_
  refine lv_ifnull hx hb dX5_copy_5 ?_
  refine lv_aload_n hx hb dX5_copy_8 rfl (lv_at hl 1 rfl) ?_
  refine lv_aload_n hx hb dX5_copy_9 rfl (lv_at hl 0 rfl) ?_
  have ct := k_cut_of (wc := [(zst, .inr (6, [.ref zla, .ref zme, .ref zli, .int ztol, .int zsu, .int zfa])), (zla, .inr (2, [.ref zld, .ref zlz])), (zld, .inr (4, [.ref zldA, .int zldN])), (zlz, .inr (4, [.ref zlzA, .int zlzN])), (zme, .inr (4, [.ref zmeA, .int zmeN])), (zli, .inr (0, [.ref zln, .ref zll, .ref zlc])), (zln, .inr (4, [.ref zlnA, .int zlnN])), (zll, .inr (4, [.ref zllA, .int zllN])), (zlc, .inr (4, [.ref zlcA, .int zlcN])), (st, .inr (6, [.ref la, .ref me, .ref li, .int tol, .int su, .int fa])), (la, .inr (2, [.ref ld, .ref lz])), (ld, .inr (4, [.ref ldA, .int 0])), (lz, .inr (4, [.ref lzA, .int 0])), (me, .inr (4, [.ref meA, .int 0])), (li, .inr (0, [.ref ln, .ref ll, .ref lc])), (ln, .inr (4, [.ref lnA, .int 0])), (ll, .inr (4, [.ref llA, .int 0])), (lc, .inr (4, [.ref lcA, .int 0]))]) (wr := []) (tc := []) hG hS hA hK hP hD [0, 1, 2, 3, 4, 5, 6, 7, 8, 9, 10, 11, 12, 13, 14, 15, 16, 17] [] [] rfl rfl (by decide) (by decide) (by decide) rfl
  refine k_endv (As := [.ref zst, .ref st]) ct (k_runV (As := [.ref st]) (rest := []) S0 Lv_X5_42 rfl (ci := 6) (q0 := 0) rfl rfl ct (c_State_copy0 l D zst zla zme zli ztol zsu zfa zld zlz zldA zldN zlzA zlzN zmeA zmeN zln zll zlc zlnA zlnN zllA zllN zlcA zlcN st la me li tol su fa ld lz ldA lzA meA ln ll lc lnA llA lcA s.heap.size) hl.1 rfl (Nat.le_of_ble_eq_true rfl) rfl dX5_copy_10 ⟨⟨Nat.le_of_ble_eq_true rfl, Nat.le_of_ble_eq_true rfl⟩, Nat.le_of_ble_eq_true rfl, Nat.le_of_ble_eq_true rfl⟩) rfl rfl (fun _ _ H locs hw_2 hP hD hK hS => ?_)
  have hK : va_K D vwCl [] s := hK
  have hP : va_P D vwCl [(zst, .inr (6, [.ref zla, .ref zme, .ref zli, .int tol, .int su, .int fa])), (zla, .inr (2, [.ref zld, .ref zlz])), (zld, .inr (4, [.ref zldA, .int 0])), (zlz, .inr (4, [.ref zlzA, .int 0])), (zme, .inr (4, [.ref zmeA, .int 0])), (zli, .inr (0, [.ref zln, .ref zll, .ref zlc])), (zln, .inr (4, [.ref zlnA, .int 0])), (zll, .inr (4, [.ref zllA, .int 0])), (zlc, .inr (4, [.ref zlcA, .int 0])), (st, .inr (6, [.ref la, .ref me, .ref li, .int tol, .int su, .int fa])), (la, .inr (2, [.ref ld, .ref lz])), (ld, .inr (4, [.ref ldA, .int 0])), (lz, .inr (4, [.ref lzA, .int 0])), (me, .inr (4, [.ref meA, .int 0])), (li, .inr (0, [.ref ln, .ref ll, .ref lc])), (ln, .inr (4, [.ref lnA, .int 0])), (ll, .inr (4, [.ref llA, .int 0])), (lc, .inr (4, [.ref lcA, .int 0]))] H := hP
  have hD : va_D A [(zst, .inr (6, [.ref zla, .ref zme, .ref zli, .int tol, .int su, .int fa])), (zla, .inr (2, [.ref zld, .ref zlz])), (zld, .inr (4, [.ref zldA, .int 0])), (zlz, .inr (4, [.ref zlzA, .int 0])), (zme, .inr (4, [.ref zmeA, .int 0])), (zli, .inr (0, [.ref zln, .ref zll, .ref zlc])), (zln, .inr (4, [.ref zlnA, .int 0])), (zll, .inr (4, [.ref zllA, .int 0])), (zlc, .inr (4, [.ref zlcA, .int 0])), (st, .inr (6, [.ref la, .ref me, .ref li, .int tol, .int su, .int fa])), (la, .inr (2, [.ref ld, .ref lz])), (ld, .inr (4, [.ref ldA, .int 0])), (lz, .inr (4, [.ref lzA, .int 0])), (me, .inr (4, [.ref meA, .int 0])), (li, .inr (0, [.ref ln, .ref ll, .ref lc])), (ln, .inr (4, [.ref lnA, .int 0])), (ll, .inr (4, [.ref llA, .int 0])), (lc, .inr (4, [.ref lcA, .int 0]))] := hD
  have hP9 : va_P D vwCl [(zst, .inr (6, [.ref zla, .ref zme, .ref zli, .int tol, .int su, .int fa])), (zla, .inr (2, [.ref zld, .ref zlz])), (zld, .inr (4, [.ref zldA, .int 0])), (zlz, .inr (4, [.ref zlzA, .int 0])), (zme, .inr (4, [.ref zmeA, .int 0])), (zli, .inr (0, [.ref zln, .ref zll, .ref zlc])), (zln, .inr (4, [.ref zlnA, .int 0])), (zll, .inr (4, [.ref zllA, .int 0])), (zlc, .inr (4, [.ref zlcA, .int 0])), (st, .inr (6, [.ref la, .ref me, .ref li, .int tol, .int su, .int fa])), (la, .inr (2, [.ref ld, .ref lz])), (ld, .inr (4, [.ref ldA, .int 0])), (lz, .inr (4, [.ref lzA, .int 0])), (me, .inr (4, [.ref meA, .int 0])), (li, .inr (0, [.ref ln, .ref ll, .ref lc])), (ln, .inr (4, [.ref lnA, .int 0])), (ll, .inr (4, [.ref llA, .int 0])), (lc, .inr (4, [.ref lcA, .int 0]))] H := hP.sub [0, 1, 2, 3, 4, 5, 6, 7, 8, 9, 10, 11, 12, 13, 14, 15, 16, 17] rfl
  have hD9 : va_D A [(zst, .inr (6, [.ref zla, .ref zme, .ref zli, .int tol, .int su, .int fa])), (zla, .inr (2, [.ref zld, .ref zlz])), (zld, .inr (4, [.ref zldA, .int 0])), (zlz, .inr (4, [.ref zlzA, .int 0])), (zme, .inr (4, [.ref zmeA, .int 0])), (zli, .inr (0, [.ref zln, .ref zll, .ref zlc])), (zln, .inr (4, [.ref zlnA, .int 0])), (zll, .inr (4, [.ref zllA, .int 0])), (zlc, .inr (4, [.ref zlcA, .int 0])), (st, .inr (6, [.ref la, .ref me, .ref li, .int tol, .int su, .int fa])), (la, .inr (2, [.ref ld, .ref lz])), (ld, .inr (4, [.ref ldA, .int 0])), (lz, .inr (4, [.ref lzA, .int 0])), (me, .inr (4, [.ref meA, .int 0])), (li, .inr (0, [.ref ln, .ref ll, .ref lc])), (ln, .inr (4, [.ref lnA, .int 0])), (ll, .inr (4, [.ref llA, .int 0])), (lc, .inr (4, [.ref lcA, .int 0]))] := hD.sub [0, 1, 2, 3, 4, 5, 6, 7, 8, 9, 10, 11, 12, 13, 14, 15, 16, 17] (by decide) rfl
  have hK9 : va_K D vwCl [] s := hK.sub [] rfl
  exact W.vret hx hb hr (fun t ht9 hW9 => ⟨⟨(), rfl, by first | rfl | trivial | (simp only [if_true, if_false, reduceIte, and_self]; done) | simp_all, ⟨by rw [ht9]; exact hP9, va_K.moved hW9.alike hK9, hD9⟩⟩, hS.F ht9⟩) hS.2.2 dX5_copy_13
set_option maxHeartbeats 4000000 in
set_option maxRecDepth 100000 in
theorem c_Saved_at0 (l : Launch) (D : va_G) (hi : Nat) (ri : Nat) (nx : Int32) (kp : Int32) (KS : ClassId) (rf : Nat → Option Nat) (zst : Nat) (hrf : rf 0 = some zst) (sz : Nat) : k_Mr (S := Unit) l D yX5_stateAt cX5_stateAt 2 (some (.object "BarcodeWand$State")) 0 0 0 0 [.ref hi, .int 0] [(hi, .inr (5, [.ref ri, .int nx, .int kp])), (ri, .inl (KS, 6, .inr (.inr (.inr (.inr rf)))))] [(KS, .object "BarcodeWand$State")] (fun (_ : Unit) (r : Nat) => r = zst) (fun _ => [(hi, .inr (5, [.ref ri, .int nx, .int kp])), (ri, .inl (KS, 6, .inr (.inr (.inr (.inr rf)))))]) (fun _ => []) sz := by
  refine Met.ofW (cc := cX5_stateAt) (maxL := 2) (ret := (some (.object "BarcodeWand$State"))) (by decide) rfl ?_
  intro p e s m args below meth c s₁ B hml hv
  obtain ⟨rfl, hsz, hP, hK, hD0, hG⟩ := hv
  have hx := B.exec
  have hb := B.bytes
  have hr := B.returns
  have ht : ∀ v9 ∈ wsA, v9.before ([.ref hi, .int 0] : List Value).toArray s = true := fun v9 h9 => atoms_spec (ws := k_ws yX5_stateAt cX5_stateAt 2 (some (.object "BarcodeWand$State"))) B.pre v9 (List.mem_cons_of_mem _ h9)
  have hown : s.vm.findClass RX5 = some m.cls := findClass_of_methodNamed B.named
  have S0 : k_C p s m ([.ref hi, .int 0] : List Value).toArray c cX5_stateAt 2 RX5 := ⟨hx, hb, hml, hown, ht⟩
  have hlocks := B.notSynchronized
  subst hsz
  have hD := hD0.self (sz := s.heap.size)
  generalize hAe : va_A [(hi, .inr (5, [.ref ri, .int nx, .int kp])), (ri, .inl (KS, 6, .inr (.inr (.inr (.inr rf)))))] s.heap.size = A at hD hG ⊢
  have hA : ∀ q : Nat, s.heap.size ≤ q → A q := fun q h => by rw [← hAe]; exact Or.inr h
  have hS : va_S A s.heap s.heap [] := va_S.rf
  have hl := lv_entry ([.ref hi, .int 0]) (n := 2) (Nat.le_of_ble_eq_true rfl)
  rw [lg_entry_eq]
  generalize (lg_sl ([.ref hi, .int 0]) ++ List.replicate (2 - (lg_sl ([.ref hi, .int 0])).length) Slot.unset).toArray = ls at hl ⊢
  have hl : lv_has ls 2 [(0, .ref hi), (1, .int 0)] := hl
  have hP : va_P D vwCl [(hi, .inr (5, [.ref ri, .int nx, .int kp])), (ri, .inl (KS, 6, .inr (.inr (.inr (.inr rf)))))] s.heap := hP
  refine lv_iload_n hx hb dX5_stateAt_0 rfl (lv_at hl 1 rfl) ?_
  refine lv_if_lt (tgt := 22) hx hb dX5_stateAt_1 (by decide) (fun c9 => absurd c9 (by decide)) (fun _ => ?_)
  refine lv_iload_n hx hb dX5_stateAt_4 rfl (lv_at hl 1 rfl) ?_
  refine lv_aload_n hx hb dX5_stateAt_5 rfl (lv_at hl 0 rfl) ?_
  refine va_get (D := D) (ci := 5) (v := .ref ri) (C := RX5) (T := TX5) (N := 3) hx hb ht inA_X5 hown hK hP 0 rfl rfl 0 (by decide) (ht _ lf_X5_11) (fun _ h9 => h9) rfl dX5_stateAt_6 ?_
  refine va_alen (v := 6) hx hb hK hP 1 0 rfl rfl rfl dX5_stateAt_9 ?_
  refine lv_icmp_ge (tgt := 22) hx hb dX5_stateAt_10 (by decide) (fun c9 => absurd c9 (by decide)) (fun _ => ?_)
  refine lv_aload_n hx hb dX5_stateAt_13 rfl (lv_at hl 0 rfl) ?_
  refine va_get (D := D) (ci := 5) (v := .ref ri) (C := RX5) (T := TX5) (N := 3) hx hb ht inA_X5 hown hK hP 0 rfl rfl 0 (by decide) (ht _ lf_X5_11) (fun _ h9 => h9) rfl dX5_stateAt_14 ?_
  refine lv_iload_n hx hb dX5_stateAt_17 rfl (lv_at hl 1 rfl) ?_
  refine va_aldq hx hb hK hP 1 0 rfl rfl (by unfold vp_in; decide) dX5_stateAt_18 ?_
  refine W.eq (g2 := F0 m 19 ls (.ref zst :: [])) (by rw [show rf (0 : Int32).toNatClampNeg = some zst from hrf]; rfl) ?_
  refine lv_goto (tgt := 23) hx hb dX5_stateAt_19 (by decide) ?_
  have hP9 : va_P D vwCl [(hi, .inr (5, [.ref ri, .int nx, .int kp])), (ri, .inl (KS, 6, .inr (.inr (.inr (.inr rf)))))] s.heap := hP.sub [0, 1] rfl
  have hD9 : va_D A [(hi, .inr (5, [.ref ri, .int nx, .int kp])), (ri, .inl (KS, 6, .inr (.inr (.inr (.inr rf)))))] := hD.sub [0, 1] (by decide) rfl
  have hK9 : va_K D vwCl [] s := hK.sub [] rfl
  exact W.aret (v := .ref zst) hx hb hr (Or.inl ⟨_, rfl⟩) (Or.inr ⟨_, rfl⟩) (fun t ht9 hW9 => ⟨⟨(), zst, rfl, trivial, ⟨by first | rfl | trivial | (simp only [if_true, if_false, reduceIte, and_self]; done) | simp_all, ⟨by rw [ht9]; exact hP9, va_K.moved hW9.alike hK9, hD9⟩⟩⟩, hS.F ht9⟩) hS.2.2 dX5_stateAt_23
set_option maxHeartbeats 4000000 in
set_option maxRecDepth 100000 in
theorem c_Saved_save0 (l : Launch) (D : va_G) (hi : Nat) (ri : Nat) (KS : ClassId) (rf : Nat → Option Nat) (zst : Nat) (zla : Nat) (zme : Nat) (zli : Nat) (ztol : Int32) (zsu : Int32) (zfa : Int32) (zld : Nat) (zlz : Nat) (zldA : Nat) (zldN : Int32) (zlzA : Nat) (zlzN : Int32) (zmeA : Nat) (zmeN : Int32) (zln : Nat) (zll : Nat) (zlc : Nat) (zlnA : Nat) (zlnN : Int32) (zllA : Nat) (zllN : Int32) (zlcA : Nat) (zlcN : Int32) (st : Nat) (la : Nat) (me : Nat) (li : Nat) (tol : Int32) (su : Int32) (fa : Int32) (ld : Nat) (lz : Nat) (ldA : Nat) (lzA : Nat) (meA : Nat) (ln : Nat) (ll : Nat) (lc : Nat) (lnA : Nat) (llA : Nat) (lcA : Nat) (hrf : rf 0 = some zst) (sz : Nat) : k_Mv (S := Unit) l D yX5_save cX5_save 2 none 5 0 0 105 [.ref hi, .ref st] [(hi, .inr (5, [.ref ri, .int 0, .int 0])), (ri, .inl (KS, 6, .inr (.inr (.inr (.inr rf))))), (zst, .inr (6, [.ref zla, .ref zme, .ref zli, .int ztol, .int zsu, .int zfa])), (zla, .inr (2, [.ref zld, .ref zlz])), (zld, .inr (4, [.ref zldA, .int zldN])), (zlz, .inr (4, [.ref zlzA, .int zlzN])), (zme, .inr (4, [.ref zmeA, .int zmeN])), (zli, .inr (0, [.ref zln, .ref zll, .ref zlc])), (zln, .inr (4, [.ref zlnA, .int zlnN])), (zll, .inr (4, [.ref zllA, .int zllN])), (zlc, .inr (4, [.ref zlcA, .int zlcN])), (st, .inr (6, [.ref la, .ref me, .ref li, .int tol, .int su, .int fa])), (la, .inr (2, [.ref ld, .ref lz])), (ld, .inr (4, [.ref ldA, .int 0])), (lz, .inr (4, [.ref lzA, .int 0])), (me, .inr (4, [.ref meA, .int 0])), (li, .inr (0, [.ref ln, .ref ll, .ref lc])), (ln, .inr (4, [.ref lnA, .int 0])), (ll, .inr (4, [.ref llA, .int 0])), (lc, .inr (4, [.ref lcA, .int 0]))] [(KS, .object "BarcodeWand$State")] (fun (_ : Unit) => True) (fun _ => [(hi, .inr (5, [.ref ri, .int 1, .int 1])), (ri, .inl (KS, 6, .inr (.inr (.inr (.inr rf))))), (zst, .inr (6, [.ref zla, .ref zme, .ref zli, .int tol, .int su, .int fa])), (zla, .inr (2, [.ref zld, .ref zlz])), (zld, .inr (4, [.ref zldA, .int 0])), (zlz, .inr (4, [.ref zlzA, .int 0])), (zme, .inr (4, [.ref zmeA, .int 0])), (zli, .inr (0, [.ref zln, .ref zll, .ref zlc])), (zln, .inr (4, [.ref zlnA, .int 0])), (zll, .inr (4, [.ref zllA, .int 0])), (zlc, .inr (4, [.ref zlcA, .int 0])), (st, .inr (6, [.ref la, .ref me, .ref li, .int tol, .int su, .int fa])), (la, .inr (2, [.ref ld, .ref lz])), (ld, .inr (4, [.ref ldA, .int 0])), (lz, .inr (4, [.ref lzA, .int 0])), (me, .inr (4, [.ref meA, .int 0])), (li, .inr (0, [.ref ln, .ref ll, .ref lc])), (ln, .inr (4, [.ref lnA, .int 0])), (ll, .inr (4, [.ref llA, .int 0])), (lc, .inr (4, [.ref lcA, .int 0]))]) (fun _ => []) sz := by
  refine Met.ofW (cc := cX5_save) (maxL := 2) (ret := none) (by decide) rfl ?_
  intro p e s m args below meth c s₁ B hml hv
  obtain ⟨rfl, hsz, hP, hK, hD0, hG⟩ := hv
  have hx := B.exec
  have hb := B.bytes
  have hr := B.returns
  have ht : ∀ v9 ∈ wsA, v9.before ([.ref hi, .ref st] : List Value).toArray s = true := fun v9 h9 => atoms_spec (ws := k_ws yX5_save cX5_save 2 none) B.pre v9 (List.mem_cons_of_mem _ h9)
  have hown : s.vm.findClass RX5 = some m.cls := findClass_of_methodNamed B.named
  have S0 : k_C p s m ([.ref hi, .ref st] : List Value).toArray c cX5_save 2 RX5 := ⟨hx, hb, hml, hown, ht⟩
  have hlocks := B.notSynchronized
  subst hsz
  have hD := hD0.self (sz := s.heap.size)
  generalize hAe : va_A [(hi, .inr (5, [.ref ri, .int 0, .int 0])), (ri, .inl (KS, 6, .inr (.inr (.inr (.inr rf))))), (zst, .inr (6, [.ref zla, .ref zme, .ref zli, .int ztol, .int zsu, .int zfa])), (zla, .inr (2, [.ref zld, .ref zlz])), (zld, .inr (4, [.ref zldA, .int zldN])), (zlz, .inr (4, [.ref zlzA, .int zlzN])), (zme, .inr (4, [.ref zmeA, .int zmeN])), (zli, .inr (0, [.ref zln, .ref zll, .ref zlc])), (zln, .inr (4, [.ref zlnA, .int zlnN])), (zll, .inr (4, [.ref zllA, .int zllN])), (zlc, .inr (4, [.ref zlcA, .int zlcN])), (st, .inr (6, [.ref la, .ref me, .ref li, .int tol, .int su, .int fa])), (la, .inr (2, [.ref ld, .ref lz])), (ld, .inr (4, [.ref ldA, .int 0])), (lz, .inr (4, [.ref lzA, .int 0])), (me, .inr (4, [.ref meA, .int 0])), (li, .inr (0, [.ref ln, .ref ll, .ref lc])), (ln, .inr (4, [.ref lnA, .int 0])), (ll, .inr (4, [.ref llA, .int 0])), (lc, .inr (4, [.ref lcA, .int 0]))] s.heap.size = A at hD hG ⊢
  have hA : ∀ q : Nat, s.heap.size ≤ q → A q := fun q h => by rw [← hAe]; exact Or.inr h
  have hS : va_S A s.heap s.heap [] := va_S.rf
  have hl := lv_entry ([.ref hi, .ref st]) (n := 2) (Nat.le_of_ble_eq_true rfl)
  rw [lg_entry_eq]
  generalize (lg_sl ([.ref hi, .ref st]) ++ List.replicate (2 - (lg_sl ([.ref hi, .ref st])).length) Slot.unset).toArray = ls at hl ⊢
  have hl : lv_has ls 2 [(0, .ref hi), (1, .ref st)] := hl
  have hP : va_P D vwCl [(hi, .inr (5, [.ref ri, .int 0, .int 0])), (ri, .inl (KS, 6, .inr (.inr (.inr (.inr rf))))), (zst, .inr (6, [.ref zla, .ref zme, .ref zli, .int ztol, .int zsu, .int zfa])), (zla, .inr (2, [.ref zld, .ref zlz])), (zld, .inr (4, [.ref zldA, .int zldN])), (zlz, .inr (4, [.ref zlzA, .int zlzN])), (zme, .inr (4, [.ref zmeA, .int zmeN])), (zli, .inr (0, [.ref zln, .ref zll, .ref zlc])), (zln, .inr (4, [.ref zlnA, .int zlnN])), (zll, .inr (4, [.ref zllA, .int zllN])), (zlc, .inr (4, [.ref zlcA, .int zlcN])), (st, .inr (6, [.ref la, .ref me, .ref li, .int tol, .int su, .int fa])), (la, .inr (2, [.ref ld, .ref lz])), (ld, .inr (4, [.ref ldA, .int 0])), (lz, .inr (4, [.ref lzA, .int 0])), (me, .inr (4, [.ref meA, .int 0])), (li, .inr (0, [.ref ln, .ref ll, .ref lc])), (ln, .inr (4, [.ref lnA, .int 0])), (ll, .inr (4, [.ref llA, .int 0])), (lc, .inr (4, [.ref lcA, .int 0]))] s.heap := hP
  refine lv_aload_n hx hb dX5_save_0 rfl (lv_at hl 1 rfl) ?_
  refine lv_aload_n hx hb dX5_save_1 rfl (lv_at hl 0 rfl) ?_
  refine lv_aload_n hx hb dX5_save_2 rfl (lv_at hl 0 rfl) ?_
  refine va_get (D := D) (ci := 5) (v := .int 0) (C := RX5) (T := TX5) (N := 3) hx hb ht inA_X5 hown hK hP 0 rfl rfl 1 (by decide) (ht _ lf_X5_22) (fun _ h9 => h9) rfl dX5_save_3 ?_
  have ct := k_cut_of (wc := [(hi, .inr (5, [.ref ri, .int 0, .int 0])), (ri, .inl (KS, 6, .inr (.inr (.inr (.inr rf)))))]) (wr := [(zst, .inr (6, [.ref zla, .ref zme, .ref zli, .int ztol, .int zsu, .int zfa])), (zla, .inr (2, [.ref zld, .ref zlz])), (zld, .inr (4, [.ref zldA, .int zldN])), (zlz, .inr (4, [.ref zlzA, .int zlzN])), (zme, .inr (4, [.ref zmeA, .int zmeN])), (zli, .inr (0, [.ref zln, .ref zll, .ref zlc])), (zln, .inr (4, [.ref zlnA, .int zlnN])), (zll, .inr (4, [.ref zllA, .int zllN])), (zlc, .inr (4, [.ref zlcA, .int zlcN])), (st, .inr (6, [.ref la, .ref me, .ref li, .int tol, .int su, .int fa])), (la, .inr (2, [.ref ld, .ref lz])), (ld, .inr (4, [.ref ldA, .int 0])), (lz, .inr (4, [.ref lzA, .int 0])), (me, .inr (4, [.ref meA, .int 0])), (li, .inr (0, [.ref ln, .ref ll, .ref lc])), (ln, .inr (4, [.ref lnA, .int 0])), (ll, .inr (4, [.ref llA, .int 0])), (lc, .inr (4, [.ref lcA, .int 0]))]) (tc := [(KS, .object "BarcodeWand$State")]) hG hS hA hK hP hD [0, 1] [2, 3, 4, 5, 6, 7, 8, 9, 10, 11, 12, 13, 14, 15, 16, 17, 18, 19] [0] rfl rfl (by decide) (by decide) (by decide) rfl
  refine k_endr (As := [.ref hi, .int 0]) ct (k_runV (As := [.int 0]) (rest := [.ref st]) S0 Lv_X5_25 rfl (ci := 5) (q0 := 0) rfl rfl ct (c_Saved_at0 l D hi ri 0 0 KS rf zst (by assumption) s.heap.size) hl.1 rfl (Nat.le_of_ble_eq_true rfl) rfl dX5_save_6 ⟨⟨Nat.le_of_ble_eq_true rfl, Nat.le_of_ble_eq_true rfl⟩, Nat.le_of_ble_eq_true rfl, Nat.le_of_ble_eq_true rfl⟩) rfl rfl (fun r_1 _ H locs hw_2 hP hD hK hS => ?_)
  have hK : va_K D vwCl [(KS, .object "BarcodeWand$State")] s := hK
  have hP : va_P D vwCl [(zst, .inr (6, [.ref zla, .ref zme, .ref zli, .int ztol, .int zsu, .int zfa])), (zla, .inr (2, [.ref zld, .ref zlz])), (zld, .inr (4, [.ref zldA, .int zldN])), (zlz, .inr (4, [.ref zlzA, .int zlzN])), (zme, .inr (4, [.ref zmeA, .int zmeN])), (zli, .inr (0, [.ref zln, .ref zll, .ref zlc])), (zln, .inr (4, [.ref zlnA, .int zlnN])), (zll, .inr (4, [.ref zllA, .int zllN])), (zlc, .inr (4, [.ref zlcA, .int zlcN])), (st, .inr (6, [.ref la, .ref me, .ref li, .int tol, .int su, .int fa])), (la, .inr (2, [.ref ld, .ref lz])), (ld, .inr (4, [.ref ldA, .int 0])), (lz, .inr (4, [.ref lzA, .int 0])), (me, .inr (4, [.ref meA, .int 0])), (li, .inr (0, [.ref ln, .ref ll, .ref lc])), (ln, .inr (4, [.ref lnA, .int 0])), (ll, .inr (4, [.ref llA, .int 0])), (lc, .inr (4, [.ref lcA, .int 0])), (hi, .inr (5, [.ref ri, .int 0, .int 0])), (ri, .inl (KS, 6, .inr (.inr (.inr (.inr rf)))))] H := hP
  have hD : va_D A [(zst, .inr (6, [.ref zla, .ref zme, .ref zli, .int ztol, .int zsu, .int zfa])), (zla, .inr (2, [.ref zld, .ref zlz])), (zld, .inr (4, [.ref zldA, .int zldN])), (zlz, .inr (4, [.ref zlzA, .int zlzN])), (zme, .inr (4, [.ref zmeA, .int zmeN])), (zli, .inr (0, [.ref zln, .ref zll, .ref zlc])), (zln, .inr (4, [.ref zlnA, .int zlnN])), (zll, .inr (4, [.ref zllA, .int zllN])), (zlc, .inr (4, [.ref zlcA, .int zlcN])), (st, .inr (6, [.ref la, .ref me, .ref li, .int tol, .int su, .int fa])), (la, .inr (2, [.ref ld, .ref lz])), (ld, .inr (4, [.ref ldA, .int 0])), (lz, .inr (4, [.ref lzA, .int 0])), (me, .inr (4, [.ref meA, .int 0])), (li, .inr (0, [.ref ln, .ref ll, .ref lc])), (ln, .inr (4, [.ref lnA, .int 0])), (ll, .inr (4, [.ref llA, .int 0])), (lc, .inr (4, [.ref lcA, .int 0])), (hi, .inr (5, [.ref ri, .int 0, .int 0])), (ri, .inl (KS, 6, .inr (.inr (.inr (.inr rf)))))] := hD
  have hw_2 : r_1 = zst := hw_2
  have hw_2 := hw_2.symm
  subst hw_2
  have ct := k_cut_of (wc := [(zst, .inr (6, [.ref zla, .ref zme, .ref zli, .int ztol, .int zsu, .int zfa])), (zla, .inr (2, [.ref zld, .ref zlz])), (zld, .inr (4, [.ref zldA, .int zldN])), (zlz, .inr (4, [.ref zlzA, .int zlzN])), (zme, .inr (4, [.ref zmeA, .int zmeN])), (zli, .inr (0, [.ref zln, .ref zll, .ref zlc])), (zln, .inr (4, [.ref zlnA, .int zlnN])), (zll, .inr (4, [.ref zllA, .int zllN])), (zlc, .inr (4, [.ref zlcA, .int zlcN])), (st, .inr (6, [.ref la, .ref me, .ref li, .int tol, .int su, .int fa])), (la, .inr (2, [.ref ld, .ref lz])), (ld, .inr (4, [.ref ldA, .int 0])), (lz, .inr (4, [.ref lzA, .int 0])), (me, .inr (4, [.ref meA, .int 0])), (li, .inr (0, [.ref ln, .ref ll, .ref lc])), (ln, .inr (4, [.ref lnA, .int 0])), (ll, .inr (4, [.ref llA, .int 0])), (lc, .inr (4, [.ref lcA, .int 0]))]) (wr := [(hi, .inr (5, [.ref ri, .int 0, .int 0])), (ri, .inl (KS, 6, .inr (.inr (.inr (.inr rf)))))]) (tc := []) hG hS hA hK hP hD [0, 1, 2, 3, 4, 5, 6, 7, 8, 9, 10, 11, 12, 13, 14, 15, 16, 17] [18, 19] [] rfl rfl (by decide) (by decide) (by decide) rfl
  refine k_endv (As := [.ref st, .ref zst]) ct (k_runS (As := [.ref st, .ref zst]) (rest := []) S0 Ls_X5_29 ct (c_Saved_copy0 l D zst zla zme zli ztol zsu zfa zld zlz zldA zldN zlzA zlzN zmeA zmeN zln zll zlc zlnA zlnN zllA zllN zlcA zlcN st la me li tol su fa ld lz ldA lzA meA ln ll lc lnA llA lcA H.size) hl.1 rfl (Nat.le_of_ble_eq_true rfl) rfl dX5_save_9 ⟨⟨Nat.le_of_ble_eq_true rfl, Nat.le_of_ble_eq_true rfl⟩, Nat.le_of_ble_eq_true rfl, Nat.le_of_ble_eq_true rfl⟩) rfl rfl (fun _ _ H locs hw_4 hP hD hK hS => ?_)
  have hK : va_K D vwCl [(KS, .object "BarcodeWand$State")] s := hK
  have hP : va_P D vwCl [(hi, .inr (5, [.ref ri, .int 0, .int 0])), (ri, .inl (KS, 6, .inr (.inr (.inr (.inr rf))))), (zst, .inr (6, [.ref zla, .ref zme, .ref zli, .int tol, .int su, .int fa])), (zla, .inr (2, [.ref zld, .ref zlz])), (zld, .inr (4, [.ref zldA, .int 0])), (zlz, .inr (4, [.ref zlzA, .int 0])), (zme, .inr (4, [.ref zmeA, .int 0])), (zli, .inr (0, [.ref zln, .ref zll, .ref zlc])), (zln, .inr (4, [.ref zlnA, .int 0])), (zll, .inr (4, [.ref zllA, .int 0])), (zlc, .inr (4, [.ref zlcA, .int 0])), (st, .inr (6, [.ref la, .ref me, .ref li, .int tol, .int su, .int fa])), (la, .inr (2, [.ref ld, .ref lz])), (ld, .inr (4, [.ref ldA, .int 0])), (lz, .inr (4, [.ref lzA, .int 0])), (me, .inr (4, [.ref meA, .int 0])), (li, .inr (0, [.ref ln, .ref ll, .ref lc])), (ln, .inr (4, [.ref lnA, .int 0])), (ll, .inr (4, [.ref llA, .int 0])), (lc, .inr (4, [.ref lcA, .int 0]))] H := hP
  have hD : va_D A [(hi, .inr (5, [.ref ri, .int 0, .int 0])), (ri, .inl (KS, 6, .inr (.inr (.inr (.inr rf))))), (zst, .inr (6, [.ref zla, .ref zme, .ref zli, .int tol, .int su, .int fa])), (zla, .inr (2, [.ref zld, .ref zlz])), (zld, .inr (4, [.ref zldA, .int 0])), (zlz, .inr (4, [.ref zlzA, .int 0])), (zme, .inr (4, [.ref zmeA, .int 0])), (zli, .inr (0, [.ref zln, .ref zll, .ref zlc])), (zln, .inr (4, [.ref zlnA, .int 0])), (zll, .inr (4, [.ref zllA, .int 0])), (zlc, .inr (4, [.ref zlcA, .int 0])), (st, .inr (6, [.ref la, .ref me, .ref li, .int tol, .int su, .int fa])), (la, .inr (2, [.ref ld, .ref lz])), (ld, .inr (4, [.ref ldA, .int 0])), (lz, .inr (4, [.ref lzA, .int 0])), (me, .inr (4, [.ref meA, .int 0])), (li, .inr (0, [.ref ln, .ref ll, .ref lc])), (ln, .inr (4, [.ref lnA, .int 0])), (ll, .inr (4, [.ref llA, .int 0])), (lc, .inr (4, [.ref lcA, .int 0]))] := hD
  refine lv_aload_n hx hb dX5_save_12 rfl (lv_at hl 0 rfl) ?_
  refine lv_aload_n hx hb dX5_save_13 rfl (lv_at hl 0 rfl) ?_
  refine va_get (D := D) (ci := 5) (v := .int 0) (C := RX5) (T := TX5) (N := 3) hx hb ht inA_X5 hown hK hP 0 rfl rfl 1 (by decide) (ht _ lf_X5_22) (fun _ h9 => h9) rfl dX5_save_14 ?_
  refine lv_iconst (v := 1) hx hb dX5_save_17 (by decide) ?_
  refine lv_iadd hx hb dX5_save_18 ?_
  refine k_nrm (y := 1) (by decide) ?_
  refine lv_bipush (v := 6) hx hb dX5_save_19 (by decide) ?_
  refine lv_irem hx hb dX5_save_21 (by decide) ?_
  refine k_nrm (y := 1) (by decide) ?_
  refine va_put (D := D) (ci := 5) (v := .int 1) (ty := .int) (C := RX5) (T := TX5) (N := 3) hx hb ht inA_X5 tyX5 tyX5_ok nmX5 hown hK hP hD hS 0 rfl rfl 1 (by decide) (ht _ lf_X5_22) (fun _ h9 => h9) rfl (tyX5_ok 1 (by decide)) rfl rfl (Nat.le_of_ble_eq_true rfl) dX5_save_22 (fun H locs hP hD hS => ?_)
  have hP : va_P D vwCl [(hi, .inr (5, [.ref ri, .int 1, .int 0])), (ri, .inl (KS, 6, .inr (.inr (.inr (.inr rf))))), (zst, .inr (6, [.ref zla, .ref zme, .ref zli, .int tol, .int su, .int fa])), (zla, .inr (2, [.ref zld, .ref zlz])), (zld, .inr (4, [.ref zldA, .int 0])), (zlz, .inr (4, [.ref zlzA, .int 0])), (zme, .inr (4, [.ref zmeA, .int 0])), (zli, .inr (0, [.ref zln, .ref zll, .ref zlc])), (zln, .inr (4, [.ref zlnA, .int 0])), (zll, .inr (4, [.ref zllA, .int 0])), (zlc, .inr (4, [.ref zlcA, .int 0])), (st, .inr (6, [.ref la, .ref me, .ref li, .int tol, .int su, .int fa])), (la, .inr (2, [.ref ld, .ref lz])), (ld, .inr (4, [.ref ldA, .int 0])), (lz, .inr (4, [.ref lzA, .int 0])), (me, .inr (4, [.ref meA, .int 0])), (li, .inr (0, [.ref ln, .ref ll, .ref lc])), (ln, .inr (4, [.ref lnA, .int 0])), (ll, .inr (4, [.ref llA, .int 0])), (lc, .inr (4, [.ref lcA, .int 0]))] H := hP
  have hD : va_D A [(hi, .inr (5, [.ref ri, .int 1, .int 0])), (ri, .inl (KS, 6, .inr (.inr (.inr (.inr rf))))), (zst, .inr (6, [.ref zla, .ref zme, .ref zli, .int tol, .int su, .int fa])), (zla, .inr (2, [.ref zld, .ref zlz])), (zld, .inr (4, [.ref zldA, .int 0])), (zlz, .inr (4, [.ref zlzA, .int 0])), (zme, .inr (4, [.ref zmeA, .int 0])), (zli, .inr (0, [.ref zln, .ref zll, .ref zlc])), (zln, .inr (4, [.ref zlnA, .int 0])), (zll, .inr (4, [.ref zllA, .int 0])), (zlc, .inr (4, [.ref zlcA, .int 0])), (st, .inr (6, [.ref la, .ref me, .ref li, .int tol, .int su, .int fa])), (la, .inr (2, [.ref ld, .ref lz])), (ld, .inr (4, [.ref ldA, .int 0])), (lz, .inr (4, [.ref lzA, .int 0])), (me, .inr (4, [.ref meA, .int 0])), (li, .inr (0, [.ref ln, .ref ll, .ref lc])), (ln, .inr (4, [.ref lnA, .int 0])), (ll, .inr (4, [.ref llA, .int 0])), (lc, .inr (4, [.ref lcA, .int 0]))] := hD
  refine lv_aload_n hx hb dX5_save_25 rfl (lv_at hl 0 rfl) ?_
  refine lv_aload_n hx hb dX5_save_26 rfl (lv_at hl 0 rfl) ?_
  refine va_get (D := D) (ci := 5) (v := .int 0) (C := RX5) (T := TX5) (N := 3) hx hb ht inA_X5 hown hK hP 0 rfl rfl 2 (by decide) (ht _ lf_X5_18) (fun _ h9 => h9) rfl dX5_save_27 ?_
  refine lv_iconst (v := 1) hx hb dX5_save_30 (by decide) ?_
  refine lv_iadd hx hb dX5_save_31 ?_
  refine k_nrm (y := 1) (by decide) ?_
  refine lv_bipush (v := 6) hx hb dX5_save_32 (by decide) ?_
  refine va_mmin hx hb (by rw [hml]; exact hl.1.symm) hown (ht _ lM_X5_33) (ht _ lM_st_min) (ht _ li_java_lang_Math) (ht _ lM_code_min) (Nat.le_of_ble_eq_true rfl) (Nat.le_of_ble_eq_true rfl) (Nat.le_of_ble_eq_true rfl) (Nat.le_of_ble_eq_true rfl) dX5_save_34 ?_
  refine k_nrm (y := 1) (by decide) ?_
  refine va_put (D := D) (ci := 5) (v := .int 1) (ty := .int) (C := RX5) (T := TX5) (N := 3) hx hb ht inA_X5 tyX5 tyX5_ok nmX5 hown hK hP hD hS 0 rfl rfl 2 (by decide) (ht _ lf_X5_18) (fun _ h9 => h9) rfl (tyX5_ok 2 (by decide)) rfl rfl (Nat.le_of_ble_eq_true rfl) dX5_save_37 (fun H locs hP hD hS => ?_)
  have hP : va_P D vwCl [(hi, .inr (5, [.ref ri, .int 1, .int 1])), (ri, .inl (KS, 6, .inr (.inr (.inr (.inr rf))))), (zst, .inr (6, [.ref zla, .ref zme, .ref zli, .int tol, .int su, .int fa])), (zla, .inr (2, [.ref zld, .ref zlz])), (zld, .inr (4, [.ref zldA, .int 0])), (zlz, .inr (4, [.ref zlzA, .int 0])), (zme, .inr (4, [.ref zmeA, .int 0])), (zli, .inr (0, [.ref zln, .ref zll, .ref zlc])), (zln, .inr (4, [.ref zlnA, .int 0])), (zll, .inr (4, [.ref zllA, .int 0])), (zlc, .inr (4, [.ref zlcA, .int 0])), (st, .inr (6, [.ref la, .ref me, .ref li, .int tol, .int su, .int fa])), (la, .inr (2, [.ref ld, .ref lz])), (ld, .inr (4, [.ref ldA, .int 0])), (lz, .inr (4, [.ref lzA, .int 0])), (me, .inr (4, [.ref meA, .int 0])), (li, .inr (0, [.ref ln, .ref ll, .ref lc])), (ln, .inr (4, [.ref lnA, .int 0])), (ll, .inr (4, [.ref llA, .int 0])), (lc, .inr (4, [.ref lcA, .int 0]))] H := hP
  have hD : va_D A [(hi, .inr (5, [.ref ri, .int 1, .int 1])), (ri, .inl (KS, 6, .inr (.inr (.inr (.inr rf))))), (zst, .inr (6, [.ref zla, .ref zme, .ref zli, .int tol, .int su, .int fa])), (zla, .inr (2, [.ref zld, .ref zlz])), (zld, .inr (4, [.ref zldA, .int 0])), (zlz, .inr (4, [.ref zlzA, .int 0])), (zme, .inr (4, [.ref zmeA, .int 0])), (zli, .inr (0, [.ref zln, .ref zll, .ref zlc])), (zln, .inr (4, [.ref zlnA, .int 0])), (zll, .inr (4, [.ref zllA, .int 0])), (zlc, .inr (4, [.ref zlcA, .int 0])), (st, .inr (6, [.ref la, .ref me, .ref li, .int tol, .int su, .int fa])), (la, .inr (2, [.ref ld, .ref lz])), (ld, .inr (4, [.ref ldA, .int 0])), (lz, .inr (4, [.ref lzA, .int 0])), (me, .inr (4, [.ref meA, .int 0])), (li, .inr (0, [.ref ln, .ref ll, .ref lc])), (ln, .inr (4, [.ref lnA, .int 0])), (ll, .inr (4, [.ref llA, .int 0])), (lc, .inr (4, [.ref lcA, .int 0]))] := hD
  have hP9 : va_P D vwCl [(hi, .inr (5, [.ref ri, .int 1, .int 1])), (ri, .inl (KS, 6, .inr (.inr (.inr (.inr rf))))), (zst, .inr (6, [.ref zla, .ref zme, .ref zli, .int tol, .int su, .int fa])), (zla, .inr (2, [.ref zld, .ref zlz])), (zld, .inr (4, [.ref zldA, .int 0])), (zlz, .inr (4, [.ref zlzA, .int 0])), (zme, .inr (4, [.ref zmeA, .int 0])), (zli, .inr (0, [.ref zln, .ref zll, .ref zlc])), (zln, .inr (4, [.ref zlnA, .int 0])), (zll, .inr (4, [.ref zllA, .int 0])), (zlc, .inr (4, [.ref zlcA, .int 0])), (st, .inr (6, [.ref la, .ref me, .ref li, .int tol, .int su, .int fa])), (la, .inr (2, [.ref ld, .ref lz])), (ld, .inr (4, [.ref ldA, .int 0])), (lz, .inr (4, [.ref lzA, .int 0])), (me, .inr (4, [.ref meA, .int 0])), (li, .inr (0, [.ref ln, .ref ll, .ref lc])), (ln, .inr (4, [.ref lnA, .int 0])), (ll, .inr (4, [.ref llA, .int 0])), (lc, .inr (4, [.ref lcA, .int 0]))] H := hP.sub [0, 1, 2, 3, 4, 5, 6, 7, 8, 9, 10, 11, 12, 13, 14, 15, 16, 17, 18, 19] rfl
  have hD9 : va_D A [(hi, .inr (5, [.ref ri, .int 1, .int 1])), (ri, .inl (KS, 6, .inr (.inr (.inr (.inr rf))))), (zst, .inr (6, [.ref zla, .ref zme, .ref zli, .int tol, .int su, .int fa])), (zla, .inr (2, [.ref zld, .ref zlz])), (zld, .inr (4, [.ref zldA, .int 0])), (zlz, .inr (4, [.ref zlzA, .int 0])), (zme, .inr (4, [.ref zmeA, .int 0])), (zli, .inr (0, [.ref zln, .ref zll, .ref zlc])), (zln, .inr (4, [.ref zlnA, .int 0])), (zll, .inr (4, [.ref zllA, .int 0])), (zlc, .inr (4, [.ref zlcA, .int 0])), (st, .inr (6, [.ref la, .ref me, .ref li, .int tol, .int su, .int fa])), (la, .inr (2, [.ref ld, .ref lz])), (ld, .inr (4, [.ref ldA, .int 0])), (lz, .inr (4, [.ref lzA, .int 0])), (me, .inr (4, [.ref meA, .int 0])), (li, .inr (0, [.ref ln, .ref ll, .ref lc])), (ln, .inr (4, [.ref lnA, .int 0])), (ll, .inr (4, [.ref llA, .int 0])), (lc, .inr (4, [.ref lcA, .int 0]))] := hD.sub [0, 1, 2, 3, 4, 5, 6, 7, 8, 9, 10, 11, 12, 13, 14, 15, 16, 17, 18, 19] (by decide) rfl
  have hK9 : va_K D vwCl [] s := hK.sub [] rfl
  exact W.vret hx hb hr (fun t ht9 hW9 => ⟨⟨(), rfl, by first | rfl | trivial | (simp only [if_true, if_false, reduceIte, and_self]; done) | simp_all, ⟨by rw [ht9]; exact hP9, va_K.moved hW9.alike hK9, hD9⟩⟩, hS.F ht9⟩) hS.2.2 dX5_save_40
set_option maxHeartbeats 4000000 in
set_option maxRecDepth 100000 in
theorem c_Saved_size (l : Launch) (D : va_G) (hi : Nat) (ri : Nat) (nx : Int32) (kp : Int32) (sz : Nat) : k_Mi (S := Unit) l D yX5_size cX5_size 1 (some .int) 0 0 0 0 [.ref hi] [(hi, .inr (5, [.ref ri, .int nx, .int kp]))] [] (fun (r : Int32) (_ : Unit) => r = kp) (fun _ => [(hi, .inr (5, [.ref ri, .int nx, .int kp]))]) (fun _ => []) sz := by
  refine Met.ofW (cc := cX5_size) (maxL := 1) (ret := (some .int)) (by decide) rfl ?_
  intro p e s m args below meth c s₁ B hml hv
  obtain ⟨rfl, hsz, hP, hK, hD0, hG⟩ := hv
  have hx := B.exec
  have hb := B.bytes
  have hr := B.returns
  have ht : ∀ v9 ∈ wsA, v9.before ([.ref hi] : List Value).toArray s = true := fun v9 h9 => atoms_spec (ws := k_ws yX5_size cX5_size 1 (some .int)) B.pre v9 (List.mem_cons_of_mem _ h9)
  have hown : s.vm.findClass RX5 = some m.cls := findClass_of_methodNamed B.named
  have S0 : k_C p s m ([.ref hi] : List Value).toArray c cX5_size 1 RX5 := ⟨hx, hb, hml, hown, ht⟩
  have hlocks := B.notSynchronized
  subst hsz
  have hD := hD0.self (sz := s.heap.size)
  generalize hAe : va_A [(hi, .inr (5, [.ref ri, .int nx, .int kp]))] s.heap.size = A at hD hG ⊢
  have hA : ∀ q : Nat, s.heap.size ≤ q → A q := fun q h => by rw [← hAe]; exact Or.inr h
  have hS : va_S A s.heap s.heap [] := va_S.rf
  have hl := lv_entry ([.ref hi]) (n := 1) (Nat.le_of_ble_eq_true rfl)
  rw [lg_entry_eq]
  generalize (lg_sl ([.ref hi]) ++ List.replicate (1 - (lg_sl ([.ref hi])).length) Slot.unset).toArray = ls at hl ⊢
  have hl : lv_has ls 1 [(0, .ref hi)] := hl
  have hP : va_P D vwCl [(hi, .inr (5, [.ref ri, .int nx, .int kp]))] s.heap := hP
  refine lv_aload_n hx hb dX5_size_0 rfl (lv_at hl 0 rfl) ?_
  refine va_get (D := D) (ci := 5) (v := .int kp) (C := RX5) (T := TX5) (N := 3) hx hb ht inA_X5 hown hK hP 0 rfl rfl 2 (by decide) (ht _ lf_X5_18) (fun _ h9 => h9) rfl dX5_size_1 ?_
  have hP9 : va_P D vwCl [(hi, .inr (5, [.ref ri, .int nx, .int kp]))] s.heap := hP.sub [0] rfl
  have hD9 : va_D A [(hi, .inr (5, [.ref ri, .int nx, .int kp]))] := hD.sub [0] (by decide) rfl
  have hK9 : va_K D vwCl [] s := hK.sub [] rfl
  exact W.iret (v := kp) hx hb hr (fun t ht9 hW9 => ⟨⟨kp, (), rfl, by first | rfl | trivial | (simp only [if_true, if_false, reduceIte, and_self]; done) | simp_all, ⟨by rw [ht9]; exact hP9, va_K.moved hW9.alike hK9, hD9⟩⟩, hS.F ht9⟩) hS.2.2 dX5_size_4
