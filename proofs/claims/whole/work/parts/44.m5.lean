set_option maxRecDepth 20000 in
theorem lk_X8_distance : Cond.code yX8_distance cX8_distance 7 (some .int) ∈ wsA := mA 946 rfl rfl
theorem ly_X8_distance : k_y yX8_distance 3 := ⟨by decide +kernel, by decide +kernel, by decide +kernel⟩
set_option maxRecDepth 20000 in
theorem lm_X8_distance : Cond.instanceMethod yX8_distance ∈ wsA := mA 945 rfl rfl
theorem le_X8_distance : Cond.selects (yX8_distance).cls yX8_distance yX8_distance ∈ wsA := mS 39 rfl rfl
set_option maxRecDepth 20000 in
theorem Lv_X8_91 : k_LV RX8 91 yX8_distance cX8_distance 7 (some .int) 3 := ⟨mA 943 rfl rfl, lm_X8_distance, le_X8_distance, li_BarcodeWandModel, lk_X8_distance, ly_X8_distance⟩
set_option maxRecDepth 20000 in
theorem lk_X8_nearestDigit : Cond.code yX8_nearestDigit cX8_nearestDigit 5 (some .int) ∈ wsA := mA 942 rfl rfl
theorem ly_X8_nearestDigit : k_y yX8_nearestDigit 2 := ⟨by decide +kernel, by decide +kernel, by decide +kernel⟩
set_option maxRecDepth 20000 in
theorem lm_X8_nearestDigit : Cond.instanceMethod yX8_nearestDigit ∈ wsA := mA 941 rfl rfl
theorem le_X8_nearestDigit : Cond.selects (yX8_nearestDigit).cls yX8_nearestDigit yX8_nearestDigit ∈ wsA := mS 38 rfl rfl
set_option maxRecDepth 20000 in
theorem Lv_X8_95 : k_LV RX8 95 yX8_nearestDigit cX8_nearestDigit 5 (some .int) 2 := ⟨mA 939 rfl rfl, lm_X8_nearestDigit, le_X8_nearestDigit, li_BarcodeWandModel, lk_X8_nearestDigit, ly_X8_nearestDigit⟩
theorem dX8_nearestDigit_0 : decode cX8_nearestDigit 0 = .ok (.iconst 0, 1) := by decide +kernel
theorem dX8_nearestDigit_1 : decode cX8_nearestDigit 1 = .ok (.istore_n 3, 1) := by decide +kernel
theorem dX8_nearestDigit_2 : decode cX8_nearestDigit 2 = .ok (.iconst 1, 1) := by decide +kernel
theorem dX8_nearestDigit_3 : decode cX8_nearestDigit 3 = .ok (.istore 4, 2) := by decide +kernel
theorem dX8_nearestDigit_5 : decode cX8_nearestDigit 5 = .ok (.iload 4, 2) := by decide +kernel
theorem dX8_nearestDigit_7 : decode cX8_nearestDigit 7 = .ok (.bipush 10, 2) := by decide +kernel
theorem dX8_nearestDigit_9 : decode cX8_nearestDigit 9 = .ok (.if_icmp .ge 34, 3) := by decide +kernel
theorem dX8_nearestDigit_12 : decode cX8_nearestDigit 12 = .ok (.aload_n 0, 1) := by decide +kernel
theorem dX8_nearestDigit_13 : decode cX8_nearestDigit 13 = .ok (.iload 4, 2) := by decide +kernel
theorem dX8_nearestDigit_15 : decode cX8_nearestDigit 15 = .ok (.iload_n 1, 1) := by decide +kernel
theorem dX8_nearestDigit_16 : decode cX8_nearestDigit 16 = .ok (.iload_n 2, 1) := by decide +kernel
theorem dX8_nearestDigit_17 : decode cX8_nearestDigit 17 = .ok (.invokevirtual 91, 3) := by decide +kernel
theorem dX8_nearestDigit_20 : decode cX8_nearestDigit 20 = .ok (.aload_n 0, 1) := by decide +kernel
theorem dX8_nearestDigit_21 : decode cX8_nearestDigit 21 = .ok (.iload_n 3, 1) := by decide +kernel
theorem dX8_nearestDigit_22 : decode cX8_nearestDigit 22 = .ok (.iload_n 1, 1) := by decide +kernel
theorem dX8_nearestDigit_23 : decode cX8_nearestDigit 23 = .ok (.iload_n 2, 1) := by decide +kernel
theorem dX8_nearestDigit_24 : decode cX8_nearestDigit 24 = .ok (.invokevirtual 91, 3) := by decide +kernel
theorem dX8_nearestDigit_27 : decode cX8_nearestDigit 27 = .ok (.if_icmp .ge 8, 3) := by decide +kernel
theorem dX8_nearestDigit_30 : decode cX8_nearestDigit 30 = .ok (.iload 4, 2) := by decide +kernel
theorem dX8_nearestDigit_32 : decode cX8_nearestDigit 32 = .ok (.goto 4, 3) := by decide +kernel
theorem dX8_nearestDigit_35 : decode cX8_nearestDigit 35 = .ok (.iload_n 3, 1) := by decide +kernel
theorem dX8_nearestDigit_36 : decode cX8_nearestDigit 36 = .ok (.istore_n 3, 1) := by decide +kernel
theorem dX8_nearestDigit_37 : decode cX8_nearestDigit 37 = .ok (.iinc 4 1, 3) := by decide +kernel
theorem dX8_nearestDigit_40 : decode cX8_nearestDigit 40 = .ok (.goto (-35), 3) := by decide +kernel
theorem dX8_nearestDigit_43 : decode cX8_nearestDigit 43 = .ok (.iload_n 3, 1) := by decide +kernel
theorem dX8_nearestDigit_44 : decode cX8_nearestDigit 44 = .ok (.ireturn, 1) := by decide +kernel
theorem dX8_digitAt_0 : decode cX8_digitAt 0 = .ok (.aload_n 0, 1) := by decide +kernel
theorem dX8_digitAt_1 : decode cX8_digitAt 1 = .ok (.iload_n 1, 1) := by decide +kernel
theorem dX8_digitAt_2 : decode cX8_digitAt 2 = .ok (.iload_n 2, 1) := by decide +kernel
theorem dX8_digitAt_3 : decode cX8_digitAt 3 = .ok (.invokevirtual 95, 3) := by decide +kernel
theorem dX8_digitAt_6 : decode cX8_digitAt 6 = .ok (.istore 4, 2) := by decide +kernel
theorem dX8_digitAt_8 : decode cX8_digitAt 8 = .ok (.aload_n 0, 1) := by decide +kernel
theorem dX8_digitAt_9 : decode cX8_digitAt 9 = .ok (.iload 4, 2) := by decide +kernel
theorem dX8_digitAt_11 : decode cX8_digitAt 11 = .ok (.iload_n 1, 1) := by decide +kernel
theorem dX8_digitAt_12 : decode cX8_digitAt 12 = .ok (.iload_n 2, 1) := by decide +kernel
theorem dX8_digitAt_13 : decode cX8_digitAt 13 = .ok (.invokevirtual 91, 3) := by decide +kernel
theorem dX8_digitAt_16 : decode cX8_digitAt 16 = .ok (.istore 5, 2) := by decide +kernel
theorem dX8_digitAt_18 : decode cX8_digitAt 18 = .ok (.iconst 1, 1) := by decide +kernel
theorem dX8_digitAt_19 : decode cX8_digitAt 19 = .ok (.istore 6, 2) := by decide +kernel
theorem dX8_digitAt_21 : decode cX8_digitAt 21 = .ok (.iload 4, 2) := by decide +kernel
theorem dX8_digitAt_23 : decode cX8_digitAt 23 = .ok (.iconst 1, 1) := by decide +kernel
theorem dX8_digitAt_24 : decode cX8_digitAt 24 = .ok (.iadd, 1) := by decide +kernel
theorem dX8_digitAt_25 : decode cX8_digitAt 25 = .ok (.istore 7, 2) := by decide +kernel
theorem dX8_digitAt_27 : decode cX8_digitAt 27 = .ok (.iload 7, 2) := by decide +kernel
theorem dX8_digitAt_29 : decode cX8_digitAt 29 = .ok (.bipush 10, 2) := by decide +kernel
theorem dX8_digitAt_31 : decode cX8_digitAt 31 = .ok (.if_icmp .ge 34, 3) := by decide +kernel
theorem dX8_digitAt_34 : decode cX8_digitAt 34 = .ok (.iload 6, 2) := by decide +kernel
theorem dX8_digitAt_36 : decode cX8_digitAt 36 = .ok (.ifCond .eq 20, 3) := by decide +kernel
theorem dX8_digitAt_39 : decode cX8_digitAt 39 = .ok (.aload_n 0, 1) := by decide +kernel
theorem dX8_digitAt_40 : decode cX8_digitAt 40 = .ok (.iload 7, 2) := by decide +kernel
theorem dX8_digitAt_42 : decode cX8_digitAt 42 = .ok (.iload_n 1, 1) := by decide +kernel
theorem dX8_digitAt_43 : decode cX8_digitAt 43 = .ok (.iload_n 2, 1) := by decide +kernel
theorem dX8_digitAt_44 : decode cX8_digitAt 44 = .ok (.invokevirtual 91, 3) := by decide +kernel
theorem dX8_digitAt_47 : decode cX8_digitAt 47 = .ok (.iload 5, 2) := by decide +kernel
theorem dX8_digitAt_49 : decode cX8_digitAt 49 = .ok (.if_icmp .le 7, 3) := by decide +kernel
theorem dX8_digitAt_52 : decode cX8_digitAt 52 = .ok (.iconst 1, 1) := by decide +kernel
theorem dX8_digitAt_53 : decode cX8_digitAt 53 = .ok (.goto 4, 3) := by decide +kernel
theorem dX8_digitAt_56 : decode cX8_digitAt 56 = .ok (.iconst 0, 1) := by decide +kernel
theorem dX8_digitAt_57 : decode cX8_digitAt 57 = .ok (.istore 6, 2) := by decide +kernel
theorem dX8_digitAt_59 : decode cX8_digitAt 59 = .ok (.iinc 7 1, 3) := by decide +kernel
theorem dX8_digitAt_62 : decode cX8_digitAt 62 = .ok (.goto (-35), 3) := by decide +kernel
theorem dX8_digitAt_65 : decode cX8_digitAt 65 = .ok (.iload 6, 2) := by decide +kernel
theorem dX8_digitAt_67 : decode cX8_digitAt 67 = .ok (.ifCond .eq 23, 3) := by decide +kernel
theorem dX8_digitAt_70 : decode cX8_digitAt 70 = .ok (.iconst 4, 1) := by decide +kernel
theorem dX8_digitAt_71 : decode cX8_digitAt 71 = .ok (.iload 5, 2) := by decide +kernel
theorem dX8_digitAt_73 : decode cX8_digitAt 73 = .ok (.imul, 1) := by decide +kernel
theorem dX8_digitAt_74 : decode cX8_digitAt 74 = .ok (.aload_n 0, 1) := by decide +kernel
theorem dX8_digitAt_75 : decode cX8_digitAt 75 = .ok (.iload_n 1, 1) := by decide +kernel
theorem dX8_digitAt_76 : decode cX8_digitAt 76 = .ok (.iload_n 2, 1) := by decide +kernel
theorem dX8_digitAt_77 : decode cX8_digitAt 77 = .ok (.invokevirtual 85, 3) := by decide +kernel
theorem dX8_digitAt_80 : decode cX8_digitAt 80 = .ok (.iload_n 3, 1) := by decide +kernel
theorem dX8_digitAt_81 : decode cX8_digitAt 81 = .ok (.imul, 1) := by decide +kernel
theorem dX8_digitAt_82 : decode cX8_digitAt 82 = .ok (.if_icmp .gt 8, 3) := by decide +kernel
theorem dX8_digitAt_85 : decode cX8_digitAt 85 = .ok (.iload 4, 2) := by decide +kernel
theorem dX8_digitAt_87 : decode cX8_digitAt 87 = .ok (.goto 4, 3) := by decide +kernel
theorem dX8_digitAt_90 : decode cX8_digitAt 90 = .ok (.iconst (-1), 1) := by decide +kernel
theorem dX8_digitAt_91 : decode cX8_digitAt 91 = .ok (.ireturn, 1) := by decide +kernel
set_option maxHeartbeats 4000000 in
set_option maxRecDepth 100000 in
theorem c_M_nearD (l : Launch) (D : va_G) (mo : Nat) (ms : Nat) (sv : Int32) (mb : Nat) (ty : Int32) (th : Int32) (mk : Nat) (lm : Nat) (mfd : Nat) (mf : Int32) (sp : Int32) (on : Int32) (tw : Int32) (K : ClassId) (lk : Nat → Int32) (i : Nat) (b : Int32) (hi : i + 4 ≤ lm) (hlm : lm ≤ 41) (sz : Nat) : k_Mi (S := Unit) l D yX8_nearestDigit cX8_nearestDigit 5 (some .int) 3 0 0 72 [.ref mo, .int (nI i), .int b] [(mo, .inr (8, [.ref ms, .int sv, .ref mb, .int ty, .int th, .ref mk, .int (nI lm), .ref mfd, .int mf, .int sp, .int on, .int tw])), (mk, .inl (K, 41, .inl lk))] [(K, .int)] (fun (r : Int32) (_ : Unit) => r = (nI (nbN (dsM lm lk b i) 9))) (fun _ => [(mo, .inr (8, [.ref ms, .int sv, .ref mb, .int ty, .int th, .ref mk, .int (nI lm), .ref mfd, .int mf, .int sp, .int on, .int tw])), (mk, .inl (K, 41, .inl lk))]) (fun _ => []) sz := by
  refine Met.ofW (cc := cX8_nearestDigit) (maxL := 5) (ret := (some .int)) (by decide) rfl ?_
  intro p e s m args below meth c s₁ B hml hv
  obtain ⟨rfl, hsz, hP, hK, hD0, hG⟩ := hv
  have hx := B.exec
  have hb := B.bytes
  have hr := B.returns
  have ht : ∀ v9 ∈ wsA, v9.before ([.ref mo, .int (nI i), .int b] : List Value).toArray s = true := fun v9 h9 => atoms_spec (ws := k_ws yX8_nearestDigit cX8_nearestDigit 5 (some .int)) B.pre v9 (List.mem_cons_of_mem _ h9)
  have hown : s.vm.findClass RX8 = some m.cls := findClass_of_methodNamed B.named
  have S0 : k_C p s m ([.ref mo, .int (nI i), .int b] : List Value).toArray c cX8_nearestDigit 5 RX8 := ⟨hx, hb, hml, hown, ht⟩
  have hlocks := B.notSynchronized
  subst hsz
  have hD := hD0.self (sz := s.heap.size)
  generalize hAe : va_A [(mo, .inr (8, [.ref ms, .int sv, .ref mb, .int ty, .int th, .ref mk, .int (nI lm), .ref mfd, .int mf, .int sp, .int on, .int tw])), (mk, .inl (K, 41, .inl lk))] s.heap.size = A at hD hG ⊢
  have hA : ∀ q : Nat, s.heap.size ≤ q → A q := fun q h => by rw [← hAe]; exact Or.inr h
  have hS : va_S A s.heap s.heap [] := va_S.rf
  have hl := lv_entry ([.ref mo, .int (nI i), .int b]) (n := 5) (Nat.le_of_ble_eq_true rfl)
  rw [lg_entry_eq]
  generalize (lg_sl ([.ref mo, .int (nI i), .int b]) ++ List.replicate (5 - (lg_sl ([.ref mo, .int (nI i), .int b])).length) Slot.unset).toArray = ls at hl ⊢
  have hl : lv_has ls 5 [(0, .ref mo), (1, .int (nI i)), (2, .int b)] := hl
  have hP : va_P D vwCl [(mo, .inr (8, [.ref ms, .int sv, .ref mb, .int ty, .int th, .ref mk, .int (nI lm), .ref mfd, .int mf, .int sp, .int on, .int tw])), (mk, .inl (K, 41, .inl lk))] s.heap := hP
  refine lv_iconst (v := 0) hx hb dX8_nearestDigit_0 (by decide) ?_
  refine lv_istore_n (lv' := [(3, .int 0), (0, .ref mo), (1, .int (nI i)), (2, .int b)]) hx hb dX8_nearestDigit_1 rfl hl (by decide) rfl (fun ls hl => ?_)
  refine lv_iconst (v := 1) hx hb dX8_nearestDigit_2 (by decide) ?_
  refine lv_istore (lv' := [(4, .int 1), (3, .int 0), (0, .ref mo), (1, .int (nI i)), (2, .int b)]) hx hb dX8_nearestDigit_3 hl (by decide) rfl (fun ls hl => ?_)
  have hl : lv_has ls 5 [(4, .int 1), (3, .int (nI (nbN (dsM lm lk b i) 0))), (0, .ref mo), (1, .int (nI i)), (2, .int b)] := hl
  have hl : lv_has ls 5 [(4, .int (nI (0 + 1))), (3, .int (nI (nbN (dsM lm lk b i) 0))), (0, .ref mo), (1, .int (nI i)), (2, .int b)] := hl
  refine k_loop (ι := Nat) (fun (j : Nat) H9 locs9 ls9 => (j ≤ 9) ∧ va_P D vwCl [(mo, .inr (8, [.ref ms, .int sv, .ref mb, .int ty, .int th, .ref mk, .int (nI lm), .ref mfd, .int mf, .int sp, .int on, .int tw])), (mk, .inl (K, 41, .inl lk))] H9 ∧ va_D A [(mo, .inr (8, [.ref ms, .int sv, .ref mb, .int ty, .int th, .ref mk, .int (nI lm), .ref mfd, .int mf, .int sp, .int on, .int tw])), (mk, .inl (K, 41, .inl lk))] ∧ va_S A s.heap H9 locs9 ∧ lv_has ls9 5 [(3, .int (nI (nbN (dsM lm lk b i) j))), (4, .int (nI (j + 1))), (0, .ref mo), (1, .int (nI i)), (2, .int b)]) (fun (j : Nat) => 9 - j) ?_ (0) ⟨(Nat.zero_le _), hP.sub [0, 1] rfl, hD.sub [0, 1] (by decide) rfl, hS, lv_sub hl [1, 0, 2, 3, 4] rfl⟩
  intro x9 H locs ls hF9 ih9
  obtain ⟨j, hv9⟩ : ∃ z, z = x9 := ⟨_, rfl⟩
  subst hv9
  obtain ⟨hj, hP, hD, hS, hl⟩ := hF9
  try dsimp only at ih9
  have hP : va_P D vwCl [(mo, .inr (8, [.ref ms, .int sv, .ref mb, .int ty, .int th, .ref mk, .int (nI lm), .ref mfd, .int mf, .int sp, .int on, .int tw])), (mk, .inl (K, 41, .inl lk))] H := hP
  have hD : va_D A [(mo, .inr (8, [.ref ms, .int sv, .ref mb, .int ty, .int th, .ref mk, .int (nI lm), .ref mfd, .int mf, .int sp, .int on, .int tw])), (mk, .inl (K, 41, .inl lk))] := hD
  have hl : lv_has ls 5 [(3, .int (nI (nbN (dsM lm lk b i) j))), (4, .int (nI (j + 1))), (0, .ref mo), (1, .int (nI i)), (2, .int b)] := hl
  refine lv_iload hx hb dX8_nearestDigit_5 (lv_at hl 1 rfl) ?_
  refine lv_bipush (v := 10) hx hb dX8_nearestDigit_7 (by decide) ?_
  refine lv_icmp_ge (tgt := 43) hx hb dX8_nearestDigit_9 (by decide) (fun c_1 => ?_) (fun c_1 => ?_)
  · have hc9 := c_1
    obtain rfl : 9 = j := by rcases Nat.lt_or_ge j 9 with q9 | q9; exact absurd c_1 (nI_ge (b := 10) (by omega) (by decide)); omega
    refine lv_iload_n hx hb dX8_nearestDigit_43 rfl (lv_at hl 0 rfl) ?_
    have hP9 : va_P D vwCl [(mo, .inr (8, [.ref ms, .int sv, .ref mb, .int ty, .int th, .ref mk, .int (nI lm), .ref mfd, .int mf, .int sp, .int on, .int tw])), (mk, .inl (K, 41, .inl lk))] H := hP.sub [0, 1] rfl
    have hD9 : va_D A [(mo, .inr (8, [.ref ms, .int sv, .ref mb, .int ty, .int th, .ref mk, .int (nI lm), .ref mfd, .int mf, .int sp, .int on, .int tw])), (mk, .inl (K, 41, .inl lk))] := hD.sub [0, 1] (by decide) rfl
    have hK9 : va_K D vwCl [] s := hK.sub [] rfl
    exact W.iret (v := (nI (nbN (dsM lm lk b i) 9))) hx hb hr (fun t ht9 hW9 => ⟨⟨(nI (nbN (dsM lm lk b i) 9)), (), rfl, by first | rfl | trivial | (simp only [hj, c_1, if_true, if_false, reduceIte, and_self]; done) | simp_all, ⟨by rw [ht9]; exact hP9, va_K.moved hW9.alike hK9, hD9⟩⟩, hS.F ht9⟩) hS.2.2 dX8_nearestDigit_44
  · have hc9 := c_1
    have hik : j + 1 ≤ 9 := by rcases Nat.lt_or_ge j 9 with q9 | q9; exact q9; exact absurd (nI_le (a := 10) (b := j + 1) (by omega) (by omega)) c_1
    have hnb := nbN_le (dsM lm lk b i) j
    refine lv_aload_n hx hb dX8_nearestDigit_12 rfl (lv_at hl 2 rfl) ?_
    refine lv_iload hx hb dX8_nearestDigit_13 (lv_at hl 1 rfl) ?_
    refine lv_iload_n hx hb dX8_nearestDigit_15 rfl (lv_at hl 3 rfl) ?_
    refine lv_iload_n hx hb dX8_nearestDigit_16 rfl (lv_at hl 4 rfl) ?_
    have ct := k_cut_of (wc := [(mo, .inr (8, [.ref ms, .int sv, .ref mb, .int ty, .int th, .ref mk, .int (nI lm), .ref mfd, .int mf, .int sp, .int on, .int tw])), (mk, .inl (K, 41, .inl lk))]) (wr := []) (tc := [(K, .int)]) hG hS hA hK hP hD [0, 1] [] [0] rfl rfl (by decide) (by decide) (by decide) rfl
    refine k_endi (As := [.ref mo, .int (nI (j + 1)), .int (nI i), .int b]) ct (k_runV (As := [.int (nI (j + 1)), .int (nI i), .int b]) (rest := []) S0 Lv_X8_91 rfl (ci := 8) (q0 := 0) rfl rfl ct (c_M_dist l D mo ms sv mb ty th mk lm mfd mf sp on tw K lk (j + 1) i b (by first | assumption | omega) (by first | assumption | omega) (by first | assumption | omega) H.size) hl.1 rfl (Nat.le_of_ble_eq_true rfl) rfl dX8_nearestDigit_17 ⟨⟨Nat.le_of_ble_eq_true rfl, Nat.le_of_ble_eq_true rfl⟩, Nat.le_of_ble_eq_true rfl, Nat.le_of_ble_eq_true rfl⟩) rfl rfl (fun r_2 _ H locs hw_3 hP hD hK hS => ?_)
    have hK : va_K D vwCl [(K, .int)] s := hK
    have hP : va_P D vwCl [(mo, .inr (8, [.ref ms, .int sv, .ref mb, .int ty, .int th, .ref mk, .int (nI lm), .ref mfd, .int mf, .int sp, .int on, .int tw])), (mk, .inl (K, 41, .inl lk))] H := hP
    have hD : va_D A [(mo, .inr (8, [.ref ms, .int sv, .ref mb, .int ty, .int th, .ref mk, .int (nI lm), .ref mfd, .int mf, .int sp, .int on, .int tw])), (mk, .inl (K, 41, .inl lk))] := hD
    have hw_3 : r_2 = (dsM lm lk b i (j + 1)) := hw_3
    have hw_3 := hw_3.symm
    subst hw_3
    refine k_nrm (y := (dsM lm lk b i (j + 1))) rfl ?_
    refine lv_aload_n hx hb dX8_nearestDigit_20 rfl (lv_at hl 2 rfl) ?_
    refine lv_iload_n hx hb dX8_nearestDigit_21 rfl (lv_at hl 0 rfl) ?_
    refine lv_iload_n hx hb dX8_nearestDigit_22 rfl (lv_at hl 3 rfl) ?_
    refine lv_iload_n hx hb dX8_nearestDigit_23 rfl (lv_at hl 4 rfl) ?_
    have ct := k_cut_of (wc := [(mo, .inr (8, [.ref ms, .int sv, .ref mb, .int ty, .int th, .ref mk, .int (nI lm), .ref mfd, .int mf, .int sp, .int on, .int tw])), (mk, .inl (K, 41, .inl lk))]) (wr := []) (tc := [(K, .int)]) hG hS hA hK hP hD [0, 1] [] [0] rfl rfl (by decide) (by decide) (by decide) rfl
    refine k_endi (As := [.ref mo, .int (nI (nbN (dsM lm lk b i) j)), .int (nI i), .int b]) ct (k_runV (As := [.int (nI (nbN (dsM lm lk b i) j)), .int (nI i), .int b]) (rest := [.int (dsM lm lk b i (j + 1))]) S0 Lv_X8_91 rfl (ci := 8) (q0 := 0) rfl rfl ct (c_M_dist l D mo ms sv mb ty th mk lm mfd mf sp on tw K lk (nbN (dsM lm lk b i) j) i b (by first | assumption | omega) (by first | assumption | omega) (by first | assumption | omega) H.size) hl.1 rfl (Nat.le_of_ble_eq_true rfl) rfl dX8_nearestDigit_24 ⟨⟨Nat.le_of_ble_eq_true rfl, Nat.le_of_ble_eq_true rfl⟩, Nat.le_of_ble_eq_true rfl, Nat.le_of_ble_eq_true rfl⟩) rfl rfl (fun r_4 _ H locs hw_5 hP hD hK hS => ?_)
    have hK : va_K D vwCl [(K, .int)] s := hK
    have hP : va_P D vwCl [(mo, .inr (8, [.ref ms, .int sv, .ref mb, .int ty, .int th, .ref mk, .int (nI lm), .ref mfd, .int mf, .int sp, .int on, .int tw])), (mk, .inl (K, 41, .inl lk))] H := hP
    have hD : va_D A [(mo, .inr (8, [.ref ms, .int sv, .ref mb, .int ty, .int th, .ref mk, .int (nI lm), .ref mfd, .int mf, .int sp, .int on, .int tw])), (mk, .inl (K, 41, .inl lk))] := hD
    have hw_5 : r_4 = (dsM lm lk b i (nbN (dsM lm lk b i) j)) := hw_5
    have hw_5 := hw_5.symm
    subst hw_5
    refine k_nrm (y := (dsM lm lk b i (nbN (dsM lm lk b i) j))) rfl ?_
    refine lv_icmp_ge (tgt := 35) hx hb dX8_nearestDigit_27 (by decide) (fun c_6 => ?_) (fun c_6 => ?_)
    · have hc9 := c_6
      refine lv_iload_n hx hb dX8_nearestDigit_35 rfl (lv_at hl 0 rfl) ?_
      refine k_nrm (y := nI (nbN (dsM lm lk b i) (j + 1))) (by rw [nb_ge c_6]) ?_
      refine lv_istore_n (lv' := [(3, .int (nI (nbN (dsM lm lk b i) (j + 1)))), (4, .int (nI (j + 1))), (0, .ref mo), (1, .int (nI i)), (2, .int b)]) hx hb dX8_nearestDigit_36 rfl hl (by decide) rfl (fun ls hl => ?_)
      obtain ⟨x_7, ex_7⟩ : ∃ z : Int32, z = (nI (j + 1)) + 1 := ⟨_, rfl⟩
      refine lv_iinc (v := x_7) (lv' := [(4, .int x_7), (3, .int (nI (nbN (dsM lm lk b i) (j + 1)))), (0, .ref mo), (1, .int (nI i)), (2, .int b)]) hx hb dX8_nearestDigit_37 hl (k := 1) rfl (by rw [ex_7]; rfl) (by decide) rfl (fun ls hl => ?_)
      refine lv_goto (tgt := 5) hx hb dX8_nearestDigit_40 (by decide) ?_
      have he9 : x_7 = (nI (j + 1 + 1)) := by rw [ex_7]; exact nI_1 _
      rw [he9] at hl
      have hl : lv_has ls 5 [(4, .int (nI (j + 1 + 1))), (3, .int (nI (nbN (dsM lm lk b i) (j + 1)))), (0, .ref mo), (1, .int (nI i)), (2, .int b)] := hl
      exact ih9 (j + 1) H locs ls (by omega) ⟨hik, hP.sub [0, 1] rfl, hD.sub [0, 1] (by decide) rfl, hS, lv_sub hl [1, 0, 2, 3, 4] rfl⟩
    · have hc9 := c_6
      refine lv_iload hx hb dX8_nearestDigit_30 (lv_at hl 1 rfl) ?_
      refine lv_goto (tgt := 36) hx hb dX8_nearestDigit_32 (by decide) ?_
      refine k_nrm (y := nI (nbN (dsM lm lk b i) (j + 1))) (by rw [nb_lt (fa_of_nle c_6)]) ?_
      refine lv_istore_n (lv' := [(3, .int (nI (nbN (dsM lm lk b i) (j + 1)))), (4, .int (nI (j + 1))), (0, .ref mo), (1, .int (nI i)), (2, .int b)]) hx hb dX8_nearestDigit_36 rfl hl (by decide) rfl (fun ls hl => ?_)
      obtain ⟨x_8, ex_8⟩ : ∃ z : Int32, z = (nI (j + 1)) + 1 := ⟨_, rfl⟩
      refine lv_iinc (v := x_8) (lv' := [(4, .int x_8), (3, .int (nI (nbN (dsM lm lk b i) (j + 1)))), (0, .ref mo), (1, .int (nI i)), (2, .int b)]) hx hb dX8_nearestDigit_37 hl (k := 1) rfl (by rw [ex_8]; rfl) (by decide) rfl (fun ls hl => ?_)
      refine lv_goto (tgt := 5) hx hb dX8_nearestDigit_40 (by decide) ?_
      have he9 : x_8 = (nI (j + 1 + 1)) := by rw [ex_8]; exact nI_1 _
      rw [he9] at hl
      have hl : lv_has ls 5 [(4, .int (nI (j + 1 + 1))), (3, .int (nI (nbN (dsM lm lk b i) (j + 1)))), (0, .ref mo), (1, .int (nI i)), (2, .int b)] := hl
      exact ih9 (j + 1) H locs ls (by omega) ⟨hik, hP.sub [0, 1] rfl, hD.sub [0, 1] (by decide) rfl, hS, lv_sub hl [1, 0, 2, 3, 4] rfl⟩
set_option maxHeartbeats 4000000 in
set_option maxRecDepth 100000 in
theorem c_M_digitAt (l : Launch) (D : va_G) (mo : Nat) (ms : Nat) (sv : Int32) (mb : Nat) (ty : Int32) (th : Int32) (mk : Nat) (lm : Nat) (mfd : Nat) (mf : Int32) (sp : Int32) (on : Int32) (tw : Int32) (K : ClassId) (lk : Nat → Int32) (i : Nat) (b : Int32) (to : Int32) (hi : i + 4 ≤ lm) (hlm : lm ≤ 41) (sz : Nat) : k_Mi (S := Unit) l D yX8_digitAt cX8_digitAt 8 (some .int) 4 0 0 96 [.ref mo, .int (nI i), .int b, .int to] [(mo, .inr (8, [.ref ms, .int sv, .ref mb, .int ty, .int th, .ref mk, .int (nI lm), .ref mfd, .int mf, .int sp, .int on, .int tw])), (mk, .inl (K, 41, .inl lk))] [(K, .int)] (fun (r : Int32) (_ : Unit) => r = (dgA (dsM lm lk b i) (sm4 (lnF lm lk b) i) to)) (fun _ => [(mo, .inr (8, [.ref ms, .int sv, .ref mb, .int ty, .int th, .ref mk, .int (nI lm), .ref mfd, .int mf, .int sp, .int on, .int tw])), (mk, .inl (K, 41, .inl lk))]) (fun _ => []) sz := by
  refine Met.ofW (cc := cX8_digitAt) (maxL := 8) (ret := (some .int)) (by decide) rfl ?_
  intro p e s m args below meth c s₁ B hml hv
  obtain ⟨rfl, hsz, hP, hK, hD0, hG⟩ := hv
  have hx := B.exec
  have hb := B.bytes
  have hr := B.returns
  have ht : ∀ v9 ∈ wsA, v9.before ([.ref mo, .int (nI i), .int b, .int to] : List Value).toArray s = true := fun v9 h9 => atoms_spec (ws := k_ws yX8_digitAt cX8_digitAt 8 (some .int)) B.pre v9 (List.mem_cons_of_mem _ h9)
  have hown : s.vm.findClass RX8 = some m.cls := findClass_of_methodNamed B.named
  have S0 : k_C p s m ([.ref mo, .int (nI i), .int b, .int to] : List Value).toArray c cX8_digitAt 8 RX8 := ⟨hx, hb, hml, hown, ht⟩
  have hlocks := B.notSynchronized
  subst hsz
  have hD := hD0.self (sz := s.heap.size)
  generalize hAe : va_A [(mo, .inr (8, [.ref ms, .int sv, .ref mb, .int ty, .int th, .ref mk, .int (nI lm), .ref mfd, .int mf, .int sp, .int on, .int tw])), (mk, .inl (K, 41, .inl lk))] s.heap.size = A at hD hG ⊢
  have hA : ∀ q : Nat, s.heap.size ≤ q → A q := fun q h => by rw [← hAe]; exact Or.inr h
  have hS : va_S A s.heap s.heap [] := va_S.rf
  have hl := lv_entry ([.ref mo, .int (nI i), .int b, .int to]) (n := 8) (Nat.le_of_ble_eq_true rfl)
  rw [lg_entry_eq]
  generalize (lg_sl ([.ref mo, .int (nI i), .int b, .int to]) ++ List.replicate (8 - (lg_sl ([.ref mo, .int (nI i), .int b, .int to])).length) Slot.unset).toArray = ls at hl ⊢
  have hl : lv_has ls 8 [(0, .ref mo), (1, .int (nI i)), (2, .int b), (3, .int to)] := hl
  have hP : va_P D vwCl [(mo, .inr (8, [.ref ms, .int sv, .ref mb, .int ty, .int th, .ref mk, .int (nI lm), .ref mfd, .int mf, .int sp, .int on, .int tw])), (mk, .inl (K, 41, .inl lk))] s.heap := hP
  refine lv_aload_n hx hb dX8_digitAt_0 rfl (lv_at hl 0 rfl) ?_
  refine lv_iload_n hx hb dX8_digitAt_1 rfl (lv_at hl 1 rfl) ?_
  refine lv_iload_n hx hb dX8_digitAt_2 rfl (lv_at hl 2 rfl) ?_
  have ct := k_cut_of (wc := [(mo, .inr (8, [.ref ms, .int sv, .ref mb, .int ty, .int th, .ref mk, .int (nI lm), .ref mfd, .int mf, .int sp, .int on, .int tw])), (mk, .inl (K, 41, .inl lk))]) (wr := []) (tc := [(K, .int)]) hG hS hA hK hP hD [0, 1] [] [0] rfl rfl (by decide) (by decide) (by decide) rfl
  refine k_endi (As := [.ref mo, .int (nI i), .int b]) ct (k_runV (As := [.int (nI i), .int b]) (rest := []) S0 Lv_X8_95 rfl (ci := 8) (q0 := 0) rfl rfl ct (c_M_nearD l D mo ms sv mb ty th mk lm mfd mf sp on tw K lk i b (by first | assumption | omega) (by first | assumption | omega) s.heap.size) hl.1 rfl (Nat.le_of_ble_eq_true rfl) rfl dX8_digitAt_3 ⟨⟨Nat.le_of_ble_eq_true rfl, Nat.le_of_ble_eq_true rfl⟩, Nat.le_of_ble_eq_true rfl, Nat.le_of_ble_eq_true rfl⟩) rfl rfl (fun r_1 _ H locs hw_2 hP hD hK hS => ?_)
  have hK : va_K D vwCl [(K, .int)] s := hK
  have hP : va_P D vwCl [(mo, .inr (8, [.ref ms, .int sv, .ref mb, .int ty, .int th, .ref mk, .int (nI lm), .ref mfd, .int mf, .int sp, .int on, .int tw])), (mk, .inl (K, 41, .inl lk))] H := hP
  have hD : va_D A [(mo, .inr (8, [.ref ms, .int sv, .ref mb, .int ty, .int th, .ref mk, .int (nI lm), .ref mfd, .int mf, .int sp, .int on, .int tw])), (mk, .inl (K, 41, .inl lk))] := hD
  have hw_2 : r_1 = (nI (nbN (dsM lm lk b i) 9)) := hw_2
  have hw_2 := hw_2.symm
  subst hw_2
  refine k_nrm (y := (nI (nbN (dsM lm lk b i) 9))) rfl ?_
  obtain ⟨bs, hbs⟩ : ∃ z9, z9 = nbN (dsM lm lk b i) 9 := ⟨_, rfl⟩
  have hnb : bs ≤ 9 := by rw [hbs]; exact nbN_le _ 9
  refine k_nrm (y := nI bs) (by rw [hbs]) ?_
  refine lv_istore (lv' := [(4, .int (nI bs)), (0, .ref mo), (1, .int (nI i)), (2, .int b), (3, .int to)]) hx hb dX8_digitAt_6 hl (by decide) rfl (fun ls hl => ?_)
  refine lv_aload_n hx hb dX8_digitAt_8 rfl (lv_at hl 1 rfl) ?_
  refine lv_iload hx hb dX8_digitAt_9 (lv_at hl 0 rfl) ?_
  refine lv_iload_n hx hb dX8_digitAt_11 rfl (lv_at hl 2 rfl) ?_
  refine lv_iload_n hx hb dX8_digitAt_12 rfl (lv_at hl 3 rfl) ?_
  have ct := k_cut_of (wc := [(mo, .inr (8, [.ref ms, .int sv, .ref mb, .int ty, .int th, .ref mk, .int (nI lm), .ref mfd, .int mf, .int sp, .int on, .int tw])), (mk, .inl (K, 41, .inl lk))]) (wr := []) (tc := [(K, .int)]) hG hS hA hK hP hD [0, 1] [] [0] rfl rfl (by decide) (by decide) (by decide) rfl
  refine k_endi (As := [.ref mo, .int (nI bs), .int (nI i), .int b]) ct (k_runV (As := [.int (nI bs), .int (nI i), .int b]) (rest := []) S0 Lv_X8_91 rfl (ci := 8) (q0 := 0) rfl rfl ct (c_M_dist l D mo ms sv mb ty th mk lm mfd mf sp on tw K lk bs i b (by first | assumption | omega) (by first | assumption | omega) (by first | assumption | omega) H.size) hl.1 rfl (Nat.le_of_ble_eq_true rfl) rfl dX8_digitAt_13 ⟨⟨Nat.le_of_ble_eq_true rfl, Nat.le_of_ble_eq_true rfl⟩, Nat.le_of_ble_eq_true rfl, Nat.le_of_ble_eq_true rfl⟩) rfl rfl (fun r_3 _ H locs hw_4 hP hD hK hS => ?_)
  have hK : va_K D vwCl [(K, .int)] s := hK
  have hP : va_P D vwCl [(mo, .inr (8, [.ref ms, .int sv, .ref mb, .int ty, .int th, .ref mk, .int (nI lm), .ref mfd, .int mf, .int sp, .int on, .int tw])), (mk, .inl (K, 41, .inl lk))] H := hP
  have hD : va_D A [(mo, .inr (8, [.ref ms, .int sv, .ref mb, .int ty, .int th, .ref mk, .int (nI lm), .ref mfd, .int mf, .int sp, .int on, .int tw])), (mk, .inl (K, 41, .inl lk))] := hD
  have hw_4 : r_3 = (dsM lm lk b i bs) := hw_4
  have hw_4 := hw_4.symm
  subst hw_4
  refine k_nrm (y := (dsM lm lk b i bs)) rfl ?_
  refine lv_istore (lv' := [(5, .int (dsM lm lk b i bs)), (4, .int (nI bs)), (0, .ref mo), (1, .int (nI i)), (2, .int b), (3, .int to)]) hx hb dX8_digitAt_16 hl (by decide) rfl (fun ls hl => ?_)
  refine lv_iconst (v := 1) hx hb dX8_digitAt_18 (by decide) ?_
  refine lv_istore (lv' := [(6, .int 1), (5, .int (dsM lm lk b i bs)), (4, .int (nI bs)), (0, .ref mo), (1, .int (nI i)), (2, .int b), (3, .int to)]) hx hb dX8_digitAt_19 hl (by decide) rfl (fun ls hl => ?_)
  refine lv_iload hx hb dX8_digitAt_21 (lv_at hl 2 rfl) ?_
  refine lv_iconst (v := 1) hx hb dX8_digitAt_23 (by decide) ?_
  refine lv_iadd hx hb dX8_digitAt_24 ?_
  refine k_nrm (y := (nI (bs + 1))) (nI_1 _) ?_
  refine lv_istore (lv' := [(7, .int (nI (bs + 1))), (6, .int 1), (5, .int (dsM lm lk b i bs)), (4, .int (nI bs)), (0, .ref mo), (1, .int (nI i)), (2, .int b), (3, .int to)]) hx hb dX8_digitAt_25 hl (by decide) rfl (fun ls hl => ?_)
  have hl : lv_has ls 8 [(7, .int (nI (bs + 1 + 0))), (6, .int 1), (5, .int (dsM lm lk b i bs)), (4, .int (nI bs)), (0, .ref mo), (1, .int (nI i)), (2, .int b), (3, .int to)] := hl
  have hl : lv_has ls 8 [(7, .int (nI (bs + 1 + 0))), (6, .int (alF (dsM lm lk b i) bs 0)), (5, .int (dsM lm lk b i bs)), (4, .int (nI bs)), (0, .ref mo), (1, .int (nI i)), (2, .int b), (3, .int to)] := hl
  refine k_loop (ι := Nat) (fun (j : Nat) H9 locs9 ls9 => (bs + j ≤ 9) ∧ va_P D vwCl [(mo, .inr (8, [.ref ms, .int sv, .ref mb, .int ty, .int th, .ref mk, .int (nI lm), .ref mfd, .int mf, .int sp, .int on, .int tw])), (mk, .inl (K, 41, .inl lk))] H9 ∧ va_D A [(mo, .inr (8, [.ref ms, .int sv, .ref mb, .int ty, .int th, .ref mk, .int (nI lm), .ref mfd, .int mf, .int sp, .int on, .int tw])), (mk, .inl (K, 41, .inl lk))] ∧ va_S A s.heap H9 locs9 ∧ lv_has ls9 8 [(7, .int (nI (bs + 1 + j))), (6, .int (alF (dsM lm lk b i) bs j)), (5, .int (dsM lm lk b i bs)), (4, .int (nI bs)), (0, .ref mo), (1, .int (nI i)), (2, .int b), (3, .int to)]) (fun (j : Nat) => 9 - j) ?_ (0) ⟨(by omega), hP.sub [0, 1] rfl, hD.sub [0, 1] (by decide) rfl, hS, lv_sub hl [0, 1, 2, 3, 4, 5, 6, 7] rfl⟩
  intro x9 H locs ls hF9 ih9
  obtain ⟨j, hv9⟩ : ∃ z, z = x9 := ⟨_, rfl⟩
  subst hv9
  obtain ⟨hj, hP, hD, hS, hl⟩ := hF9
  try dsimp only at ih9
  have hP : va_P D vwCl [(mo, .inr (8, [.ref ms, .int sv, .ref mb, .int ty, .int th, .ref mk, .int (nI lm), .ref mfd, .int mf, .int sp, .int on, .int tw])), (mk, .inl (K, 41, .inl lk))] H := hP
  have hD : va_D A [(mo, .inr (8, [.ref ms, .int sv, .ref mb, .int ty, .int th, .ref mk, .int (nI lm), .ref mfd, .int mf, .int sp, .int on, .int tw])), (mk, .inl (K, 41, .inl lk))] := hD
  have hl : lv_has ls 8 [(7, .int (nI (bs + 1 + j))), (6, .int (alF (dsM lm lk b i) bs j)), (5, .int (dsM lm lk b i bs)), (4, .int (nI bs)), (0, .ref mo), (1, .int (nI i)), (2, .int b), (3, .int to)] := hl
  refine lv_iload hx hb dX8_digitAt_27 (lv_at hl 0 rfl) ?_
  refine lv_bipush (v := 10) hx hb dX8_digitAt_29 (by decide) ?_
  refine lv_icmp_ge (tgt := 65) hx hb dX8_digitAt_31 (by decide) (fun c_5 => ?_) (fun c_5 => ?_)
  · have hc9 := c_5
    obtain rfl : 9 - bs = j := by rcases Nat.lt_or_ge (bs + 1 + j) 10 with q9 | q9; exact absurd c_5 (nI_ge (b := 10) q9 (by decide)); omega
    refine lv_iload hx hb dX8_digitAt_65 (lv_at hl 1 rfl) ?_
    refine lv_if_eq (tgt := 90) hx hb dX8_digitAt_67 (by decide) (fun c_6 => ?_) (fun c_6 => ?_)
    · have hc9 := c_6
      refine lv_iconst (v := (-1)) hx hb dX8_digitAt_90 (by decide) ?_
      have hP9 : va_P D vwCl [(mo, .inr (8, [.ref ms, .int sv, .ref mb, .int ty, .int th, .ref mk, .int (nI lm), .ref mfd, .int mf, .int sp, .int on, .int tw])), (mk, .inl (K, 41, .inl lk))] H := hP.sub [0, 1] rfl
      have hD9 : va_D A [(mo, .inr (8, [.ref ms, .int sv, .ref mb, .int ty, .int th, .ref mk, .int (nI lm), .ref mfd, .int mf, .int sp, .int on, .int tw])), (mk, .inl (K, 41, .inl lk))] := hD.sub [0, 1] (by decide) rfl
      have hK9 : va_K D vwCl [] s := hK.sub [] rfl
      exact W.iret (v := (-1)) hx hb hr (fun t ht9 hW9 => ⟨⟨(-1), (), rfl, by (show _ = dgB (dsM lm lk b i) (nbN (dsM lm lk b i) 9) (sm4 (lnF lm lk b) i) to; rw [← hbs]; unfold dgB; rw [if_pos c_6]), ⟨by rw [ht9]; exact hP9, va_K.moved hW9.alike hK9, hD9⟩⟩, hS.F ht9⟩) hS.2.2 dX8_digitAt_91
    · have hc9 := c_6
      refine lv_iconst (v := 4) hx hb dX8_digitAt_70 (by decide) ?_
      refine lv_iload hx hb dX8_digitAt_71 (lv_at hl 2 rfl) ?_
      refine lv_imul hx hb dX8_digitAt_73 ?_
      refine k_nrm (y := (4 * dsM lm lk b i bs)) (rfl) ?_
      refine lv_aload_n hx hb dX8_digitAt_74 rfl (lv_at hl 4 rfl) ?_
      refine lv_iload_n hx hb dX8_digitAt_75 rfl (lv_at hl 5 rfl) ?_
      refine lv_iload_n hx hb dX8_digitAt_76 rfl (lv_at hl 6 rfl) ?_
      have ct := k_cut_of (wc := [(mo, .inr (8, [.ref ms, .int sv, .ref mb, .int ty, .int th, .ref mk, .int (nI lm), .ref mfd, .int mf, .int sp, .int on, .int tw])), (mk, .inl (K, 41, .inl lk))]) (wr := []) (tc := [(K, .int)]) hG hS hA hK hP hD [0, 1] [] [0] rfl rfl (by decide) (by decide) (by decide) rfl
      refine k_endi (As := [.ref mo, .int (nI i), .int b]) ct (k_runV (As := [.int (nI i), .int b]) (rest := [.int (4 * dsM lm lk b i bs)]) S0 Lv_X8_85 rfl (ci := 8) (q0 := 0) rfl rfl ct (c_M_sum l D mo ms sv mb ty th mk lm mfd mf sp on tw K lk i b (by first | assumption | omega) (by first | assumption | omega) H.size) hl.1 rfl (Nat.le_of_ble_eq_true rfl) rfl dX8_digitAt_77 ⟨⟨Nat.le_of_ble_eq_true rfl, Nat.le_of_ble_eq_true rfl⟩, Nat.le_of_ble_eq_true rfl, Nat.le_of_ble_eq_true rfl⟩) rfl rfl (fun r_7 _ H locs hw_8 hP hD hK hS => ?_)
      have hK : va_K D vwCl [(K, .int)] s := hK
      have hP : va_P D vwCl [(mo, .inr (8, [.ref ms, .int sv, .ref mb, .int ty, .int th, .ref mk, .int (nI lm), .ref mfd, .int mf, .int sp, .int on, .int tw])), (mk, .inl (K, 41, .inl lk))] H := hP
      have hD : va_D A [(mo, .inr (8, [.ref ms, .int sv, .ref mb, .int ty, .int th, .ref mk, .int (nI lm), .ref mfd, .int mf, .int sp, .int on, .int tw])), (mk, .inl (K, 41, .inl lk))] := hD
      have hw_8 : r_7 = (sm4 (lnF lm lk b) i) := hw_8
      have hw_8 := hw_8.symm
      subst hw_8
      refine k_nrm (y := (sm4 (lnF lm lk b) i)) rfl ?_
      refine lv_iload_n hx hb dX8_digitAt_80 rfl (lv_at hl 7 rfl) ?_
      refine lv_imul hx hb dX8_digitAt_81 ?_
      refine k_nrm (y := ((sm4 (lnF lm lk b) i) * to)) (rfl) ?_
      refine lv_icmp_gt (tgt := 90) hx hb dX8_digitAt_82 (by decide) (fun c_9 => ?_) (fun c_9 => ?_)
      · have hc9 := c_9
        refine lv_iconst (v := (-1)) hx hb dX8_digitAt_90 (by decide) ?_
        have hP9 : va_P D vwCl [(mo, .inr (8, [.ref ms, .int sv, .ref mb, .int ty, .int th, .ref mk, .int (nI lm), .ref mfd, .int mf, .int sp, .int on, .int tw])), (mk, .inl (K, 41, .inl lk))] H := hP.sub [0, 1] rfl
        have hD9 : va_D A [(mo, .inr (8, [.ref ms, .int sv, .ref mb, .int ty, .int th, .ref mk, .int (nI lm), .ref mfd, .int mf, .int sp, .int on, .int tw])), (mk, .inl (K, 41, .inl lk))] := hD.sub [0, 1] (by decide) rfl
        have hK9 : va_K D vwCl [] s := hK.sub [] rfl
        exact W.iret (v := (-1)) hx hb hr (fun t ht9 hW9 => ⟨⟨(-1), (), rfl, by (show _ = dgB (dsM lm lk b i) (nbN (dsM lm lk b i) 9) (sm4 (lnF lm lk b) i) to; rw [← hbs]; unfold dgB; rw [if_neg c_6, if_neg (Int32.not_le.mpr c_9)]), ⟨by rw [ht9]; exact hP9, va_K.moved hW9.alike hK9, hD9⟩⟩, hS.F ht9⟩) hS.2.2 dX8_digitAt_91
      · have hc9 := c_9
        refine lv_iload hx hb dX8_digitAt_85 (lv_at hl 3 rfl) ?_
        refine lv_goto (tgt := 91) hx hb dX8_digitAt_87 (by decide) ?_
        have hP9 : va_P D vwCl [(mo, .inr (8, [.ref ms, .int sv, .ref mb, .int ty, .int th, .ref mk, .int (nI lm), .ref mfd, .int mf, .int sp, .int on, .int tw])), (mk, .inl (K, 41, .inl lk))] H := hP.sub [0, 1] rfl
        have hD9 : va_D A [(mo, .inr (8, [.ref ms, .int sv, .ref mb, .int ty, .int th, .ref mk, .int (nI lm), .ref mfd, .int mf, .int sp, .int on, .int tw])), (mk, .inl (K, 41, .inl lk))] := hD.sub [0, 1] (by decide) rfl
        have hK9 : va_K D vwCl [] s := hK.sub [] rfl
        exact W.iret (v := (nI bs)) hx hb hr (fun t ht9 hW9 => ⟨⟨(nI bs), (), rfl, by (show _ = dgB (dsM lm lk b i) (nbN (dsM lm lk b i) 9) (sm4 (lnF lm lk b) i) to; rw [← hbs]; unfold dgB; rw [if_neg c_6, if_pos (fa_of_nlt c_9)]), ⟨by rw [ht9]; exact hP9, va_K.moved hW9.alike hK9, hD9⟩⟩, hS.F ht9⟩) hS.2.2 dX8_digitAt_91
  · have hc9 := c_5
    have hik : bs + 1 + j ≤ 9 := by rcases Nat.lt_or_ge (bs + 1 + j) 10 with q9 | q9; omega; exact absurd (nI_le (a := 10) q9 (by omega)) c_5
    refine lv_iload hx hb dX8_digitAt_34 (lv_at hl 1 rfl) ?_
    refine lv_if_eq (tgt := 56) hx hb dX8_digitAt_36 (by decide) (fun c_10 => ?_) (fun c_10 => ?_)
    · have hc9 := c_10
      refine lv_iconst (v := 0) hx hb dX8_digitAt_56 (by decide) ?_
      refine k_nrm (y := alF (dsM lm lk b i) bs (j + 1)) (al_0 c_10) ?_
      refine lv_istore (lv' := [(6, .int (alF (dsM lm lk b i) bs (j + 1))), (7, .int (nI (bs + 1 + j))), (5, .int (dsM lm lk b i bs)), (4, .int (nI bs)), (0, .ref mo), (1, .int (nI i)), (2, .int b), (3, .int to)]) hx hb dX8_digitAt_57 hl (by decide) rfl (fun ls hl => ?_)
      obtain ⟨x_11, ex_11⟩ : ∃ z : Int32, z = (nI (bs + 1 + j)) + 1 := ⟨_, rfl⟩
      refine lv_iinc (v := x_11) (lv' := [(7, .int x_11), (6, .int (alF (dsM lm lk b i) bs (j + 1))), (5, .int (dsM lm lk b i bs)), (4, .int (nI bs)), (0, .ref mo), (1, .int (nI i)), (2, .int b), (3, .int to)]) hx hb dX8_digitAt_59 hl (k := 1) rfl (by rw [ex_11]; rfl) (by decide) rfl (fun ls hl => ?_)
      refine lv_goto (tgt := 27) hx hb dX8_digitAt_62 (by decide) ?_
      have he9 : x_11 = (nI (bs + 1 + (j + 1))) := by rw [ex_11]; exact nI_1 _
      rw [he9] at hl
      have hl : lv_has ls 8 [(7, .int (nI (bs + 1 + (j + 1)))), (6, .int (alF (dsM lm lk b i) bs (j + 1))), (5, .int (dsM lm lk b i bs)), (4, .int (nI bs)), (0, .ref mo), (1, .int (nI i)), (2, .int b), (3, .int to)] := hl
      exact ih9 (j + 1) H locs ls (by omega) ⟨(by omega), hP.sub [0, 1] rfl, hD.sub [0, 1] (by decide) rfl, hS, lv_sub hl [0, 1, 2, 3, 4, 5, 6, 7] rfl⟩
    · have hc9 := c_10
      refine lv_aload_n hx hb dX8_digitAt_39 rfl (lv_at hl 4 rfl) ?_
      refine lv_iload hx hb dX8_digitAt_40 (lv_at hl 0 rfl) ?_
      refine lv_iload_n hx hb dX8_digitAt_42 rfl (lv_at hl 5 rfl) ?_
      refine lv_iload_n hx hb dX8_digitAt_43 rfl (lv_at hl 6 rfl) ?_
      have ct := k_cut_of (wc := [(mo, .inr (8, [.ref ms, .int sv, .ref mb, .int ty, .int th, .ref mk, .int (nI lm), .ref mfd, .int mf, .int sp, .int on, .int tw])), (mk, .inl (K, 41, .inl lk))]) (wr := []) (tc := [(K, .int)]) hG hS hA hK hP hD [0, 1] [] [0] rfl rfl (by decide) (by decide) (by decide) rfl
      refine k_endi (As := [.ref mo, .int (nI (bs + 1 + j)), .int (nI i), .int b]) ct (k_runV (As := [.int (nI (bs + 1 + j)), .int (nI i), .int b]) (rest := []) S0 Lv_X8_91 rfl (ci := 8) (q0 := 0) rfl rfl ct (c_M_dist l D mo ms sv mb ty th mk lm mfd mf sp on tw K lk (bs + 1 + j) i b (by first | assumption | omega) (by first | assumption | omega) (by first | assumption | omega) H.size) hl.1 rfl (Nat.le_of_ble_eq_true rfl) rfl dX8_digitAt_44 ⟨⟨Nat.le_of_ble_eq_true rfl, Nat.le_of_ble_eq_true rfl⟩, Nat.le_of_ble_eq_true rfl, Nat.le_of_ble_eq_true rfl⟩) rfl rfl (fun r_12 _ H locs hw_13 hP hD hK hS => ?_)
      have hK : va_K D vwCl [(K, .int)] s := hK
      have hP : va_P D vwCl [(mo, .inr (8, [.ref ms, .int sv, .ref mb, .int ty, .int th, .ref mk, .int (nI lm), .ref mfd, .int mf, .int sp, .int on, .int tw])), (mk, .inl (K, 41, .inl lk))] H := hP
      have hD : va_D A [(mo, .inr (8, [.ref ms, .int sv, .ref mb, .int ty, .int th, .ref mk, .int (nI lm), .ref mfd, .int mf, .int sp, .int on, .int tw])), (mk, .inl (K, 41, .inl lk))] := hD
      have hw_13 : r_12 = (dsM lm lk b i (bs + 1 + j)) := hw_13
      have hw_13 := hw_13.symm
      subst hw_13
      refine k_nrm (y := (dsM lm lk b i (bs + 1 + j))) rfl ?_
      refine lv_iload hx hb dX8_digitAt_47 (lv_at hl 2 rfl) ?_
      refine lv_icmp_le (tgt := 56) hx hb dX8_digitAt_49 (by decide) (fun c_14 => ?_) (fun c_14 => ?_)
      · have hc9 := c_14
        refine lv_iconst (v := 0) hx hb dX8_digitAt_56 (by decide) ?_
        refine k_nrm (y := alF (dsM lm lk b i) bs (j + 1)) (al_1 c_10 c_14) ?_
        refine lv_istore (lv' := [(6, .int (alF (dsM lm lk b i) bs (j + 1))), (7, .int (nI (bs + 1 + j))), (5, .int (dsM lm lk b i bs)), (4, .int (nI bs)), (0, .ref mo), (1, .int (nI i)), (2, .int b), (3, .int to)]) hx hb dX8_digitAt_57 hl (by decide) rfl (fun ls hl => ?_)
        obtain ⟨x_15, ex_15⟩ : ∃ z : Int32, z = (nI (bs + 1 + j)) + 1 := ⟨_, rfl⟩
        refine lv_iinc (v := x_15) (lv' := [(7, .int x_15), (6, .int (alF (dsM lm lk b i) bs (j + 1))), (5, .int (dsM lm lk b i bs)), (4, .int (nI bs)), (0, .ref mo), (1, .int (nI i)), (2, .int b), (3, .int to)]) hx hb dX8_digitAt_59 hl (k := 1) rfl (by rw [ex_15]; rfl) (by decide) rfl (fun ls hl => ?_)
        refine lv_goto (tgt := 27) hx hb dX8_digitAt_62 (by decide) ?_
        have he9 : x_15 = (nI (bs + 1 + (j + 1))) := by rw [ex_15]; exact nI_1 _
        rw [he9] at hl
        have hl : lv_has ls 8 [(7, .int (nI (bs + 1 + (j + 1)))), (6, .int (alF (dsM lm lk b i) bs (j + 1))), (5, .int (dsM lm lk b i bs)), (4, .int (nI bs)), (0, .ref mo), (1, .int (nI i)), (2, .int b), (3, .int to)] := hl
        exact ih9 (j + 1) H locs ls (by omega) ⟨(by omega), hP.sub [0, 1] rfl, hD.sub [0, 1] (by decide) rfl, hS, lv_sub hl [0, 1, 2, 3, 4, 5, 6, 7] rfl⟩
      · have hc9 := c_14
        refine lv_iconst (v := 1) hx hb dX8_digitAt_52 (by decide) ?_
        refine lv_goto (tgt := 57) hx hb dX8_digitAt_53 (by decide) ?_
        refine k_nrm (y := alF (dsM lm lk b i) bs (j + 1)) (al_2 c_10 c_14) ?_
        refine lv_istore (lv' := [(6, .int (alF (dsM lm lk b i) bs (j + 1))), (7, .int (nI (bs + 1 + j))), (5, .int (dsM lm lk b i bs)), (4, .int (nI bs)), (0, .ref mo), (1, .int (nI i)), (2, .int b), (3, .int to)]) hx hb dX8_digitAt_57 hl (by decide) rfl (fun ls hl => ?_)
        obtain ⟨x_16, ex_16⟩ : ∃ z : Int32, z = (nI (bs + 1 + j)) + 1 := ⟨_, rfl⟩
        refine lv_iinc (v := x_16) (lv' := [(7, .int x_16), (6, .int (alF (dsM lm lk b i) bs (j + 1))), (5, .int (dsM lm lk b i bs)), (4, .int (nI bs)), (0, .ref mo), (1, .int (nI i)), (2, .int b), (3, .int to)]) hx hb dX8_digitAt_59 hl (k := 1) rfl (by rw [ex_16]; rfl) (by decide) rfl (fun ls hl => ?_)
        refine lv_goto (tgt := 27) hx hb dX8_digitAt_62 (by decide) ?_
        have he9 : x_16 = (nI (bs + 1 + (j + 1))) := by rw [ex_16]; exact nI_1 _
        rw [he9] at hl
        have hl : lv_has ls 8 [(7, .int (nI (bs + 1 + (j + 1)))), (6, .int (alF (dsM lm lk b i) bs (j + 1))), (5, .int (dsM lm lk b i bs)), (4, .int (nI bs)), (0, .ref mo), (1, .int (nI i)), (2, .int b), (3, .int to)] := hl
        exact ih9 (j + 1) H locs ls (by omega) ⟨(by omega), hP.sub [0, 1] rfl, hD.sub [0, 1] (by decide) rfl, hS, lv_sub hl [0, 1, 2, 3, 4, 5, 6, 7] rfl⟩
