
theorem dL_list_0 : decode cL_list 0 = .ok (.iconst 0, 1) := by decide +kernel
theorem dL_list_1 : decode cL_list 1 = .ok (.istore_n 1, 1) := by decide +kernel
theorem dL_list_2 : decode cL_list 2 = .ok (.iconst 0, 1) := by decide +kernel
theorem dL_list_3 : decode cL_list 3 = .ok (.istore_n 2, 1) := by decide +kernel
theorem dL_list_4 : decode cL_list 4 = .ok (.iload_n 2, 1) := by decide +kernel
theorem dL_list_5 : decode cL_list 5 = .ok (.aload_n 0, 1) := by decide +kernel
theorem dL_list_6 : decode cL_list 6 = .ok (.invokevirtual 120, 3) := by decide +kernel
theorem dL_list_9 : decode cL_list 9 = .ok (.if_icmp .ge 142, 3) := by decide +kernel
theorem dL_list_12 : decode cL_list 12 = .ok (.iconst 1, 1) := by decide +kernel
theorem dL_list_13 : decode cL_list 13 = .ok (.istore_n 3, 1) := by decide +kernel
theorem dL_list_14 : decode cL_list 14 = .ok (.iconst 0, 1) := by decide +kernel
theorem dL_list_15 : decode cL_list 15 = .ok (.istore 4, 2) := by decide +kernel
theorem dL_list_17 : decode cL_list 17 = .ok (.iload 4, 2) := by decide +kernel
theorem dL_list_19 : decode cL_list 19 = .ok (.aload_n 0, 1) := by decide +kernel
theorem dL_list_20 : decode cL_list 20 = .ok (.iload_n 2, 1) := by decide +kernel
theorem dL_list_21 : decode cL_list 21 = .ok (.invokestatic 123, 3) := by decide +kernel
theorem dL_list_24 : decode cL_list 24 = .ok (.if_icmp .ge 21, 3) := by decide +kernel
theorem dL_list_27 : decode cL_list 27 = .ok (.iload 4, 2) := by decide +kernel
theorem dL_list_29 : decode cL_list 29 = .ok (.bipush 9, 2) := by decide +kernel
theorem dL_list_31 : decode cL_list 31 = .ok (.if_icmp .ge 14, 3) := by decide +kernel
theorem dL_list_34 : decode cL_list 34 = .ok (.iload_n 3, 1) := by decide +kernel
theorem dL_list_35 : decode cL_list 35 = .ok (.bipush 10, 2) := by decide +kernel
theorem dL_list_37 : decode cL_list 37 = .ok (.imul, 1) := by decide +kernel
theorem dL_list_38 : decode cL_list 38 = .ok (.istore_n 3, 1) := by decide +kernel
theorem dL_list_39 : decode cL_list 39 = .ok (.iinc 4 1, 3) := by decide +kernel
theorem dL_list_42 : decode cL_list 42 = .ok (.goto (-25), 3) := by decide +kernel
theorem dL_list_45 : decode cL_list 45 = .ok (.aload_n 0, 1) := by decide +kernel
theorem dL_list_46 : decode cL_list 46 = .ok (.iload_n 2, 1) := by decide +kernel
theorem dL_list_47 : decode cL_list 47 = .ok (.invokestatic 123, 3) := by decide +kernel
theorem dL_list_50 : decode cL_list 50 = .ok (.iconst 2, 1) := by decide +kernel
theorem dL_list_51 : decode cL_list 51 = .ok (.if_icmp .lt 39, 3) := by decide +kernel
theorem dL_list_54 : decode cL_list 54 = .ok (.aload_n 0, 1) := by decide +kernel
theorem dL_list_55 : decode cL_list 55 = .ok (.iload_n 2, 1) := by decide +kernel
theorem dL_list_56 : decode cL_list 56 = .ok (.invokestatic 123, 3) := by decide +kernel
theorem dL_list_59 : decode cL_list 59 = .ok (.bipush 9, 2) := by decide +kernel
theorem dL_list_61 : decode cL_list 61 = .ok (.if_icmp .gt 29, 3) := by decide +kernel
theorem dL_list_64 : decode cL_list 64 = .ok (.aload_n 0, 1) := by decide +kernel
theorem dL_list_65 : decode cL_list 65 = .ok (.iload_n 2, 1) := by decide +kernel
theorem dL_list_66 : decode cL_list 66 = .ok (.invokestatic 125, 3) := by decide +kernel
theorem dL_list_69 : decode cL_list 69 = .ok (.ifCond .lt 21, 3) := by decide +kernel
theorem dL_list_72 : decode cL_list 72 = .ok (.aload_n 0, 1) := by decide +kernel
theorem dL_list_73 : decode cL_list 73 = .ok (.iload_n 2, 1) := by decide +kernel
theorem dL_list_74 : decode cL_list 74 = .ok (.invokestatic 125, 3) := by decide +kernel
theorem dL_list_77 : decode cL_list 77 = .ok (.iload_n 3, 1) := by decide +kernel
theorem dL_list_78 : decode cL_list 78 = .ok (.if_icmp .ge 12, 3) := by decide +kernel
theorem dL_list_81 : decode cL_list 81 = .ok (.aload_n 0, 1) := by decide +kernel
theorem dL_list_82 : decode cL_list 82 = .ok (.iload_n 2, 1) := by decide +kernel
theorem dL_list_83 : decode cL_list 83 = .ok (.invokestatic 127, 3) := by decide +kernel
theorem dL_list_86 : decode cL_list 86 = .ok (.iconst 1, 1) := by decide +kernel
theorem dL_list_87 : decode cL_list 87 = .ok (.if_icmp .ge 5, 3) := by decide +kernel
theorem dL_list_90 : decode cL_list 90 = .ok (.iconst 0, 1) := by decide +kernel
theorem dL_list_91 : decode cL_list 91 = .ok (.ireturn, 1) := by decide +kernel
theorem dL_list_92 : decode cL_list 92 = .ok (.iconst 0, 1) := by decide +kernel
theorem dL_list_93 : decode cL_list 93 = .ok (.istore 4, 2) := by decide +kernel
theorem dL_list_95 : decode cL_list 95 = .ok (.iload 4, 2) := by decide +kernel
theorem dL_list_97 : decode cL_list 97 = .ok (.iload_n 2, 1) := by decide +kernel
theorem dL_list_98 : decode cL_list 98 = .ok (.if_icmp .ge 39, 3) := by decide +kernel
theorem dL_list_101 : decode cL_list 101 = .ok (.aload_n 0, 1) := by decide +kernel
theorem dL_list_102 : decode cL_list 102 = .ok (.iload 4, 2) := by decide +kernel
theorem dL_list_104 : decode cL_list 104 = .ok (.invokestatic 125, 3) := by decide +kernel
theorem dL_list_107 : decode cL_list 107 = .ok (.aload_n 0, 1) := by decide +kernel
theorem dL_list_108 : decode cL_list 108 = .ok (.iload_n 2, 1) := by decide +kernel
theorem dL_list_109 : decode cL_list 109 = .ok (.invokestatic 125, 3) := by decide +kernel
theorem dL_list_112 : decode cL_list 112 = .ok (.if_icmp .ne 19, 3) := by decide +kernel
theorem dL_list_115 : decode cL_list 115 = .ok (.aload_n 0, 1) := by decide +kernel
theorem dL_list_116 : decode cL_list 116 = .ok (.iload 4, 2) := by decide +kernel
theorem dL_list_118 : decode cL_list 118 = .ok (.invokestatic 123, 3) := by decide +kernel
theorem dL_list_121 : decode cL_list 121 = .ok (.aload_n 0, 1) := by decide +kernel
theorem dL_list_122 : decode cL_list 122 = .ok (.iload_n 2, 1) := by decide +kernel
theorem dL_list_123 : decode cL_list 123 = .ok (.invokestatic 123, 3) := by decide +kernel
theorem dL_list_126 : decode cL_list 126 = .ok (.if_icmp .ne 5, 3) := by decide +kernel
theorem dL_list_129 : decode cL_list 129 = .ok (.iconst 0, 1) := by decide +kernel
theorem dL_list_130 : decode cL_list 130 = .ok (.ireturn, 1) := by decide +kernel
theorem dL_list_131 : decode cL_list 131 = .ok (.iinc 4 1, 3) := by decide +kernel
theorem dL_list_134 : decode cL_list 134 = .ok (.goto (-39), 3) := by decide +kernel
theorem dL_list_137 : decode cL_list 137 = .ok (.iload_n 1, 1) := by decide +kernel
theorem dL_list_138 : decode cL_list 138 = .ok (.aload_n 0, 1) := by decide +kernel
theorem dL_list_139 : decode cL_list 139 = .ok (.iload_n 2, 1) := by decide +kernel
theorem dL_list_140 : decode cL_list 140 = .ok (.invokestatic 127, 3) := by decide +kernel
theorem dL_list_143 : decode cL_list 143 = .ok (.iadd, 1) := by decide +kernel
theorem dL_list_144 : decode cL_list 144 = .ok (.istore_n 1, 1) := by decide +kernel
theorem dL_list_145 : decode cL_list 145 = .ok (.iinc 2 1, 3) := by decide +kernel
theorem dL_list_148 : decode cL_list 148 = .ok (.goto (-144), 3) := by decide +kernel
theorem dL_list_151 : decode cL_list 151 = .ok (.aload_n 0, 1) := by decide +kernel
theorem dL_list_152 : decode cL_list 152 = .ok (.invokevirtual 120, 3) := by decide +kernel
theorem dL_list_155 : decode cL_list 155 = .ok (.bipush 10, 2) := by decide +kernel
theorem dL_list_157 : decode cL_list 157 = .ok (.if_icmp .gt 32, 3) := by decide +kernel
theorem dL_list_160 : decode cL_list 160 = .ok (.iload_n 1, 1) := by decide +kernel
theorem dL_list_161 : decode cL_list 161 = .ok (.aload_n 0, 1) := by decide +kernel
theorem dL_list_162 : decode cL_list 162 = .ok (.invokevirtual 129, 3) := by decide +kernel
theorem dL_list_165 : decode cL_list 165 = .ok (.if_icmp .gt 24, 3) := by decide +kernel
theorem dL_list_168 : decode cL_list 168 = .ok (.aload_n 0, 1) := by decide +kernel
theorem dL_list_169 : decode cL_list 169 = .ok (.invokevirtual 120, 3) := by decide +kernel
theorem dL_list_172 : decode cL_list 172 = .ok (.bipush 10, 2) := by decide +kernel
theorem dL_list_174 : decode cL_list 174 = .ok (.if_icmp .eq 11, 3) := by decide +kernel
theorem dL_list_177 : decode cL_list 177 = .ok (.iload_n 1, 1) := by decide +kernel
theorem dL_list_178 : decode cL_list 178 = .ok (.aload_n 0, 1) := by decide +kernel
theorem dL_list_179 : decode cL_list 179 = .ok (.invokevirtual 129, 3) := by decide +kernel
theorem dL_list_182 : decode cL_list 182 = .ok (.if_icmp .ne 7, 3) := by decide +kernel
theorem dL_list_185 : decode cL_list 185 = .ok (.iconst 1, 1) := by decide +kernel
theorem dL_list_186 : decode cL_list 186 = .ok (.goto 4, 3) := by decide +kernel
theorem dL_list_189 : decode cL_list 189 = .ok (.iconst 0, 1) := by decide +kernel
theorem dL_list_190 : decode cL_list 190 = .ok (.ireturn, 1) := by decide +kernel
set_option maxHeartbeats 4000000 in
set_option maxRecDepth 100000 in
theorem c_L_list (l : Launch) (D : va_G) (a : Nat → Nat) (K : ClassId) (KS : ClassId) (st : ST) (hs : HT) (sc : SCT) (N : Nat) (hbst : bST st) (hli : lisOk N st) (hN : N < 2 ^ 30) (sz : Nat) : k_Mi (S := Unit) l D yL_list cL_list 5 (some .boolean) 4 0 0 85 [.ref (a 0)] ((WW a K KS st hs sc)) [(K, .int), (KS, .object "BarcodeWand$State")] (fun (r : Int32) (_ : Unit) => r = 1) (fun _ => ((WW a K KS st hs sc))) (fun _ => []) sz := by
  refine Met.ofW (cc := cL_list) (maxL := 5) (ret := (some .boolean)) (by decide) rfl ?_
  intro p e s m args below meth c s₁ B hml hv
  obtain ⟨rfl, hsz, hP, hK, hD0, hG⟩ := hv
  have hx := B.exec
  have hb := B.bytes
  have hr := B.returns
  have ht : ∀ v9 ∈ wsA, v9.before ([.ref (a 0)] : List Value).toArray s = true := fun v9 h9 => atoms_spec (ws := k_ws yL_list cL_list 5 (some .boolean)) B.pre v9 (List.mem_cons_of_mem _ h9)
  have hown : s.vm.findClass RL = some m.cls := findClass_of_methodNamed B.named
  have S0 : k_C p s m ([.ref (a 0)] : List Value).toArray c cL_list 5 RL := ⟨hx, hb, hml, hown, ht⟩
  have hlocks := B.notSynchronized
  subst hsz
  have hD := hD0.self (sz := s.heap.size)
  generalize hAe : va_A ((WW a K KS st hs sc)) s.heap.size = A at hD hG ⊢
  have hA : ∀ q : Nat, s.heap.size ≤ q → A q := fun q h => by rw [← hAe]; exact Or.inr h
  have hS : va_S A s.heap s.heap [] := va_S.rf
  have hl := lv_entry ([.ref (a 0)]) (n := 5) (Nat.le_of_ble_eq_true rfl)
  rw [lg_entry_eq]
  generalize (lg_sl ([.ref (a 0)]) ++ List.replicate (5 - (lg_sl ([.ref (a 0)])).length) Slot.unset).toArray = ls at hl ⊢
  have hl : lv_has ls 5 [(0, .ref (a 0))] := hl
  have hP : va_P D vwCl ((WW a K KS st hs sc)) s.heap := hP
  obtain ⟨hb1, hb2, hb3, hb4⟩ := bST_le hbst
  obtain ⟨l1, l2, C, S, l3, l4, l5, l6, l7⟩ := hli
  refine lv_iconst (v := 0) hx hb dL_list_0 (by decide) ?_
  refine lv_istore_n (lv' := [(1, .int 0), (0, .ref (a 0))]) hx hb dL_list_1 rfl hl (by decide) rfl (fun ls hl => ?_)
  refine lv_iconst (v := 0) hx hb dL_list_2 (by decide) ?_
  refine lv_istore_n (lv' := [(2, .int 0), (1, .int 0), (0, .ref (a 0))]) hx hb dL_list_3 rfl hl (by decide) rfl (fun ls hl => ?_)
  have hl : lv_has ls 5 [(2, .int (nI 0)), (1, .int 0), (0, .ref (a 0))] := hl
  have hl : lv_has ls 5 [(2, .int (nI 0)), (1, .int (nI (fb_sm C 0))), (0, .ref (a 0))] := hl
  refine k_loop (ι := Nat) (fun (i : Nat) H9 locs9 ls9 => (i ≤ s_k st) ∧ va_P D vwCl ((WW a K KS st hs sc)) H9 ∧ va_D A ((WW a K KS st hs sc)) ∧ va_S A s.heap H9 locs9 ∧ lv_has ls9 5 [(2, .int (nI i)), (1, .int (nI (fb_sm C i))), (0, .ref (a 0))]) (fun (i : Nat) => s_k st - i) ?_ (0) ⟨(Nat.zero_le _), k_subP (wp := []) (wp' := []) (T := (WW a K KS st hs sc)) hP [] rfl, k_subD (wp := []) (wp' := []) (T := (WW a K KS st hs sc)) hD [] (by decide) rfl, hS, lv_sub hl [0, 1, 2] rfl⟩
  intro x9 H locs ls hF9 ih9
  obtain ⟨i, hv9⟩ : ∃ z, z = x9 := ⟨_, rfl⟩
  subst hv9
  obtain ⟨hi, hP, hD, hS, hl⟩ := hF9
  try dsimp only at ih9
  have hP : va_P D vwCl ((WW a K KS st hs sc)) H := hP
  have hD : va_D A ((WW a K KS st hs sc)) := hD
  have hl : lv_has ls 5 [(2, .int (nI i)), (1, .int (nI (fb_sm C i))), (0, .ref (a 0))] := hl
  refine lv_iload_n hx hb dL_list_4 rfl (lv_at hl 0 rfl) ?_
  refine lv_aload_n hx hb dL_list_5 rfl (lv_at hl 2 rfl) ?_
  have ct := k_cut_TT (wp := []) (T := (WW a K KS st hs sc)) (wc := []) (wr := []) (tc := [(K, .int), (KS, .object "BarcodeWand$State")]) hG hS hA hK hP hD [] [] [0, 1] rfl rfl (by decide) (by decide) (by decide) rfl
  refine k_endi (As := [.ref (a 0)]) ct (k_runV (As := []) (rest := [.int (nI i)]) S0 Lv_L_120 rfl (ci := 7) (q0 := 0) rfl (WW_0 a K KS st hs sc) ct (c_B_codes l D a K KS st hs sc H.size) hl.1 rfl (Nat.le_of_ble_eq_true rfl) rfl dL_list_6 ⟨⟨Nat.le_of_ble_eq_true rfl, Nat.le_of_ble_eq_true rfl⟩, Nat.le_of_ble_eq_true rfl, Nat.le_of_ble_eq_true rfl⟩) rfl rfl (fun r_1 _ H locs hw_2 hP hD hK hS => ?_)
  have hK : va_K D vwCl [(K, .int), (KS, .object "BarcodeWand$State")] s := hK
  have hP : va_P D vwCl ((WW a K KS st hs sc)) H := hP
  have hD : va_D A ((WW a K KS st hs sc)) := hD
  have hw_2 : r_1 = (nI (s_k st)) := hw_2
  have hw_2 := hw_2.symm
  subst hw_2
  refine k_nrm (y := (nI (s_k st))) rfl ?_
  refine lv_icmp_ge (tgt := 151) hx hb dL_list_9 (by decide) (fun c_3 => ?_) (fun c_3 => ?_)
  · have hc9 := c_3
    obtain rfl : (s_k st) = i := by rcases Nat.lt_or_ge i (s_k st) with q9 | q9; exact absurd c_3 (nI_ge q9 (by omega)); omega
    refine lv_aload_n hx hb dL_list_151 rfl (lv_at hl 2 rfl) ?_
    have ct := k_cut_TT (wp := []) (T := (WW a K KS st hs sc)) (wc := []) (wr := []) (tc := [(K, .int), (KS, .object "BarcodeWand$State")]) hG hS hA hK hP hD [] [] [0, 1] rfl rfl (by decide) (by decide) (by decide) rfl
    refine k_endi (As := [.ref (a 0)]) ct (k_runV (As := []) (rest := []) S0 Lv_L_120 rfl (ci := 7) (q0 := 0) rfl (WW_0 a K KS st hs sc) ct (c_B_codes l D a K KS st hs sc H.size) hl.1 rfl (Nat.le_of_ble_eq_true rfl) rfl dL_list_152 ⟨⟨Nat.le_of_ble_eq_true rfl, Nat.le_of_ble_eq_true rfl⟩, Nat.le_of_ble_eq_true rfl, Nat.le_of_ble_eq_true rfl⟩) rfl rfl (fun r_4 _ H locs hw_5 hP hD hK hS => ?_)
    have hK : va_K D vwCl [(K, .int), (KS, .object "BarcodeWand$State")] s := hK
    have hP : va_P D vwCl ((WW a K KS st hs sc)) H := hP
    have hD : va_D A ((WW a K KS st hs sc)) := hD
    have hw_5 : r_4 = (nI (s_k st)) := hw_5
    have hw_5 := hw_5.symm
    subst hw_5
    refine k_nrm (y := (nI (s_k st))) rfl ?_
    refine lv_bipush (v := 10) hx hb dL_list_155 (by decide) ?_
    refine lv_icmp_gt (tgt := 189) hx hb dL_list_157 (by decide) (fun c9 => absurd c9 (nI_nlt (a := 10) (b := s_k st) hb4 (by decide))) (fun c_6 => ?_)
    refine lv_iload_n hx hb dL_list_160 rfl (lv_at hl 1 rfl) ?_
    refine lv_aload_n hx hb dL_list_161 rfl (lv_at hl 2 rfl) ?_
    have ct := k_cut_TT (wp := []) (T := (WW a K KS st hs sc)) (wc := []) (wr := []) (tc := [(K, .int), (KS, .object "BarcodeWand$State")]) hG hS hA hK hP hD [] [] [0, 1] rfl rfl (by decide) (by decide) (by decide) rfl
    refine k_endi (As := [.ref (a 0)]) ct (k_runV (As := []) (rest := [.int (nI (fb_sm C (s_k st)))]) S0 Lv_L_129 rfl (ci := 7) (q0 := 0) rfl (WW_0 a K KS st hs sc) ct (c_B_successes l D a K KS st hs sc H.size) hl.1 rfl (Nat.le_of_ble_eq_true rfl) rfl dL_list_162 ⟨⟨Nat.le_of_ble_eq_true rfl, Nat.le_of_ble_eq_true rfl⟩, Nat.le_of_ble_eq_true rfl, Nat.le_of_ble_eq_true rfl⟩) rfl rfl (fun r_7 _ H locs hw_8 hP hD hK hS => ?_)
    have hK : va_K D vwCl [(K, .int), (KS, .object "BarcodeWand$State")] s := hK
    have hP : va_P D vwCl ((WW a K KS st hs sc)) H := hP
    have hD : va_D A ((WW a K KS st hs sc)) := hD
    have hw_8 : r_7 = (s_suc st) := hw_8
    have hw_8 := hw_8.symm
    subst hw_8
    refine k_nrm (y := (s_suc st)) rfl ?_
    refine lv_icmp_gt (tgt := 189) hx hb dL_list_165 (by decide) (fun c9 => absurd c9 (by rw [l4]; exact nI_nlt l6 (by omega))) (fun c_9 => ?_)
    refine lv_aload_n hx hb dL_list_168 rfl (lv_at hl 2 rfl) ?_
    have ct := k_cut_TT (wp := []) (T := (WW a K KS st hs sc)) (wc := []) (wr := []) (tc := [(K, .int), (KS, .object "BarcodeWand$State")]) hG hS hA hK hP hD [] [] [0, 1] rfl rfl (by decide) (by decide) (by decide) rfl
    refine k_endi (As := [.ref (a 0)]) ct (k_runV (As := []) (rest := []) S0 Lv_L_120 rfl (ci := 7) (q0 := 0) rfl (WW_0 a K KS st hs sc) ct (c_B_codes l D a K KS st hs sc H.size) hl.1 rfl (Nat.le_of_ble_eq_true rfl) rfl dL_list_169 ⟨⟨Nat.le_of_ble_eq_true rfl, Nat.le_of_ble_eq_true rfl⟩, Nat.le_of_ble_eq_true rfl, Nat.le_of_ble_eq_true rfl⟩) rfl rfl (fun r_10 _ H locs hw_11 hP hD hK hS => ?_)
    have hK : va_K D vwCl [(K, .int), (KS, .object "BarcodeWand$State")] s := hK
    have hP : va_P D vwCl ((WW a K KS st hs sc)) H := hP
    have hD : va_D A ((WW a K KS st hs sc)) := hD
    have hw_11 : r_10 = (nI (s_k st)) := hw_11
    have hw_11 := hw_11.symm
    subst hw_11
    refine k_nrm (y := (nI (s_k st))) rfl ?_
    refine lv_bipush (v := 10) hx hb dL_list_172 (by decide) ?_
    refine lv_icmp_eq (tgt := 185) hx hb dL_list_174 (by decide) (fun c_12 => ?_) (fun c_12 => ?_)
    · have hc9 := c_12
      refine lv_iconst (v := 1) hx hb dL_list_185 (by decide) ?_
      refine lv_goto (tgt := 190) hx hb dL_list_186 (by decide) ?_
      have hP9 : va_P D vwCl ((WW a K KS st hs sc)) H := k_subP (wp := []) (wp' := []) (T := (WW a K KS st hs sc)) hP [] rfl
      have hD9 : va_D A ((WW a K KS st hs sc)) := k_subD (wp := []) (wp' := []) (T := (WW a K KS st hs sc)) hD [] (by decide) rfl
      have hP9 : va_P D vwCl ((WW a K KS st hs sc)) H := hP9
      have hD9 : va_D A ((WW a K KS st hs sc)) := hD9
      have hK9 : va_K D vwCl [] s := hK.sub [] rfl
      exact W.zret (v := 1) hx hb hr (rfl) (fun t ht9 hW9 => ⟨⟨1, (), rfl, by first | rfl | trivial | (simp only [hi, c_3, c_6, c_9, c_12, if_true, if_false, reduceIte, and_self]; done) | simp_all, ⟨by rw [ht9]; exact hP9, va_K.moved hW9.alike hK9, hD9⟩⟩, hS.F ht9⟩) hS.2.2 dL_list_190
    · have hc9 := c_12
      refine lv_iload_n hx hb dL_list_177 rfl (lv_at hl 1 rfl) ?_
      refine lv_aload_n hx hb dL_list_178 rfl (lv_at hl 2 rfl) ?_
      have ct := k_cut_TT (wp := []) (T := (WW a K KS st hs sc)) (wc := []) (wr := []) (tc := [(K, .int), (KS, .object "BarcodeWand$State")]) hG hS hA hK hP hD [] [] [0, 1] rfl rfl (by decide) (by decide) (by decide) rfl
      refine k_endi (As := [.ref (a 0)]) ct (k_runV (As := []) (rest := [.int (nI (fb_sm C (s_k st)))]) S0 Lv_L_129 rfl (ci := 7) (q0 := 0) rfl (WW_0 a K KS st hs sc) ct (c_B_successes l D a K KS st hs sc H.size) hl.1 rfl (Nat.le_of_ble_eq_true rfl) rfl dL_list_179 ⟨⟨Nat.le_of_ble_eq_true rfl, Nat.le_of_ble_eq_true rfl⟩, Nat.le_of_ble_eq_true rfl, Nat.le_of_ble_eq_true rfl⟩) rfl rfl (fun r_13 _ H locs hw_14 hP hD hK hS => ?_)
      have hK : va_K D vwCl [(K, .int), (KS, .object "BarcodeWand$State")] s := hK
      have hP : va_P D vwCl ((WW a K KS st hs sc)) H := hP
      have hD : va_D A ((WW a K KS st hs sc)) := hD
      have hw_14 : r_13 = (s_suc st) := hw_14
      have hw_14 := hw_14.symm
      subst hw_14
      refine k_nrm (y := (s_suc st)) rfl ?_
      refine lv_icmp_ne (tgt := 189) hx hb dL_list_182 (by decide) (fun c9 => absurd (by rw [l4]; rcases l7 with q9 | q9; exact absurd (by rw [q9]; rfl) c_12; rw [q9]) c9) (fun c_15 => ?_)
      refine lv_iconst (v := 1) hx hb dL_list_185 (by decide) ?_
      refine lv_goto (tgt := 190) hx hb dL_list_186 (by decide) ?_
      have hP9 : va_P D vwCl ((WW a K KS st hs sc)) H := k_subP (wp := []) (wp' := []) (T := (WW a K KS st hs sc)) hP [] rfl
      have hD9 : va_D A ((WW a K KS st hs sc)) := k_subD (wp := []) (wp' := []) (T := (WW a K KS st hs sc)) hD [] (by decide) rfl
      have hP9 : va_P D vwCl ((WW a K KS st hs sc)) H := hP9
      have hD9 : va_D A ((WW a K KS st hs sc)) := hD9
      have hK9 : va_K D vwCl [] s := hK.sub [] rfl
      exact W.zret (v := 1) hx hb hr (rfl) (fun t ht9 hW9 => ⟨⟨1, (), rfl, by first | rfl | trivial | (simp only [hi, c_3, c_6, c_9, c_12, c_15, if_true, if_false, reduceIte, and_self]; done) | simp_all, ⟨by rw [ht9]; exact hP9, va_K.moved hW9.alike hK9, hD9⟩⟩, hS.F ht9⟩) hS.2.2 dL_list_190
  · have hc9 := c_3
    have hik : i + 1 ≤ (s_k st) := by rcases Nat.lt_or_ge i (s_k st) with q9 | q9; exact q9; exact absurd (nI_le q9 (by omega)) c_3
    obtain ⟨L, v, v1, v2, v3, v4, v5⟩ := l1 i hik
    obtain ⟨v6, v7⟩ := l3 i hik
    have hvb : v < 1000000000 := Nat.lt_of_lt_of_le v3 (pow_9 v2)
    have hpb := pow_9 v2
    have hC := fb_sm_part C hik
    refine lv_iconst (v := 1) hx hb dL_list_12 (by decide) ?_
    refine lv_istore_n (lv' := [(3, .int 1), (2, .int (nI i)), (1, .int (nI (fb_sm C i))), (0, .ref (a 0))]) hx hb dL_list_13 rfl hl (by decide) rfl (fun ls hl => ?_)
    refine lv_iconst (v := 0) hx hb dL_list_14 (by decide) ?_
    refine lv_istore (lv' := [(4, .int 0), (3, .int 1), (2, .int (nI i)), (1, .int (nI (fb_sm C i))), (0, .ref (a 0))]) hx hb dL_list_15 hl (by decide) rfl (fun ls hl => ?_)
    have hl : lv_has ls 5 [(4, .int (nI 0)), (3, .int 1), (2, .int (nI i)), (1, .int (nI (fb_sm C i))), (0, .ref (a 0))] := hl
    have hl : lv_has ls 5 [(4, .int (nI 0)), (3, .int (pw10 0)), (2, .int (nI i)), (1, .int (nI (fb_sm C i))), (0, .ref (a 0))] := hl
    refine k_loop (ι := Nat) (fun (j : Nat) H9 locs9 ls9 => (j ≤ L) ∧ va_P D vwCl ((WW a K KS st hs sc)) H9 ∧ va_D A ((WW a K KS st hs sc)) ∧ va_S A s.heap H9 locs9 ∧ lv_has ls9 5 [(4, .int (nI j)), (3, .int (pw10 j)), (2, .int (nI i)), (1, .int (nI (fb_sm C i))), (0, .ref (a 0))]) (fun (j : Nat) => L - j) ?_ (0) ⟨(Nat.zero_le _), k_subP (wp := []) (wp' := []) (T := (WW a K KS st hs sc)) hP [] rfl, k_subD (wp := []) (wp' := []) (T := (WW a K KS st hs sc)) hD [] (by decide) rfl, hS, lv_sub hl [0, 1, 2, 3, 4] rfl⟩
    intro x9 H locs ls hF9 ih8
    obtain ⟨j, hv9⟩ : ∃ z, z = x9 := ⟨_, rfl⟩
    subst hv9
    obtain ⟨hj, hP, hD, hS, hl⟩ := hF9
    try dsimp only at ih8
    have hP : va_P D vwCl ((WW a K KS st hs sc)) H := hP
    have hD : va_D A ((WW a K KS st hs sc)) := hD
    have hl : lv_has ls 5 [(4, .int (nI j)), (3, .int (pw10 j)), (2, .int (nI i)), (1, .int (nI (fb_sm C i))), (0, .ref (a 0))] := hl
    refine lv_iload hx hb dL_list_17 (lv_at hl 0 rfl) ?_
    refine lv_aload_n hx hb dL_list_19 rfl (lv_at hl 4 rfl) ?_
    refine lv_iload_n hx hb dL_list_20 rfl (lv_at hl 2 rfl) ?_
    have ct := k_cut_TT (wp := []) (T := (WW a K KS st hs sc)) (wc := []) (wr := []) (tc := [(K, .int), (KS, .object "BarcodeWand$State")]) hG hS hA hK hP hD [] [] [0, 1] rfl rfl (by decide) (by decide) (by decide) rfl
    refine k_endi (As := [.ref (a 0), .int (nI i)]) ct (k_runSW (As := [.ref (a 0), .int (nI i)]) (rest := [.int (nI j)]) S0 Ls_L_123 ct (c_L_codeLength l D a K KS st hs sc (nI i) (inR_in (by omega) (by omega)) H.size) hl.1 rfl (Nat.le_of_ble_eq_true rfl) rfl dL_list_21 ⟨⟨Nat.le_of_ble_eq_true rfl, Nat.le_of_ble_eq_true rfl⟩, Nat.le_of_ble_eq_true rfl, Nat.le_of_ble_eq_true rfl⟩) rfl rfl (fun r_16 _ H locs hw_17 hP hD hK hS => ?_)
    have hK : va_K D vwCl [(K, .int), (KS, .object "BarcodeWand$State")] s := hK
    have hP : va_P D vwCl ((WW a K KS st hs sc)) H := hP
    have hD : va_D A ((WW a K KS st hs sc)) := hD
    have hw_17 : r_16 = (rowAt 10 (nI (s_k st)) (s_g st) (nI i)) := hw_17
    have hw_17 := hw_17.symm
    subst hw_17
    refine k_nrm (y := (rowAt 10 (nI (s_k st)) (s_g st) (nI i))) rfl ?_
    refine k_nrm (y := nI L) ((rowAt_lt (by omega) hb4 (by decide)).trans v4) ?_
    refine lv_icmp_ge (tgt := 45) hx hb dL_list_24 (by decide) (fun c_18 => ?_) (fun c_18 => ?_)
    · have hc9 := c_18
      obtain rfl : L = j := by rcases Nat.lt_or_ge j L with q9 | q9; exact absurd c_18 (nI_ge q9 (by omega)); omega
      refine lv_aload_n hx hb dL_list_45 rfl (lv_at hl 4 rfl) ?_
      refine lv_iload_n hx hb dL_list_46 rfl (lv_at hl 2 rfl) ?_
      have ct := k_cut_TT (wp := []) (T := (WW a K KS st hs sc)) (wc := []) (wr := []) (tc := [(K, .int), (KS, .object "BarcodeWand$State")]) hG hS hA hK hP hD [] [] [0, 1] rfl rfl (by decide) (by decide) (by decide) rfl
      refine k_endi (As := [.ref (a 0), .int (nI i)]) ct (k_runSW (As := [.ref (a 0), .int (nI i)]) (rest := []) S0 Ls_L_123 ct (c_L_codeLength l D a K KS st hs sc (nI i) (inR_in (by omega) (by omega)) H.size) hl.1 rfl (Nat.le_of_ble_eq_true rfl) rfl dL_list_47 ⟨⟨Nat.le_of_ble_eq_true rfl, Nat.le_of_ble_eq_true rfl⟩, Nat.le_of_ble_eq_true rfl, Nat.le_of_ble_eq_true rfl⟩) rfl rfl (fun r_19 _ H locs hw_20 hP hD hK hS => ?_)
      have hK : va_K D vwCl [(K, .int), (KS, .object "BarcodeWand$State")] s := hK
      have hP : va_P D vwCl ((WW a K KS st hs sc)) H := hP
      have hD : va_D A ((WW a K KS st hs sc)) := hD
      have hw_20 : r_19 = (rowAt 10 (nI (s_k st)) (s_g st) (nI i)) := hw_20
      have hw_20 := hw_20.symm
      subst hw_20
      refine k_nrm (y := (rowAt 10 (nI (s_k st)) (s_g st) (nI i))) rfl ?_
      refine k_nrm (y := nI L) ((rowAt_lt (by omega) hb4 (by decide)).trans v4) ?_
      refine lv_iconst (v := 2) hx hb dL_list_50 (by decide) ?_
      refine lv_icmp_lt (tgt := 90) hx hb dL_list_51 (by decide) (fun c9 => absurd c9 (nI_nlt (a := L) (b := 2) v1 (by omega))) (fun c_21 => ?_)
      refine lv_aload_n hx hb dL_list_54 rfl (lv_at hl 4 rfl) ?_
      refine lv_iload_n hx hb dL_list_55 rfl (lv_at hl 2 rfl) ?_
      have ct := k_cut_TT (wp := []) (T := (WW a K KS st hs sc)) (wc := []) (wr := []) (tc := [(K, .int), (KS, .object "BarcodeWand$State")]) hG hS hA hK hP hD [] [] [0, 1] rfl rfl (by decide) (by decide) (by decide) rfl
      refine k_endi (As := [.ref (a 0), .int (nI i)]) ct (k_runSW (As := [.ref (a 0), .int (nI i)]) (rest := []) S0 Ls_L_123 ct (c_L_codeLength l D a K KS st hs sc (nI i) (inR_in (by omega) (by omega)) H.size) hl.1 rfl (Nat.le_of_ble_eq_true rfl) rfl dL_list_56 ⟨⟨Nat.le_of_ble_eq_true rfl, Nat.le_of_ble_eq_true rfl⟩, Nat.le_of_ble_eq_true rfl, Nat.le_of_ble_eq_true rfl⟩) rfl rfl (fun r_22 _ H locs hw_23 hP hD hK hS => ?_)
      have hK : va_K D vwCl [(K, .int), (KS, .object "BarcodeWand$State")] s := hK
      have hP : va_P D vwCl ((WW a K KS st hs sc)) H := hP
      have hD : va_D A ((WW a K KS st hs sc)) := hD
      have hw_23 : r_22 = (rowAt 10 (nI (s_k st)) (s_g st) (nI i)) := hw_23
      have hw_23 := hw_23.symm
      subst hw_23
      refine k_nrm (y := (rowAt 10 (nI (s_k st)) (s_g st) (nI i))) rfl ?_
      refine k_nrm (y := nI L) ((rowAt_lt (by omega) hb4 (by decide)).trans v4) ?_
      refine lv_bipush (v := 9) hx hb dL_list_59 (by decide) ?_
      refine lv_icmp_gt (tgt := 90) hx hb dL_list_61 (by decide) (fun c9 => absurd c9 (nI_nlt (a := 9) (b := L) v2 (by decide))) (fun c_24 => ?_)
      refine lv_aload_n hx hb dL_list_64 rfl (lv_at hl 4 rfl) ?_
      refine lv_iload_n hx hb dL_list_65 rfl (lv_at hl 2 rfl) ?_
      have ct := k_cut_TT (wp := []) (T := (WW a K KS st hs sc)) (wc := []) (wr := []) (tc := [(K, .int), (KS, .object "BarcodeWand$State")]) hG hS hA hK hP hD [] [] [0, 1] rfl rfl (by decide) (by decide) (by decide) rfl
      refine k_endi (As := [.ref (a 0), .int (nI i)]) ct (k_runSW (As := [.ref (a 0), .int (nI i)]) (rest := []) S0 Ls_L_125 ct (c_L_code l D a K KS st hs sc (nI i) (inR_in (by omega) (by omega)) H.size) hl.1 rfl (Nat.le_of_ble_eq_true rfl) rfl dL_list_66 ⟨⟨Nat.le_of_ble_eq_true rfl, Nat.le_of_ble_eq_true rfl⟩, Nat.le_of_ble_eq_true rfl, Nat.le_of_ble_eq_true rfl⟩) rfl rfl (fun r_25 _ H locs hw_26 hP hD hK hS => ?_)
      have hK : va_K D vwCl [(K, .int), (KS, .object "BarcodeWand$State")] s := hK
      have hP : va_P D vwCl ((WW a K KS st hs sc)) H := hP
      have hD : va_D A ((WW a K KS st hs sc)) := hD
      have hw_26 : r_25 = (rowAt 10 (nI (s_k st)) (s_f st) (nI i)) := hw_26
      have hw_26 := hw_26.symm
      subst hw_26
      refine k_nrm (y := (rowAt 10 (nI (s_k st)) (s_f st) (nI i))) rfl ?_
      refine k_nrm (y := nI v) ((rowAt_lt (by omega) hb4 (by decide)).trans v5) ?_
      refine lv_if_lt (tgt := 90) hx hb dL_list_69 (by decide) (fun c9 => absurd c9 (nI_pos (by omega))) (fun c_27 => ?_)
      refine lv_aload_n hx hb dL_list_72 rfl (lv_at hl 4 rfl) ?_
      refine lv_iload_n hx hb dL_list_73 rfl (lv_at hl 2 rfl) ?_
      have ct := k_cut_TT (wp := []) (T := (WW a K KS st hs sc)) (wc := []) (wr := []) (tc := [(K, .int), (KS, .object "BarcodeWand$State")]) hG hS hA hK hP hD [] [] [0, 1] rfl rfl (by decide) (by decide) (by decide) rfl
      refine k_endi (As := [.ref (a 0), .int (nI i)]) ct (k_runSW (As := [.ref (a 0), .int (nI i)]) (rest := []) S0 Ls_L_125 ct (c_L_code l D a K KS st hs sc (nI i) (inR_in (by omega) (by omega)) H.size) hl.1 rfl (Nat.le_of_ble_eq_true rfl) rfl dL_list_74 ⟨⟨Nat.le_of_ble_eq_true rfl, Nat.le_of_ble_eq_true rfl⟩, Nat.le_of_ble_eq_true rfl, Nat.le_of_ble_eq_true rfl⟩) rfl rfl (fun r_28 _ H locs hw_29 hP hD hK hS => ?_)
      have hK : va_K D vwCl [(K, .int), (KS, .object "BarcodeWand$State")] s := hK
      have hP : va_P D vwCl ((WW a K KS st hs sc)) H := hP
      have hD : va_D A ((WW a K KS st hs sc)) := hD
      have hw_29 : r_28 = (rowAt 10 (nI (s_k st)) (s_f st) (nI i)) := hw_29
      have hw_29 := hw_29.symm
      subst hw_29
      refine k_nrm (y := (rowAt 10 (nI (s_k st)) (s_f st) (nI i))) rfl ?_
      refine k_nrm (y := nI v) ((rowAt_lt (by omega) hb4 (by decide)).trans v5) ?_
      refine lv_iload_n hx hb dL_list_77 rfl (lv_at hl 1 rfl) ?_
      refine lv_icmp_ge (tgt := 90) hx hb dL_list_78 (by decide) (fun c9 => absurd c9 (by rw [pw10_nI]; exact nI_ge v3 (by omega))) (fun c_30 => ?_)
      refine lv_aload_n hx hb dL_list_81 rfl (lv_at hl 4 rfl) ?_
      refine lv_iload_n hx hb dL_list_82 rfl (lv_at hl 2 rfl) ?_
      have ct := k_cut_TT (wp := []) (T := (WW a K KS st hs sc)) (wc := []) (wr := []) (tc := [(K, .int), (KS, .object "BarcodeWand$State")]) hG hS hA hK hP hD [] [] [0, 1] rfl rfl (by decide) (by decide) (by decide) rfl
      refine k_endi (As := [.ref (a 0), .int (nI i)]) ct (k_runSW (As := [.ref (a 0), .int (nI i)]) (rest := []) S0 Ls_L_127 ct (c_L_count l D a K KS st hs sc (nI i) (inR_in (by omega) (by omega)) H.size) hl.1 rfl (Nat.le_of_ble_eq_true rfl) rfl dL_list_83 ⟨⟨Nat.le_of_ble_eq_true rfl, Nat.le_of_ble_eq_true rfl⟩, Nat.le_of_ble_eq_true rfl, Nat.le_of_ble_eq_true rfl⟩) rfl rfl (fun r_31 _ H locs hw_32 hP hD hK hS => ?_)
      have hK : va_K D vwCl [(K, .int), (KS, .object "BarcodeWand$State")] s := hK
      have hP : va_P D vwCl ((WW a K KS st hs sc)) H := hP
      have hD : va_D A ((WW a K KS st hs sc)) := hD
      have hw_32 : r_31 = (rowAt 10 (nI (s_k st)) (s_c st) (nI i)) := hw_32
      have hw_32 := hw_32.symm
      subst hw_32
      refine k_nrm (y := (rowAt 10 (nI (s_k st)) (s_c st) (nI i))) rfl ?_
      refine k_nrm (y := nI (C i)) ((rowAt_lt (by omega) hb4 (by decide)).trans v6) ?_
      refine lv_iconst (v := 1) hx hb dL_list_86 (by decide) ?_
      refine lv_icmp_ge (tgt := 92) hx hb dL_list_87 (by decide) (fun c_33 => ?_) (fun c9 => absurd (nI_le (a := 1) v7 (by omega)) c9)
      refine lv_iconst (v := 0) hx hb dL_list_92 (by decide) ?_
      refine lv_istore (lv' := [(4, .int 0), (3, .int (pw10 L)), (2, .int (nI i)), (1, .int (nI (fb_sm C i))), (0, .ref (a 0))]) hx hb dL_list_93 hl (by decide) rfl (fun ls hl => ?_)
      have hl : lv_has ls 5 [(4, .int (nI 0)), (3, .int (pw10 L)), (2, .int (nI i)), (1, .int (nI (fb_sm C i))), (0, .ref (a 0))] := hl
      refine k_loop (ι := Nat) (fun (j : Nat) H9 locs9 ls9 => (j ≤ i) ∧ va_P D vwCl ((WW a K KS st hs sc)) H9 ∧ va_D A ((WW a K KS st hs sc)) ∧ va_S A s.heap H9 locs9 ∧ lv_has ls9 5 [(4, .int (nI j)), (2, .int (nI i)), (1, .int (nI (fb_sm C i))), (0, .ref (a 0))]) (fun (j : Nat) => i - j) ?_ (0) ⟨(Nat.zero_le _), k_subP (wp := []) (wp' := []) (T := (WW a K KS st hs sc)) hP [] rfl, k_subD (wp := []) (wp' := []) (T := (WW a K KS st hs sc)) hD [] (by decide) rfl, hS, lv_sub hl [0, 2, 3, 4] rfl⟩
      intro x9 H locs ls hF9 ih7
      obtain ⟨j, hv9⟩ : ∃ z, z = x9 := ⟨_, rfl⟩
      subst hv9
      obtain ⟨hj, hP, hD, hS, hl⟩ := hF9
      try dsimp only at ih7
      have hP : va_P D vwCl ((WW a K KS st hs sc)) H := hP
      have hD : va_D A ((WW a K KS st hs sc)) := hD
      have hl : lv_has ls 5 [(4, .int (nI j)), (2, .int (nI i)), (1, .int (nI (fb_sm C i))), (0, .ref (a 0))] := hl
      refine lv_iload hx hb dL_list_95 (lv_at hl 0 rfl) ?_
      refine lv_iload_n hx hb dL_list_97 rfl (lv_at hl 1 rfl) ?_
      refine lv_icmp_ge (tgt := 137) hx hb dL_list_98 (by decide) (fun c_34 => ?_) (fun c_34 => ?_)
      · have hc9 := c_34
        refine lv_iload_n hx hb dL_list_137 rfl (lv_at hl 2 rfl) ?_
        refine lv_aload_n hx hb dL_list_138 rfl (lv_at hl 3 rfl) ?_
        refine lv_iload_n hx hb dL_list_139 rfl (lv_at hl 1 rfl) ?_
        have ct := k_cut_TT (wp := []) (T := (WW a K KS st hs sc)) (wc := []) (wr := []) (tc := [(K, .int), (KS, .object "BarcodeWand$State")]) hG hS hA hK hP hD [] [] [0, 1] rfl rfl (by decide) (by decide) (by decide) rfl
        refine k_endi (As := [.ref (a 0), .int (nI i)]) ct (k_runSW (As := [.ref (a 0), .int (nI i)]) (rest := [.int (nI (fb_sm C i))]) S0 Ls_L_127 ct (c_L_count l D a K KS st hs sc (nI i) (inR_in (by omega) (by omega)) H.size) hl.1 rfl (Nat.le_of_ble_eq_true rfl) rfl dL_list_140 ⟨⟨Nat.le_of_ble_eq_true rfl, Nat.le_of_ble_eq_true rfl⟩, Nat.le_of_ble_eq_true rfl, Nat.le_of_ble_eq_true rfl⟩) rfl rfl (fun r_35 _ H locs hw_36 hP hD hK hS => ?_)
        have hK : va_K D vwCl [(K, .int), (KS, .object "BarcodeWand$State")] s := hK
        have hP : va_P D vwCl ((WW a K KS st hs sc)) H := hP
        have hD : va_D A ((WW a K KS st hs sc)) := hD
        have hw_36 : r_35 = (rowAt 10 (nI (s_k st)) (s_c st) (nI i)) := hw_36
        have hw_36 := hw_36.symm
        subst hw_36
        refine k_nrm (y := (rowAt 10 (nI (s_k st)) (s_c st) (nI i))) rfl ?_
        refine k_nrm (y := nI (C i)) ((rowAt_lt (by omega) hb4 (by decide)).trans v6) ?_
        refine lv_iadd hx hb dL_list_143 ?_
        refine k_nrm (y := (nI (fb_sm C (i + 1)))) (nI_add _ _) ?_
        refine lv_istore_n (lv' := [(1, .int (nI (fb_sm C (i + 1)))), (4, .int (nI j)), (2, .int (nI i)), (0, .ref (a 0))]) hx hb dL_list_144 rfl hl (by decide) rfl (fun ls hl => ?_)
        obtain ⟨x_37, ex_37⟩ : ∃ z : Int32, z = (nI i) + 1 := ⟨_, rfl⟩
        refine lv_iinc (v := x_37) (lv' := [(2, .int x_37), (1, .int (nI (fb_sm C (i + 1)))), (4, .int (nI j)), (0, .ref (a 0))]) hx hb dL_list_145 hl (k := 2) rfl (by rw [ex_37]; rfl) (by decide) rfl (fun ls hl => ?_)
        refine lv_goto (tgt := 4) hx hb dL_list_148 (by decide) ?_
        have he9 : x_37 = (nI (i + 1)) := by rw [ex_37]; exact nI_1 i
        rw [he9] at hl
        have hl : lv_has ls 5 [(2, .int (nI (i + 1))), (1, .int (nI (fb_sm C (i + 1)))), (4, .int (nI j)), (0, .ref (a 0))] := hl
        exact ih9 (i + 1) H locs ls (by omega) ⟨hik, k_subP (wp := []) (wp' := []) (T := (WW a K KS st hs sc)) hP [] rfl, k_subD (wp := []) (wp' := []) (T := (WW a K KS st hs sc)) hD [] (by decide) rfl, hS, lv_sub hl [0, 1, 3] rfl⟩
      · have hc9 := c_34
        have hjk : j + 1 ≤ i := by rcases Nat.lt_or_ge j i with q9 | q9; exact q9; exact absurd (nI_le q9 (by omega)) c_34
        refine lv_aload_n hx hb dL_list_101 rfl (lv_at hl 3 rfl) ?_
        refine lv_iload hx hb dL_list_102 (lv_at hl 0 rfl) ?_
        have ct := k_cut_TT (wp := []) (T := (WW a K KS st hs sc)) (wc := []) (wr := []) (tc := [(K, .int), (KS, .object "BarcodeWand$State")]) hG hS hA hK hP hD [] [] [0, 1] rfl rfl (by decide) (by decide) (by decide) rfl
        refine k_endi (As := [.ref (a 0), .int (nI j)]) ct (k_runSW (As := [.ref (a 0), .int (nI j)]) (rest := []) S0 Ls_L_125 ct (c_L_code l D a K KS st hs sc (nI j) (inR_in (by omega) (by omega)) H.size) hl.1 rfl (Nat.le_of_ble_eq_true rfl) rfl dL_list_104 ⟨⟨Nat.le_of_ble_eq_true rfl, Nat.le_of_ble_eq_true rfl⟩, Nat.le_of_ble_eq_true rfl, Nat.le_of_ble_eq_true rfl⟩) rfl rfl (fun r_38 _ H locs hw_39 hP hD hK hS => ?_)
        have hK : va_K D vwCl [(K, .int), (KS, .object "BarcodeWand$State")] s := hK
        have hP : va_P D vwCl ((WW a K KS st hs sc)) H := hP
        have hD : va_D A ((WW a K KS st hs sc)) := hD
        have hw_39 : r_38 = (rowAt 10 (nI (s_k st)) (s_f st) (nI j)) := hw_39
        have hw_39 := hw_39.symm
        subst hw_39
        refine k_nrm (y := (rowAt 10 (nI (s_k st)) (s_f st) (nI j))) rfl ?_
        refine k_nrm (y := s_f st j) (rowAt_lt (by omega) hb4 (by decide)) ?_
        refine lv_aload_n hx hb dL_list_107 rfl (lv_at hl 3 rfl) ?_
        refine lv_iload_n hx hb dL_list_108 rfl (lv_at hl 1 rfl) ?_
        have ct := k_cut_TT (wp := []) (T := (WW a K KS st hs sc)) (wc := []) (wr := []) (tc := [(K, .int), (KS, .object "BarcodeWand$State")]) hG hS hA hK hP hD [] [] [0, 1] rfl rfl (by decide) (by decide) (by decide) rfl
        refine k_endi (As := [.ref (a 0), .int (nI i)]) ct (k_runSW (As := [.ref (a 0), .int (nI i)]) (rest := [.int (s_f st j)]) S0 Ls_L_125 ct (c_L_code l D a K KS st hs sc (nI i) (inR_in (by omega) (by omega)) H.size) hl.1 rfl (Nat.le_of_ble_eq_true rfl) rfl dL_list_109 ⟨⟨Nat.le_of_ble_eq_true rfl, Nat.le_of_ble_eq_true rfl⟩, Nat.le_of_ble_eq_true rfl, Nat.le_of_ble_eq_true rfl⟩) rfl rfl (fun r_40 _ H locs hw_41 hP hD hK hS => ?_)
        have hK : va_K D vwCl [(K, .int), (KS, .object "BarcodeWand$State")] s := hK
        have hP : va_P D vwCl ((WW a K KS st hs sc)) H := hP
        have hD : va_D A ((WW a K KS st hs sc)) := hD
        have hw_41 : r_40 = (rowAt 10 (nI (s_k st)) (s_f st) (nI i)) := hw_41
        have hw_41 := hw_41.symm
        subst hw_41
        refine k_nrm (y := (rowAt 10 (nI (s_k st)) (s_f st) (nI i))) rfl ?_
        refine k_nrm (y := s_f st i) (rowAt_lt (by omega) hb4 (by decide)) ?_
        refine lv_icmp_ne (tgt := 131) hx hb dL_list_112 (by decide) (fun c_42 => ?_) (fun c_42 => ?_)
        · have hc9 := c_42
          obtain ⟨x_43, ex_43⟩ : ∃ z : Int32, z = (nI j) + 1 := ⟨_, rfl⟩
          refine lv_iinc (v := x_43) (lv' := [(4, .int x_43), (2, .int (nI i)), (1, .int (nI (fb_sm C i))), (0, .ref (a 0))]) hx hb dL_list_131 hl (k := 0) rfl (by rw [ex_43]; rfl) (by decide) rfl (fun ls hl => ?_)
          refine lv_goto (tgt := 95) hx hb dL_list_134 (by decide) ?_
          have he9 : x_43 = (nI (j + 1)) := by rw [ex_43]; exact nI_1 j
          rw [he9] at hl
          have hl : lv_has ls 5 [(4, .int (nI (j + 1))), (2, .int (nI i)), (1, .int (nI (fb_sm C i))), (0, .ref (a 0))] := hl
          exact ih7 (j + 1) H locs ls (by omega) ⟨hjk, k_subP (wp := []) (wp' := []) (T := (WW a K KS st hs sc)) hP [] rfl, k_subD (wp := []) (wp' := []) (T := (WW a K KS st hs sc)) hD [] (by decide) rfl, hS, lv_sub hl [0, 1, 2, 3] rfl⟩
        · have hc9 := c_42
          refine lv_aload_n hx hb dL_list_115 rfl (lv_at hl 3 rfl) ?_
          refine lv_iload hx hb dL_list_116 (lv_at hl 0 rfl) ?_
          have ct := k_cut_TT (wp := []) (T := (WW a K KS st hs sc)) (wc := []) (wr := []) (tc := [(K, .int), (KS, .object "BarcodeWand$State")]) hG hS hA hK hP hD [] [] [0, 1] rfl rfl (by decide) (by decide) (by decide) rfl
          refine k_endi (As := [.ref (a 0), .int (nI j)]) ct (k_runSW (As := [.ref (a 0), .int (nI j)]) (rest := []) S0 Ls_L_123 ct (c_L_codeLength l D a K KS st hs sc (nI j) (inR_in (by omega) (by omega)) H.size) hl.1 rfl (Nat.le_of_ble_eq_true rfl) rfl dL_list_118 ⟨⟨Nat.le_of_ble_eq_true rfl, Nat.le_of_ble_eq_true rfl⟩, Nat.le_of_ble_eq_true rfl, Nat.le_of_ble_eq_true rfl⟩) rfl rfl (fun r_44 _ H locs hw_45 hP hD hK hS => ?_)
          have hK : va_K D vwCl [(K, .int), (KS, .object "BarcodeWand$State")] s := hK
          have hP : va_P D vwCl ((WW a K KS st hs sc)) H := hP
          have hD : va_D A ((WW a K KS st hs sc)) := hD
          have hw_45 : r_44 = (rowAt 10 (nI (s_k st)) (s_g st) (nI j)) := hw_45
          have hw_45 := hw_45.symm
          subst hw_45
          refine k_nrm (y := (rowAt 10 (nI (s_k st)) (s_g st) (nI j))) rfl ?_
          refine k_nrm (y := s_g st j) (rowAt_lt (by omega) hb4 (by decide)) ?_
          refine lv_aload_n hx hb dL_list_121 rfl (lv_at hl 3 rfl) ?_
          refine lv_iload_n hx hb dL_list_122 rfl (lv_at hl 1 rfl) ?_
          have ct := k_cut_TT (wp := []) (T := (WW a K KS st hs sc)) (wc := []) (wr := []) (tc := [(K, .int), (KS, .object "BarcodeWand$State")]) hG hS hA hK hP hD [] [] [0, 1] rfl rfl (by decide) (by decide) (by decide) rfl
          refine k_endi (As := [.ref (a 0), .int (nI i)]) ct (k_runSW (As := [.ref (a 0), .int (nI i)]) (rest := [.int (s_g st j)]) S0 Ls_L_123 ct (c_L_codeLength l D a K KS st hs sc (nI i) (inR_in (by omega) (by omega)) H.size) hl.1 rfl (Nat.le_of_ble_eq_true rfl) rfl dL_list_123 ⟨⟨Nat.le_of_ble_eq_true rfl, Nat.le_of_ble_eq_true rfl⟩, Nat.le_of_ble_eq_true rfl, Nat.le_of_ble_eq_true rfl⟩) rfl rfl (fun r_46 _ H locs hw_47 hP hD hK hS => ?_)
          have hK : va_K D vwCl [(K, .int), (KS, .object "BarcodeWand$State")] s := hK
          have hP : va_P D vwCl ((WW a K KS st hs sc)) H := hP
          have hD : va_D A ((WW a K KS st hs sc)) := hD
          have hw_47 : r_46 = (rowAt 10 (nI (s_k st)) (s_g st) (nI i)) := hw_47
          have hw_47 := hw_47.symm
          subst hw_47
          refine k_nrm (y := (rowAt 10 (nI (s_k st)) (s_g st) (nI i))) rfl ?_
          refine k_nrm (y := s_g st i) (rowAt_lt (by omega) hb4 (by decide)) ?_
          refine lv_icmp_ne (tgt := 131) hx hb dL_list_126 (by decide) (fun c_48 => ?_) (fun c9 => absurd c9 (fun q9 => l2 j i (by omega) hik ⟨c_42, q9⟩))
          obtain ⟨x_49, ex_49⟩ : ∃ z : Int32, z = (nI j) + 1 := ⟨_, rfl⟩
          refine lv_iinc (v := x_49) (lv' := [(4, .int x_49), (2, .int (nI i)), (1, .int (nI (fb_sm C i))), (0, .ref (a 0))]) hx hb dL_list_131 hl (k := 0) rfl (by rw [ex_49]; rfl) (by decide) rfl (fun ls hl => ?_)
          refine lv_goto (tgt := 95) hx hb dL_list_134 (by decide) ?_
          have he9 : x_49 = (nI (j + 1)) := by rw [ex_49]; exact nI_1 j
          rw [he9] at hl
          have hl : lv_has ls 5 [(4, .int (nI (j + 1))), (2, .int (nI i)), (1, .int (nI (fb_sm C i))), (0, .ref (a 0))] := hl
          exact ih7 (j + 1) H locs ls (by omega) ⟨hjk, k_subP (wp := []) (wp' := []) (T := (WW a K KS st hs sc)) hP [] rfl, k_subD (wp := []) (wp' := []) (T := (WW a K KS st hs sc)) hD [] (by decide) rfl, hS, lv_sub hl [0, 1, 2, 3] rfl⟩
    · have hc9 := c_18
      have hjk : j + 1 ≤ L := by rcases Nat.lt_or_ge j L with q9 | q9; exact q9; exact absurd (nI_le q9 (by omega)) c_18
      refine lv_iload hx hb dL_list_27 (lv_at hl 0 rfl) ?_
      refine lv_bipush (v := 9) hx hb dL_list_29 (by decide) ?_
      refine lv_icmp_ge (tgt := 45) hx hb dL_list_31 (by decide) (fun c9 => absurd c9 (nI_ge (a := j) (b := 9) (by omega) (by decide))) (fun c_50 => ?_)
      refine lv_iload_n hx hb dL_list_34 rfl (lv_at hl 1 rfl) ?_
      refine lv_bipush (v := 10) hx hb dL_list_35 (by decide) ?_
      refine lv_imul hx hb dL_list_37 ?_
      refine k_nrm (y := (pw10 (j + 1))) (rfl) ?_
      refine lv_istore_n (lv' := [(3, .int (pw10 (j + 1))), (4, .int (nI j)), (2, .int (nI i)), (1, .int (nI (fb_sm C i))), (0, .ref (a 0))]) hx hb dL_list_38 rfl hl (by decide) rfl (fun ls hl => ?_)
      obtain ⟨x_51, ex_51⟩ : ∃ z : Int32, z = (nI j) + 1 := ⟨_, rfl⟩
      refine lv_iinc (v := x_51) (lv' := [(4, .int x_51), (3, .int (pw10 (j + 1))), (2, .int (nI i)), (1, .int (nI (fb_sm C i))), (0, .ref (a 0))]) hx hb dL_list_39 hl (k := 1) rfl (by rw [ex_51]; rfl) (by decide) rfl (fun ls hl => ?_)
      refine lv_goto (tgt := 17) hx hb dL_list_42 (by decide) ?_
      have he9 : x_51 = (nI (j + 1)) := by rw [ex_51]; exact nI_1 j
      rw [he9] at hl
      have hl : lv_has ls 5 [(4, .int (nI (j + 1))), (3, .int (pw10 (j + 1))), (2, .int (nI i)), (1, .int (nI (fb_sm C i))), (0, .ref (a 0))] := hl
      exact ih8 (j + 1) H locs ls (by omega) ⟨hjk, k_subP (wp := []) (wp' := []) (T := (WW a K KS st hs sc)) hP [] rfl, k_subD (wp := []) (wp' := []) (T := (WW a K KS st hs sc)) hD [] (by decide) rfl, hS, lv_sub hl [0, 1, 2, 3, 4] rfl⟩
