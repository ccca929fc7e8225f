theorem Lv_X3_77 : k_LV RX3 77 yX4_at cX4_at 2 (some .int) 1 := ⟨mA 299 rfl rfl, lm_X4_at, le_X4_at, li_BarcodeWand_Row, lk_X4_at, ly_X4_at⟩
theorem lf_X3_68 : Cond.fieldLink RX3 68 "BarcodeWand$Reader" "nearestDigit" "I" ∈ wsA := mA 140 rfl rfl
set_option maxRecDepth 20000 in
theorem ln_X3_90 : Cond.fieldLinkNest RX3 90 "BarcodeWand" "WIDTHS" "[I" "BarcodeWand" ∈ tables_1 := List.mem_of_getElem? (i := 318) rfl
theorem li_BarcodeWand_Reader : Cond.initialized "BarcodeWand$Reader" ∈ wsA := mA 8 rfl rfl
set_option maxRecDepth 20000 in
theorem lk_X3_amountOff : Cond.code yX3_amountOff cX3_amountOff 4 (some .int) ∈ wsA := mA 323 rfl rfl
theorem ly_X3_amountOff : k_y yX3_amountOff 2 := ⟨by decide +kernel, by decide +kernel, by decide +kernel⟩
set_option maxRecDepth 20000 in
theorem lm_X3_amountOff : Cond.instanceMethod yX3_amountOff ∈ wsA := mA 322 rfl rfl
theorem le_X3_amountOff : Cond.selects (yX3_amountOff).cls yX3_amountOff yX3_amountOff ∈ wsA := mS 5 rfl rfl
set_option maxRecDepth 20000 in
theorem Lv_X3_94 : k_LV RX3 94 yX3_amountOff cX3_amountOff 4 (some .int) 2 := ⟨mA 320 rfl rfl, lm_X3_amountOff, le_X3_amountOff, li_BarcodeWand_Reader, lk_X3_amountOff, ly_X3_amountOff⟩
theorem lf_X3_61 : Cond.fieldLink RX3 61 "BarcodeWand$Reader" "leastDistance" "I" ∈ wsA := mA 143 rfl rfl
theorem lf_X3_57 : Cond.fieldLink RX3 57 "BarcodeWand$Reader" "isTied" "Z" ∈ wsA := mA 145 rfl rfl
theorem dX3_findNearest_0 : decode cX3_findNearest 0 = .ok (.aload_n 1, 1) := by decide +kernel
theorem dX3_findNearest_1 : decode cX3_findNearest 1 = .ok (.iload_n 2, 1) := by decide +kernel
theorem dX3_findNearest_2 : decode cX3_findNearest 2 = .ok (.invokevirtual 77, 3) := by decide +kernel
theorem dX3_findNearest_5 : decode cX3_findNearest 5 = .ok (.istore_n 3, 1) := by decide +kernel
theorem dX3_findNearest_6 : decode cX3_findNearest 6 = .ok (.aload_n 1, 1) := by decide +kernel
theorem dX3_findNearest_7 : decode cX3_findNearest 7 = .ok (.iload_n 2, 1) := by decide +kernel
theorem dX3_findNearest_8 : decode cX3_findNearest 8 = .ok (.iconst 1, 1) := by decide +kernel
theorem dX3_findNearest_9 : decode cX3_findNearest 9 = .ok (.iadd, 1) := by decide +kernel
theorem dX3_findNearest_10 : decode cX3_findNearest 10 = .ok (.invokevirtual 77, 3) := by decide +kernel
theorem dX3_findNearest_13 : decode cX3_findNearest 13 = .ok (.istore 4, 2) := by decide +kernel
theorem dX3_findNearest_15 : decode cX3_findNearest 15 = .ok (.aload_n 1, 1) := by decide +kernel
theorem dX3_findNearest_16 : decode cX3_findNearest 16 = .ok (.iload_n 2, 1) := by decide +kernel
theorem dX3_findNearest_17 : decode cX3_findNearest 17 = .ok (.iconst 2, 1) := by decide +kernel
theorem dX3_findNearest_18 : decode cX3_findNearest 18 = .ok (.iadd, 1) := by decide +kernel
theorem dX3_findNearest_19 : decode cX3_findNearest 19 = .ok (.invokevirtual 77, 3) := by decide +kernel
theorem dX3_findNearest_22 : decode cX3_findNearest 22 = .ok (.istore 5, 2) := by decide +kernel
theorem dX3_findNearest_24 : decode cX3_findNearest 24 = .ok (.aload_n 1, 1) := by decide +kernel
theorem dX3_findNearest_25 : decode cX3_findNearest 25 = .ok (.iload_n 2, 1) := by decide +kernel
theorem dX3_findNearest_26 : decode cX3_findNearest 26 = .ok (.iconst 3, 1) := by decide +kernel
theorem dX3_findNearest_27 : decode cX3_findNearest 27 = .ok (.iadd, 1) := by decide +kernel
theorem dX3_findNearest_28 : decode cX3_findNearest 28 = .ok (.invokevirtual 77, 3) := by decide +kernel
theorem dX3_findNearest_31 : decode cX3_findNearest 31 = .ok (.istore 6, 2) := by decide +kernel
theorem dX3_findNearest_33 : decode cX3_findNearest 33 = .ok (.aload_n 0, 1) := by decide +kernel
theorem dX3_findNearest_34 : decode cX3_findNearest 34 = .ok (.iload_n 3, 1) := by decide +kernel
theorem dX3_findNearest_35 : decode cX3_findNearest 35 = .ok (.iload 4, 2) := by decide +kernel
theorem dX3_findNearest_37 : decode cX3_findNearest 37 = .ok (.iadd, 1) := by decide +kernel
theorem dX3_findNearest_38 : decode cX3_findNearest 38 = .ok (.iload 5, 2) := by decide +kernel
theorem dX3_findNearest_40 : decode cX3_findNearest 40 = .ok (.iadd, 1) := by decide +kernel
theorem dX3_findNearest_41 : decode cX3_findNearest 41 = .ok (.iload 6, 2) := by decide +kernel
theorem dX3_findNearest_43 : decode cX3_findNearest 43 = .ok (.iadd, 1) := by decide +kernel
theorem dX3_findNearest_44 : decode cX3_findNearest 44 = .ok (.putfield 65, 3) := by decide +kernel
theorem dX3_findNearest_47 : decode cX3_findNearest 47 = .ok (.aload_n 0, 1) := by decide +kernel
theorem dX3_findNearest_48 : decode cX3_findNearest 48 = .ok (.iconst (-1), 1) := by decide +kernel
theorem dX3_findNearest_49 : decode cX3_findNearest 49 = .ok (.putfield 68, 3) := by decide +kernel
theorem dX3_findNearest_52 : decode cX3_findNearest 52 = .ok (.iconst 0, 1) := by decide +kernel
theorem dX3_findNearest_53 : decode cX3_findNearest 53 = .ok (.istore 7, 2) := by decide +kernel
theorem dX3_findNearest_55 : decode cX3_findNearest 55 = .ok (.iload 7, 2) := by decide +kernel
theorem dX3_findNearest_57 : decode cX3_findNearest 57 = .ok (.iconst 3, 1) := by decide +kernel
theorem dX3_findNearest_58 : decode cX3_findNearest 58 = .ok (.iadd, 1) := by decide +kernel
theorem dX3_findNearest_59 : decode cX3_findNearest 59 = .ok (.getstatic 90, 3) := by decide +kernel
theorem dX3_findNearest_62 : decode cX3_findNearest 62 = .ok (.arraylength, 1) := by decide +kernel
theorem dX3_findNearest_63 : decode cX3_findNearest 63 = .ok (.if_icmp .ge 120, 3) := by decide +kernel
theorem dX3_findNearest_66 : decode cX3_findNearest 66 = .ok (.aload_n 0, 1) := by decide +kernel
theorem dX3_findNearest_67 : decode cX3_findNearest 67 = .ok (.iload_n 3, 1) := by decide +kernel
theorem dX3_findNearest_68 : decode cX3_findNearest 68 = .ok (.getstatic 90, 3) := by decide +kernel
theorem dX3_findNearest_71 : decode cX3_findNearest 71 = .ok (.iload 7, 2) := by decide +kernel
theorem dX3_findNearest_73 : decode cX3_findNearest 73 = .ok (.iaload, 1) := by decide +kernel
theorem dX3_findNearest_74 : decode cX3_findNearest 74 = .ok (.invokevirtual 94, 3) := by decide +kernel
theorem dX3_findNearest_77 : decode cX3_findNearest 77 = .ok (.aload_n 0, 1) := by decide +kernel
theorem dX3_findNearest_78 : decode cX3_findNearest 78 = .ok (.iload 4, 2) := by decide +kernel
theorem dX3_findNearest_80 : decode cX3_findNearest 80 = .ok (.getstatic 90, 3) := by decide +kernel
theorem dX3_findNearest_83 : decode cX3_findNearest 83 = .ok (.iload 7, 2) := by decide +kernel
theorem dX3_findNearest_85 : decode cX3_findNearest 85 = .ok (.iconst 1, 1) := by decide +kernel
theorem dX3_findNearest_86 : decode cX3_findNearest 86 = .ok (.iadd, 1) := by decide +kernel
theorem dX3_findNearest_87 : decode cX3_findNearest 87 = .ok (.iaload, 1) := by decide +kernel
theorem dX3_findNearest_88 : decode cX3_findNearest 88 = .ok (.invokevirtual 94, 3) := by decide +kernel
theorem dX3_findNearest_91 : decode cX3_findNearest 91 = .ok (.iadd, 1) := by decide +kernel
theorem dX3_findNearest_92 : decode cX3_findNearest 92 = .ok (.aload_n 0, 1) := by decide +kernel
theorem dX3_findNearest_93 : decode cX3_findNearest 93 = .ok (.iload 5, 2) := by decide +kernel
theorem dX3_findNearest_95 : decode cX3_findNearest 95 = .ok (.getstatic 90, 3) := by decide +kernel
theorem dX3_findNearest_98 : decode cX3_findNearest 98 = .ok (.iload 7, 2) := by decide +kernel
theorem dX3_findNearest_100 : decode cX3_findNearest 100 = .ok (.iconst 2, 1) := by decide +kernel
theorem dX3_findNearest_101 : decode cX3_findNearest 101 = .ok (.iadd, 1) := by decide +kernel
theorem dX3_findNearest_102 : decode cX3_findNearest 102 = .ok (.iaload, 1) := by decide +kernel
theorem dX3_findNearest_103 : decode cX3_findNearest 103 = .ok (.invokevirtual 94, 3) := by decide +kernel
theorem dX3_findNearest_106 : decode cX3_findNearest 106 = .ok (.iadd, 1) := by decide +kernel
theorem dX3_findNearest_107 : decode cX3_findNearest 107 = .ok (.aload_n 0, 1) := by decide +kernel
theorem dX3_findNearest_108 : decode cX3_findNearest 108 = .ok (.iload 6, 2) := by decide +kernel
theorem dX3_findNearest_110 : decode cX3_findNearest 110 = .ok (.getstatic 90, 3) := by decide +kernel
theorem dX3_findNearest_113 : decode cX3_findNearest 113 = .ok (.iload 7, 2) := by decide +kernel
theorem dX3_findNearest_115 : decode cX3_findNearest 115 = .ok (.iconst 3, 1) := by decide +kernel
theorem dX3_findNearest_116 : decode cX3_findNearest 116 = .ok (.iadd, 1) := by decide +kernel
theorem dX3_findNearest_117 : decode cX3_findNearest 117 = .ok (.iaload, 1) := by decide +kernel
theorem dX3_findNearest_118 : decode cX3_findNearest 118 = .ok (.invokevirtual 94, 3) := by decide +kernel
theorem dX3_findNearest_121 : decode cX3_findNearest 121 = .ok (.iadd, 1) := by decide +kernel
theorem dX3_findNearest_122 : decode cX3_findNearest 122 = .ok (.istore 8, 2) := by decide +kernel
theorem dX3_findNearest_124 : decode cX3_findNearest 124 = .ok (.aload_n 0, 1) := by decide +kernel
theorem dX3_findNearest_125 : decode cX3_findNearest 125 = .ok (.getfield 68, 3) := by decide +kernel
theorem dX3_findNearest_128 : decode cX3_findNearest 128 = .ok (.iconst (-1), 1) := by decide +kernel
theorem dX3_findNearest_129 : decode cX3_findNearest 129 = .ok (.if_icmp .eq 12, 3) := by decide +kernel
theorem dX3_findNearest_132 : decode cX3_findNearest 132 = .ok (.iload 8, 2) := by decide +kernel
theorem dX3_findNearest_134 : decode cX3_findNearest 134 = .ok (.aload_n 0, 1) := by decide +kernel
theorem dX3_findNearest_135 : decode cX3_findNearest 135 = .ok (.getfield 61, 3) := by decide +kernel
theorem dX3_findNearest_138 : decode cX3_findNearest 138 = .ok (.if_icmp .ge 25, 3) := by decide +kernel
theorem dX3_findNearest_141 : decode cX3_findNearest 141 = .ok (.aload_n 0, 1) := by decide +kernel
theorem dX3_findNearest_142 : decode cX3_findNearest 142 = .ok (.iload 7, 2) := by decide +kernel
theorem dX3_findNearest_144 : decode cX3_findNearest 144 = .ok (.iconst 4, 1) := by decide +kernel
theorem dX3_findNearest_145 : decode cX3_findNearest 145 = .ok (.idiv, 1) := by decide +kernel
theorem dX3_findNearest_146 : decode cX3_findNearest 146 = .ok (.putfield 68, 3) := by decide +kernel
theorem dX3_findNearest_149 : decode cX3_findNearest 149 = .ok (.aload_n 0, 1) := by decide +kernel
theorem dX3_findNearest_150 : decode cX3_findNearest 150 = .ok (.iload 8, 2) := by decide +kernel
theorem dX3_findNearest_152 : decode cX3_findNearest 152 = .ok (.putfield 61, 3) := by decide +kernel
theorem dX3_findNearest_155 : decode cX3_findNearest 155 = .ok (.aload_n 0, 1) := by decide +kernel
theorem dX3_findNearest_156 : decode cX3_findNearest 156 = .ok (.iconst 0, 1) := by decide +kernel
theorem dX3_findNearest_157 : decode cX3_findNearest 157 = .ok (.putfield 57, 3) := by decide +kernel
theorem dX3_findNearest_160 : decode cX3_findNearest 160 = .ok (.goto 17, 3) := by decide +kernel
theorem dX3_findNearest_163 : decode cX3_findNearest 163 = .ok (.iload 8, 2) := by decide +kernel
theorem dX3_findNearest_165 : decode cX3_findNearest 165 = .ok (.aload_n 0, 1) := by decide +kernel
theorem dX3_findNearest_166 : decode cX3_findNearest 166 = .ok (.getfield 61, 3) := by decide +kernel
theorem dX3_findNearest_169 : decode cX3_findNearest 169 = .ok (.if_icmp .ne 8, 3) := by decide +kernel
theorem dX3_findNearest_172 : decode cX3_findNearest 172 = .ok (.aload_n 0, 1) := by decide +kernel
theorem dX3_findNearest_173 : decode cX3_findNearest 173 = .ok (.iconst 1, 1) := by decide +kernel
theorem dX3_findNearest_174 : decode cX3_findNearest 174 = .ok (.putfield 57, 3) := by decide +kernel
theorem dX3_findNearest_177 : decode cX3_findNearest 177 = .ok (.iinc 7 4, 3) := by decide +kernel
theorem dX3_findNearest_180 : decode cX3_findNearest 180 = .ok (.goto (-125), 3) := by decide +kernel
theorem dX3_findNearest_183 : decode cX3_findNearest 183 = .ok (.return_, 1) := by decide +kernel
theorem nrF_s (d : Nat → Int32) (l q : Int32) (i : Nat) : nrF d l q (i + 1) = (if (nrF d l q i).1 = -1 ∨ d i < (nrF d l q i).2.1 then (nI i, d i, 0) else if d i = (nrF d l q i).2.1 then ((nrF d l q i).1, (nrF d l q i).2.1, 1) else nrF d l q i) := rfl
theorem nrF_init (d : Nat → Int32) (l q : Int32) : ∀ i, nrF d l q (i + 1) = nrF d 0 0 (i + 1) := by
  intro i
  induction i with
  | zero => rw [nrF_lt (Or.inl rfl), nrF_lt (Or.inl rfl)]
  | succ i ih => rw [nrF_s, nrF_s d 0 0, ih]
set_option maxHeartbeats 4000000 in
set_option maxRecDepth 100000 in
theorem c_findNearest (l : Launch) (D : va_G) (re : Nat) (rd : Nat) (nd : Int32) (rl : Nat) (ldi : Int32) (sot : Int32) (tie : Int32) (ff : Int32) (ft : Int32) (tm : Nat) (tmA : Nat) (tn : Nat) (K : ClassId) (tf : Nat → Int32) (x : Int32) (t0 : Int32) (t1 : Int32) (t2 : Int32) (t3 : Int32) (sm : Int32) (dd : Nat → Int32) (htn : tn ≤ 41) (h0 : rowAt 41 (nI tn) tf x = t0) (h1 : rowAt 41 (nI tn) tf (x + 1) = t1) (h2 : rowAt 41 (nI tn) tf (x + 2) = t2) (h3 : rowAt 41 (nI tn) tf (x + 3) = t3) (hs : t0 + t1 + t2 + t3 = sm) (hd : dd = dsF t0 t1 t2 t3 sm) (sz : Nat) : k_Mv (S := Int32 × Int32 × Int32) l D yX3_findNearest cX3_findNearest 9 none 1 0 0 23 [.ref re, .ref tm, .int x] [(re, .inr (3, [.ref rd, .int nd, .ref rl, .int ldi, .int sot, .int tie, .int ff, .int ft])), (tm, .inr (4, [.ref tmA, .int (nI tn)])), (tmA, .inl (K, 41, .inl tf))] [(K, .int)] (fun (u : Int32 × Int32 × Int32) => match u with | (u1, u2, u3) => u1 = (nrF dd 0 0 10).1 ∧ u2 = (nrF dd 0 0 10).2.1 ∧ u3 = (nrF dd 0 0 10).2.2) (fun u => match u with | (u1, u2, u3) => [(re, .inr (3, [.ref rd, .int u1, .ref rl, .int u2, .int sm, .int u3, .int ff, .int ft])), (tm, .inr (4, [.ref tmA, .int (nI tn)])), (tmA, .inl (K, 41, .inl tf))]) (fun u => match u with | (u1, u2, u3) => []) sz := by
  refine Met.ofW (cc := cX3_findNearest) (maxL := 9) (ret := none) (by decide) rfl ?_
  intro p e s m args below meth c s₁ B hml hv
  obtain ⟨rfl, hsz, hP, hK, hD0, hG⟩ := hv
  have hx := B.exec
  have hb := B.bytes
  have hr := B.returns
  have ht : ∀ v9 ∈ wsA, v9.before ([.ref re, .ref tm, .int x] : List Value).toArray s = true := fun v9 h9 => atoms_spec (ws := k_ws yX3_findNearest cX3_findNearest 9 none) B.pre v9 (List.mem_cons_of_mem _ h9)
  have hown : s.vm.findClass RX3 = some m.cls := findClass_of_methodNamed B.named
  have S0 : k_C p s m ([.ref re, .ref tm, .int x] : List Value).toArray c cX3_findNearest 9 RX3 := ⟨hx, hb, hml, hown, ht⟩
  have hlocks := B.notSynchronized
  subst hsz
  have hD := hD0.self (sz := s.heap.size)
  generalize hAe : va_A [(re, .inr (3, [.ref rd, .int nd, .ref rl, .int ldi, .int sot, .int tie, .int ff, .int ft])), (tm, .inr (4, [.ref tmA, .int (nI tn)])), (tmA, .inl (K, 41, .inl tf))] s.heap.size = A at hD hG ⊢
  have hA : ∀ q : Nat, s.heap.size ≤ q → A q := fun q h => by rw [← hAe]; exact Or.inr h
  have hS : va_S A s.heap s.heap [] := va_S.rf
  have hl := lv_entry ([.ref re, .ref tm, .int x]) (n := 9) (Nat.le_of_ble_eq_true rfl)
  rw [lg_entry_eq]
  generalize (lg_sl ([.ref re, .ref tm, .int x]) ++ List.replicate (9 - (lg_sl ([.ref re, .ref tm, .int x])).length) Slot.unset).toArray = ls at hl ⊢
  have hl : lv_has ls 9 [(0, .ref re), (1, .ref tm), (2, .int x)] := hl
  have hP : va_P D vwCl [(re, .inr (3, [.ref rd, .int nd, .ref rl, .int ldi, .int sot, .int tie, .int ff, .int ft])), (tm, .inr (4, [.ref tmA, .int (nI tn)])), (tmA, .inl (K, 41, .inl tf))] s.heap := hP
  refine lv_aload_n hx hb dX3_findNearest_0 rfl (lv_at hl 1 rfl) ?_
  refine lv_iload_n hx hb dX3_findNearest_1 rfl (lv_at hl 2 rfl) ?_
  have ct := k_cut_of (wc := [(tm, .inr (4, [.ref tmA, .int (nI tn)])), (tmA, .inl (K, 41, .inl tf))]) (wr := [(re, .inr (3, [.ref rd, .int nd, .ref rl, .int ldi, .int sot, .int tie, .int ff, .int ft]))]) (tc := [(K, .int)]) hG hS hA hK hP hD [1, 2] [0] [0] rfl rfl (by decide) (by decide) (by decide) rfl
  refine k_endi (As := [.ref tm, .int x]) ct (k_runV (As := [.int x]) (rest := []) S0 Lv_X3_77 rfl (ci := 4) (q0 := 0) rfl rfl ct (c_Row_at l D tm tmA (nI tn) K 41 tf x (by first | assumption | decide) s.heap.size) hl.1 rfl (Nat.le_of_ble_eq_true rfl) rfl dX3_findNearest_2 ⟨⟨Nat.le_of_ble_eq_true rfl, Nat.le_of_ble_eq_true rfl⟩, Nat.le_of_ble_eq_true rfl, Nat.le_of_ble_eq_true rfl⟩) rfl rfl (fun r_1 _ H locs hw_2 hP hD hK hS => ?_)
  have hK : va_K D vwCl [(K, .int)] s := hK
  have hP : va_P D vwCl [(re, .inr (3, [.ref rd, .int nd, .ref rl, .int ldi, .int sot, .int tie, .int ff, .int ft])), (tm, .inr (4, [.ref tmA, .int (nI tn)])), (tmA, .inl (K, 41, .inl tf))] H := hP
  have hD : va_D A [(re, .inr (3, [.ref rd, .int nd, .ref rl, .int ldi, .int sot, .int tie, .int ff, .int ft])), (tm, .inr (4, [.ref tmA, .int (nI tn)])), (tmA, .inl (K, 41, .inl tf))] := hD
  have hw_2 : r_1 = (rowAt 41 (nI tn) tf x) := hw_2
  have hw_2 := hw_2.symm
  subst hw_2
  refine k_nrm (y := (rowAt 41 (nI tn) tf x)) rfl ?_
  refine k_nrm (y := t0) h0 ?_
  refine lv_istore_n (lv' := [(3, .int t0), (0, .ref re), (1, .ref tm), (2, .int x)]) hx hb dX3_findNearest_5 rfl hl (by decide) rfl (fun ls hl => ?_)
  refine lv_aload_n hx hb dX3_findNearest_6 rfl (lv_at hl 2 rfl) ?_
  refine lv_iload_n hx hb dX3_findNearest_7 rfl (lv_at hl 3 rfl) ?_
  refine lv_iconst (v := 1) hx hb dX3_findNearest_8 (by decide) ?_
  refine lv_iadd hx hb dX3_findNearest_9 ?_
  refine k_nrm (y := (x + 1)) (rfl) ?_
  have ct := k_cut_of (wc := [(tm, .inr (4, [.ref tmA, .int (nI tn)])), (tmA, .inl (K, 41, .inl tf))]) (wr := [(re, .inr (3, [.ref rd, .int nd, .ref rl, .int ldi, .int sot, .int tie, .int ff, .int ft]))]) (tc := [(K, .int)]) hG hS hA hK hP hD [1, 2] [0] [0] rfl rfl (by decide) (by decide) (by decide) rfl
  refine k_endi (As := [.ref tm, .int (x + 1)]) ct (k_runV (As := [.int (x + 1)]) (rest := []) S0 Lv_X3_77 rfl (ci := 4) (q0 := 0) rfl rfl ct (c_Row_at l D tm tmA (nI tn) K 41 tf (x + 1) (by first | assumption | decide) H.size) hl.1 rfl (Nat.le_of_ble_eq_true rfl) rfl dX3_findNearest_10 ⟨⟨Nat.le_of_ble_eq_true rfl, Nat.le_of_ble_eq_true rfl⟩, Nat.le_of_ble_eq_true rfl, Nat.le_of_ble_eq_true rfl⟩) rfl rfl (fun r_3 _ H locs hw_4 hP hD hK hS => ?_)
  have hK : va_K D vwCl [(K, .int)] s := hK
  have hP : va_P D vwCl [(re, .inr (3, [.ref rd, .int nd, .ref rl, .int ldi, .int sot, .int tie, .int ff, .int ft])), (tm, .inr (4, [.ref tmA, .int (nI tn)])), (tmA, .inl (K, 41, .inl tf))] H := hP
  have hD : va_D A [(re, .inr (3, [.ref rd, .int nd, .ref rl, .int ldi, .int sot, .int tie, .int ff, .int ft])), (tm, .inr (4, [.ref tmA, .int (nI tn)])), (tmA, .inl (K, 41, .inl tf))] := hD
  have hw_4 : r_3 = (rowAt 41 (nI tn) tf (x + 1)) := hw_4
  have hw_4 := hw_4.symm
  subst hw_4
  refine k_nrm (y := (rowAt 41 (nI tn) tf (x + 1))) rfl ?_
  refine k_nrm (y := t1) h1 ?_
  refine lv_istore (lv' := [(4, .int t1), (3, .int t0), (0, .ref re), (1, .ref tm), (2, .int x)]) hx hb dX3_findNearest_13 hl (by decide) rfl (fun ls hl => ?_)
  refine lv_aload_n hx hb dX3_findNearest_15 rfl (lv_at hl 3 rfl) ?_
  refine lv_iload_n hx hb dX3_findNearest_16 rfl (lv_at hl 4 rfl) ?_
  refine lv_iconst (v := 2) hx hb dX3_findNearest_17 (by decide) ?_
  refine lv_iadd hx hb dX3_findNearest_18 ?_
  refine k_nrm (y := (x + 2)) (rfl) ?_
  have ct := k_cut_of (wc := [(tm, .inr (4, [.ref tmA, .int (nI tn)])), (tmA, .inl (K, 41, .inl tf))]) (wr := [(re, .inr (3, [.ref rd, .int nd, .ref rl, .int ldi, .int sot, .int tie, .int ff, .int ft]))]) (tc := [(K, .int)]) hG hS hA hK hP hD [1, 2] [0] [0] rfl rfl (by decide) (by decide) (by decide) rfl
  refine k_endi (As := [.ref tm, .int (x + 2)]) ct (k_runV (As := [.int (x + 2)]) (rest := []) S0 Lv_X3_77 rfl (ci := 4) (q0 := 0) rfl rfl ct (c_Row_at l D tm tmA (nI tn) K 41 tf (x + 2) (by first | assumption | decide) H.size) hl.1 rfl (Nat.le_of_ble_eq_true rfl) rfl dX3_findNearest_19 ⟨⟨Nat.le_of_ble_eq_true rfl, Nat.le_of_ble_eq_true rfl⟩, Nat.le_of_ble_eq_true rfl, Nat.le_of_ble_eq_true rfl⟩) rfl rfl (fun r_5 _ H locs hw_6 hP hD hK hS => ?_)
  have hK : va_K D vwCl [(K, .int)] s := hK
  have hP : va_P D vwCl [(re, .inr (3, [.ref rd, .int nd, .ref rl, .int ldi, .int sot, .int tie, .int ff, .int ft])), (tm, .inr (4, [.ref tmA, .int (nI tn)])), (tmA, .inl (K, 41, .inl tf))] H := hP
  have hD : va_D A [(re, .inr (3, [.ref rd, .int nd, .ref rl, .int ldi, .int sot, .int tie, .int ff, .int ft])), (tm, .inr (4, [.ref tmA, .int (nI tn)])), (tmA, .inl (K, 41, .inl tf))] := hD
  have hw_6 : r_5 = (rowAt 41 (nI tn) tf (x + 2)) := hw_6
  have hw_6 := hw_6.symm
  subst hw_6
  refine k_nrm (y := (rowAt 41 (nI tn) tf (x + 2))) rfl ?_
  refine k_nrm (y := t2) h2 ?_
  refine lv_istore (lv' := [(5, .int t2), (4, .int t1), (3, .int t0), (0, .ref re), (1, .ref tm), (2, .int x)]) hx hb dX3_findNearest_22 hl (by decide) rfl (fun ls hl => ?_)
  refine lv_aload_n hx hb dX3_findNearest_24 rfl (lv_at hl 4 rfl) ?_
  refine lv_iload_n hx hb dX3_findNearest_25 rfl (lv_at hl 5 rfl) ?_
  refine lv_iconst (v := 3) hx hb dX3_findNearest_26 (by decide) ?_
  refine lv_iadd hx hb dX3_findNearest_27 ?_
  refine k_nrm (y := (x + 3)) (rfl) ?_
  have ct := k_cut_of (wc := [(tm, .inr (4, [.ref tmA, .int (nI tn)])), (tmA, .inl (K, 41, .inl tf))]) (wr := [(re, .inr (3, [.ref rd, .int nd, .ref rl, .int ldi, .int sot, .int tie, .int ff, .int ft]))]) (tc := [(K, .int)]) hG hS hA hK hP hD [1, 2] [0] [0] rfl rfl (by decide) (by decide) (by decide) rfl
  refine k_endi (As := [.ref tm, .int (x + 3)]) ct (k_runV (As := [.int (x + 3)]) (rest := []) S0 Lv_X3_77 rfl (ci := 4) (q0 := 0) rfl rfl ct (c_Row_at l D tm tmA (nI tn) K 41 tf (x + 3) (by first | assumption | decide) H.size) hl.1 rfl (Nat.le_of_ble_eq_true rfl) rfl dX3_findNearest_28 ⟨⟨Nat.le_of_ble_eq_true rfl, Nat.le_of_ble_eq_true rfl⟩, Nat.le_of_ble_eq_true rfl, Nat.le_of_ble_eq_true rfl⟩) rfl rfl (fun r_7 _ H locs hw_8 hP hD hK hS => ?_)
  have hK : va_K D vwCl [(K, .int)] s := hK
  have hP : va_P D vwCl [(re, .inr (3, [.ref rd, .int nd, .ref rl, .int ldi, .int sot, .int tie, .int ff, .int ft])), (tm, .inr (4, [.ref tmA, .int (nI tn)])), (tmA, .inl (K, 41, .inl tf))] H := hP
  have hD : va_D A [(re, .inr (3, [.ref rd, .int nd, .ref rl, .int ldi, .int sot, .int tie, .int ff, .int ft])), (tm, .inr (4, [.ref tmA, .int (nI tn)])), (tmA, .inl (K, 41, .inl tf))] := hD
  have hw_8 : r_7 = (rowAt 41 (nI tn) tf (x + 3)) := hw_8
  have hw_8 := hw_8.symm
  subst hw_8
  refine k_nrm (y := (rowAt 41 (nI tn) tf (x + 3))) rfl ?_
  refine k_nrm (y := t3) h3 ?_
  refine lv_istore (lv' := [(6, .int t3), (5, .int t2), (4, .int t1), (3, .int t0), (0, .ref re), (1, .ref tm), (2, .int x)]) hx hb dX3_findNearest_31 hl (by decide) rfl (fun ls hl => ?_)
  refine lv_aload_n hx hb dX3_findNearest_33 rfl (lv_at hl 4 rfl) ?_
  refine lv_iload_n hx hb dX3_findNearest_34 rfl (lv_at hl 3 rfl) ?_
  refine lv_iload hx hb dX3_findNearest_35 (lv_at hl 2 rfl) ?_
  refine lv_iadd hx hb dX3_findNearest_37 ?_
  refine k_nrm (y := (t0 + t1)) (rfl) ?_
  refine lv_iload hx hb dX3_findNearest_38 (lv_at hl 1 rfl) ?_
  refine lv_iadd hx hb dX3_findNearest_40 ?_
  refine k_nrm (y := (t0 + t1 + t2)) (rfl) ?_
  refine lv_iload hx hb dX3_findNearest_41 (lv_at hl 0 rfl) ?_
  refine lv_iadd hx hb dX3_findNearest_43 ?_
  refine k_nrm (y := sm) (hs) ?_
  refine va_put (D := D) (ci := 3) (v := .int sm) (ty := .int) (C := RX3) (T := TX3) (N := 8) hx hb ht inA_X3 tyX3 tyX3_ok nmX3 hown hK hP hD hS 0 rfl rfl 4 (by decide) (ht _ lf_X3_65) (fun _ h9 => h9) rfl (tyX3_ok 4 (by decide)) rfl rfl (Nat.le_of_ble_eq_true rfl) dX3_findNearest_44 (fun H locs hP hD hS => ?_)
  have hP : va_P D vwCl [(re, .inr (3, [.ref rd, .int nd, .ref rl, .int ldi, .int sm, .int tie, .int ff, .int ft])), (tm, .inr (4, [.ref tmA, .int (nI tn)])), (tmA, .inl (K, 41, .inl tf))] H := hP
  have hD : va_D A [(re, .inr (3, [.ref rd, .int nd, .ref rl, .int ldi, .int sm, .int tie, .int ff, .int ft])), (tm, .inr (4, [.ref tmA, .int (nI tn)])), (tmA, .inl (K, 41, .inl tf))] := hD
  refine lv_aload_n hx hb dX3_findNearest_47 rfl (lv_at hl 4 rfl) ?_
  refine lv_iconst (v := (-1)) hx hb dX3_findNearest_48 (by decide) ?_
  refine va_put (D := D) (ci := 3) (v := .int (-1)) (ty := .int) (C := RX3) (T := TX3) (N := 8) hx hb ht inA_X3 tyX3 tyX3_ok nmX3 hown hK hP hD hS 0 rfl rfl 1 (by decide) (ht _ lf_X3_68) (fun _ h9 => h9) rfl (tyX3_ok 1 (by decide)) rfl rfl (Nat.le_of_ble_eq_true rfl) dX3_findNearest_49 (fun H locs hP hD hS => ?_)
  have hP : va_P D vwCl [(re, .inr (3, [.ref rd, .int (-1), .ref rl, .int ldi, .int sm, .int tie, .int ff, .int ft])), (tm, .inr (4, [.ref tmA, .int (nI tn)])), (tmA, .inl (K, 41, .inl tf))] H := hP
  have hD : va_D A [(re, .inr (3, [.ref rd, .int (-1), .ref rl, .int ldi, .int sm, .int tie, .int ff, .int ft])), (tm, .inr (4, [.ref tmA, .int (nI tn)])), (tmA, .inl (K, 41, .inl tf))] := hD
  refine lv_iconst (v := 0) hx hb dX3_findNearest_52 (by decide) ?_
  refine lv_istore (lv' := [(7, .int 0), (6, .int t3), (5, .int t2), (4, .int t1), (3, .int t0), (0, .ref re), (1, .ref tm), (2, .int x)]) hx hb dX3_findNearest_53 hl (by decide) rfl (fun ls hl => ?_)
  have hf_9 : ((-1) : Int32) = ((nrF dd ldi tie 0).1) := rfl
  have hP : va_P D vwCl [(re, .inr (3, [.ref rd, .int ((nrF dd ldi tie 0).1), .ref rl, .int ldi, .int sm, .int tie, .int ff, .int ft])), (tm, .inr (4, [.ref tmA, .int (nI tn)])), (tmA, .inl (K, 41, .inl tf))] H := (congrArg (fun z9 : Int32 => va_P D vwCl [(re, .inr (3, [.ref rd, .int z9, .ref rl, .int ldi, .int sm, .int tie, .int ff, .int ft])), (tm, .inr (4, [.ref tmA, .int (nI tn)])), (tmA, .inl (K, 41, .inl tf))] H) hf_9).mp hP
  have hD : va_D A [(re, .inr (3, [.ref rd, .int ((nrF dd ldi tie 0).1), .ref rl, .int ldi, .int sm, .int tie, .int ff, .int ft])), (tm, .inr (4, [.ref tmA, .int (nI tn)])), (tmA, .inl (K, 41, .inl tf))] := (congrArg (fun z9 : Int32 => va_D A [(re, .inr (3, [.ref rd, .int z9, .ref rl, .int ldi, .int sm, .int tie, .int ff, .int ft])), (tm, .inr (4, [.ref tmA, .int (nI tn)])), (tmA, .inl (K, 41, .inl tf))]) hf_9).mp hD
  have hf_10 : (ldi : Int32) = ((nrF dd ldi tie 0).2.1) := rfl
  have hP : va_P D vwCl [(re, .inr (3, [.ref rd, .int ((nrF dd ldi tie 0).1), .ref rl, .int ((nrF dd ldi tie 0).2.1), .int sm, .int tie, .int ff, .int ft])), (tm, .inr (4, [.ref tmA, .int (nI tn)])), (tmA, .inl (K, 41, .inl tf))] H := (congrArg (fun z9 : Int32 => va_P D vwCl [(re, .inr (3, [.ref rd, .int ((nrF dd ldi tie 0).1), .ref rl, .int z9, .int sm, .int tie, .int ff, .int ft])), (tm, .inr (4, [.ref tmA, .int (nI tn)])), (tmA, .inl (K, 41, .inl tf))] H) hf_10).mp hP
  have hD : va_D A [(re, .inr (3, [.ref rd, .int ((nrF dd ldi tie 0).1), .ref rl, .int ((nrF dd ldi tie 0).2.1), .int sm, .int tie, .int ff, .int ft])), (tm, .inr (4, [.ref tmA, .int (nI tn)])), (tmA, .inl (K, 41, .inl tf))] := (congrArg (fun z9 : Int32 => va_D A [(re, .inr (3, [.ref rd, .int ((nrF dd ldi tie 0).1), .ref rl, .int z9, .int sm, .int tie, .int ff, .int ft])), (tm, .inr (4, [.ref tmA, .int (nI tn)])), (tmA, .inl (K, 41, .inl tf))]) hf_10).mp hD
  have hf_11 : (tie : Int32) = ((nrF dd ldi tie 0).2.2) := rfl
  have hP : va_P D vwCl [(re, .inr (3, [.ref rd, .int ((nrF dd ldi tie 0).1), .ref rl, .int ((nrF dd ldi tie 0).2.1), .int sm, .int ((nrF dd ldi tie 0).2.2), .int ff, .int ft])), (tm, .inr (4, [.ref tmA, .int (nI tn)])), (tmA, .inl (K, 41, .inl tf))] H := (congrArg (fun z9 : Int32 => va_P D vwCl [(re, .inr (3, [.ref rd, .int ((nrF dd ldi tie 0).1), .ref rl, .int ((nrF dd ldi tie 0).2.1), .int sm, .int z9, .int ff, .int ft])), (tm, .inr (4, [.ref tmA, .int (nI tn)])), (tmA, .inl (K, 41, .inl tf))] H) hf_11).mp hP
  have hD : va_D A [(re, .inr (3, [.ref rd, .int ((nrF dd ldi tie 0).1), .ref rl, .int ((nrF dd ldi tie 0).2.1), .int sm, .int ((nrF dd ldi tie 0).2.2), .int ff, .int ft])), (tm, .inr (4, [.ref tmA, .int (nI tn)])), (tmA, .inl (K, 41, .inl tf))] := (congrArg (fun z9 : Int32 => va_D A [(re, .inr (3, [.ref rd, .int ((nrF dd ldi tie 0).1), .ref rl, .int ((nrF dd ldi tie 0).2.1), .int sm, .int z9, .int ff, .int ft])), (tm, .inr (4, [.ref tmA, .int (nI tn)])), (tmA, .inl (K, 41, .inl tf))]) hf_11).mp hD
  have hl : lv_has ls 9 [(7, .int (nI (4 * 0))), (6, .int t3), (5, .int t2), (4, .int t1), (3, .int t0), (0, .ref re), (1, .ref tm), (2, .int x)] := hl
  refine k_loop (ι := Nat) (fun (i : Nat) H9 locs9 ls9 => (i ≤ 10) ∧ va_P D vwCl [(re, .inr (3, [.ref rd, .int ((nrF dd ldi tie i).1), .ref rl, .int ((nrF dd ldi tie i).2.1), .int sm, .int ((nrF dd ldi tie i).2.2), .int ff, .int ft])), (tm, .inr (4, [.ref tmA, .int (nI tn)])), (tmA, .inl (K, 41, .inl tf))] H9 ∧ va_D A [(re, .inr (3, [.ref rd, .int ((nrF dd ldi tie i).1), .ref rl, .int ((nrF dd ldi tie i).2.1), .int sm, .int ((nrF dd ldi tie i).2.2), .int ff, .int ft])), (tm, .inr (4, [.ref tmA, .int (nI tn)])), (tmA, .inl (K, 41, .inl tf))] ∧ va_S A s.heap H9 locs9 ∧ lv_has ls9 9 [(7, .int (nI (4 * i))), (3, .int t0), (4, .int t1), (5, .int t2), (6, .int t3), (0, .ref re), (1, .ref tm), (2, .int x)]) (fun (i : Nat) => 10 - i) ?_ (0) ⟨(Nat.zero_le _), hP.sub [0, 1, 2] rfl, hD.sub [0, 1, 2] (by decide) rfl, hS, lv_sub hl [0, 4, 3, 2, 1, 5, 6, 7] rfl⟩
  intro x9 H locs ls hF9 ih9
  obtain ⟨i, hv9⟩ : ∃ z, z = x9 := ⟨_, rfl⟩
  subst hv9
  obtain ⟨hi, hP, hD, hS, hl⟩ := hF9
  try dsimp only at ih9
  have hP : va_P D vwCl [(re, .inr (3, [.ref rd, .int ((nrF dd ldi tie i).1), .ref rl, .int ((nrF dd ldi tie i).2.1), .int sm, .int ((nrF dd ldi tie i).2.2), .int ff, .int ft])), (tm, .inr (4, [.ref tmA, .int (nI tn)])), (tmA, .inl (K, 41, .inl tf))] H := hP
  have hD : va_D A [(re, .inr (3, [.ref rd, .int ((nrF dd ldi tie i).1), .ref rl, .int ((nrF dd ldi tie i).2.1), .int sm, .int ((nrF dd ldi tie i).2.2), .int ff, .int ft])), (tm, .inr (4, [.ref tmA, .int (nI tn)])), (tmA, .inl (K, 41, .inl tf))] := hD
  have hl : lv_has ls 9 [(7, .int (nI (4 * i))), (3, .int t0), (4, .int t1), (5, .int t2), (6, .int t3), (0, .ref re), (1, .ref tm), (2, .int x)] := hl
  refine lv_iload hx hb dX3_findNearest_55 (lv_at hl 0 rfl) ?_
  refine lv_iconst (v := 3) hx hb dX3_findNearest_57 (by decide) ?_
  refine lv_iadd hx hb dX3_findNearest_58 ?_
  refine k_nrm (y := (nI (4 * i + 3))) (nI_add (4 * i) 3) ?_
  obtain ⟨tw9, hZ9, hT9⟩ := hG.2.2.2.2.2.2
  refine va_getsN hx hb hZ9 hS hown (va_Nw.use (A := _) rfl (hG.1 _ ln_X3_90 rfl)) (fun _ h9 => h9) dX3_findNearest_59 ?_
  refine va_tlen (v := 40) hx hb hT9 hS (by decide) dX3_findNearest_62 ?_
  refine lv_icmp_ge (tgt := 183) hx hb dX3_findNearest_63 (by decide) (fun c_12 => ?_) (fun c_12 => ?_)
  · have hc9 := c_12
    obtain rfl : 10 = i := by rcases Nat.lt_or_ge i 10 with q9 | q9; exact absurd c_12 (nI_ge (b := 40) (by omega) (by omega)); omega
    have hP9 : va_P D vwCl [(re, .inr (3, [.ref rd, .int ((nrF dd ldi tie 10).1), .ref rl, .int ((nrF dd ldi tie 10).2.1), .int sm, .int ((nrF dd ldi tie 10).2.2), .int ff, .int ft])), (tm, .inr (4, [.ref tmA, .int (nI tn)])), (tmA, .inl (K, 41, .inl tf))] H := hP.sub [0, 1, 2] rfl
    have hD9 : va_D A [(re, .inr (3, [.ref rd, .int ((nrF dd ldi tie 10).1), .ref rl, .int ((nrF dd ldi tie 10).2.1), .int sm, .int ((nrF dd ldi tie 10).2.2), .int ff, .int ft])), (tm, .inr (4, [.ref tmA, .int (nI tn)])), (tmA, .inl (K, 41, .inl tf))] := hD.sub [0, 1, 2] (by decide) rfl
    have hK9 : va_K D vwCl [] s := hK.sub [] rfl
    exact W.vret hx hb hr (fun t ht9 hW9 => ⟨⟨(((nrF dd ldi tie 10).1), ((nrF dd ldi tie 10).2.1), ((nrF dd ldi tie 10).2.2)), rfl, by exact ⟨by rw [nrF_init], by rw [nrF_init], by rw [nrF_init]⟩, ⟨by rw [ht9]; exact hP9, va_K.moved hW9.alike hK9, hD9⟩⟩, hS.F ht9⟩) hS.2.2 dX3_findNearest_183
  · have hc9 := c_12
    have hik : i + 1 ≤ 10 := by rcases Nat.lt_or_ge i 10 with q9 | q9; exact q9; exact absurd (nI_le (a := 40) (by omega) (by omega)) c_12
    refine lv_aload_n hx hb dX3_findNearest_66 rfl (lv_at hl 5 rfl) ?_
    refine lv_iload_n hx hb dX3_findNearest_67 rfl (lv_at hl 1 rfl) ?_
    obtain ⟨tw9, hZ9, hT9⟩ := hG.2.2.2.2.2.2
    refine va_getsN hx hb hZ9 hS hown (va_Nw.use (A := _) rfl (hG.1 _ ln_X3_90 rfl)) (fun _ h9 => h9) dX3_findNearest_68 ?_
    refine lv_iload hx hb dX3_findNearest_71 (lv_at hl 0 rfl) ?_
    refine va_ti hx hb hT9 hS (vp_in_nI (by omega) (by omega)) (v := .int (wdt (nI (4 * i)).toNatClampNeg)) rfl dX3_findNearest_73 ?_
    refine k_nrm (y := (wdt (4 * i))) (by rw [nI_clamp (by omega)]) ?_
    have ct := k_cut_of (wc := [(re, .inr (3, [.ref rd, .int ((nrF dd ldi tie i).1), .ref rl, .int ((nrF dd ldi tie i).2.1), .int sm, .int ((nrF dd ldi tie i).2.2), .int ff, .int ft]))]) (wr := [(tm, .inr (4, [.ref tmA, .int (nI tn)])), (tmA, .inl (K, 41, .inl tf))]) (tc := []) hG hS hA hK hP hD [0] [1, 2] [] rfl rfl (by decide) (by decide) (by decide) rfl
    refine k_endi (As := [.ref re, .int t0, .int (wdt (4 * i))]) ct (k_runV (As := [.int t0, .int (wdt (4 * i))]) (rest := []) S0 Lv_X3_94 rfl (ci := 3) (q0 := 0) rfl rfl ct (c_amountOff l D re rd ((nrF dd ldi tie i).1) rl ((nrF dd ldi tie i).2.1) sm ((nrF dd ldi tie i).2.2) ff ft t0 (wdt (4 * i)) H.size) hl.1 rfl (Nat.le_of_ble_eq_true rfl) rfl dX3_findNearest_74 ⟨⟨Nat.le_of_ble_eq_true rfl, Nat.le_of_ble_eq_true rfl⟩, Nat.le_of_ble_eq_true rfl, Nat.le_of_ble_eq_true rfl⟩) rfl rfl (fun r_13 _ H locs hw_14 hP hD hK hS => ?_)
    have hK : va_K D vwCl [(K, .int)] s := hK
    have hP : va_P D vwCl [(tm, .inr (4, [.ref tmA, .int (nI tn)])), (tmA, .inl (K, 41, .inl tf)), (re, .inr (3, [.ref rd, .int ((nrF dd ldi tie i).1), .ref rl, .int ((nrF dd ldi tie i).2.1), .int sm, .int ((nrF dd ldi tie i).2.2), .int ff, .int ft]))] H := hP
    have hD : va_D A [(tm, .inr (4, [.ref tmA, .int (nI tn)])), (tmA, .inl (K, 41, .inl tf)), (re, .inr (3, [.ref rd, .int ((nrF dd ldi tie i).1), .ref rl, .int ((nrF dd ldi tie i).2.1), .int sm, .int ((nrF dd ldi tie i).2.2), .int ff, .int ft]))] := hD
    have hw_14 : r_13 = (amF sm t0 (wdt (4 * i))) := hw_14
    have hw_14 := hw_14.symm
    subst hw_14
    refine k_nrm (y := (amF sm t0 (wdt (4 * i)))) rfl ?_
    refine lv_aload_n hx hb dX3_findNearest_77 rfl (lv_at hl 5 rfl) ?_
    refine lv_iload hx hb dX3_findNearest_78 (lv_at hl 2 rfl) ?_
    obtain ⟨tw9, hZ9, hT9⟩ := hG.2.2.2.2.2.2
    refine va_getsN hx hb hZ9 hS hown (va_Nw.use (A := _) rfl (hG.1 _ ln_X3_90 rfl)) (fun _ h9 => h9) dX3_findNearest_80 ?_
    refine lv_iload hx hb dX3_findNearest_83 (lv_at hl 0 rfl) ?_
    refine lv_iconst (v := 1) hx hb dX3_findNearest_85 (by decide) ?_
    refine lv_iadd hx hb dX3_findNearest_86 ?_
    refine k_nrm (y := (nI (4 * i + 1))) (nI_add (4 * i) 1) ?_
    refine va_ti hx hb hT9 hS (vp_in_nI (by omega) (by omega)) (v := .int (wdt (nI (4 * i + 1)).toNatClampNeg)) rfl dX3_findNearest_87 ?_
    refine k_nrm (y := (wdt (4 * i + 1))) (by rw [nI_clamp (by omega)]) ?_
    have ct := k_cut_of (wc := [(re, .inr (3, [.ref rd, .int ((nrF dd ldi tie i).1), .ref rl, .int ((nrF dd ldi tie i).2.1), .int sm, .int ((nrF dd ldi tie i).2.2), .int ff, .int ft]))]) (wr := [(tm, .inr (4, [.ref tmA, .int (nI tn)])), (tmA, .inl (K, 41, .inl tf))]) (tc := []) hG hS hA hK hP hD [2] [0, 1] [] rfl rfl (by decide) (by decide) (by decide) rfl
    refine k_endi (As := [.ref re, .int t1, .int (wdt (4 * i + 1))]) ct (k_runV (As := [.int t1, .int (wdt (4 * i + 1))]) (rest := [.int (amF sm t0 (wdt (4 * i)))]) S0 Lv_X3_94 rfl (ci := 3) (q0 := 0) rfl rfl ct (c_amountOff l D re rd ((nrF dd ldi tie i).1) rl ((nrF dd ldi tie i).2.1) sm ((nrF dd ldi tie i).2.2) ff ft t1 (wdt (4 * i + 1)) H.size) hl.1 rfl (Nat.le_of_ble_eq_true rfl) rfl dX3_findNearest_88 ⟨⟨Nat.le_of_ble_eq_true rfl, Nat.le_of_ble_eq_true rfl⟩, Nat.le_of_ble_eq_true rfl, Nat.le_of_ble_eq_true rfl⟩) rfl rfl (fun r_15 _ H locs hw_16 hP hD hK hS => ?_)
    have hK : va_K D vwCl [(K, .int)] s := hK
    have hP : va_P D vwCl [(tm, .inr (4, [.ref tmA, .int (nI tn)])), (tmA, .inl (K, 41, .inl tf)), (re, .inr (3, [.ref rd, .int ((nrF dd ldi tie i).1), .ref rl, .int ((nrF dd ldi tie i).2.1), .int sm, .int ((nrF dd ldi tie i).2.2), .int ff, .int ft]))] H := hP
    have hD : va_D A [(tm, .inr (4, [.ref tmA, .int (nI tn)])), (tmA, .inl (K, 41, .inl tf)), (re, .inr (3, [.ref rd, .int ((nrF dd ldi tie i).1), .ref rl, .int ((nrF dd ldi tie i).2.1), .int sm, .int ((nrF dd ldi tie i).2.2), .int ff, .int ft]))] := hD
    have hw_16 : r_15 = (amF sm t1 (wdt (4 * i + 1))) := hw_16
    have hw_16 := hw_16.symm
    subst hw_16
    refine k_nrm (y := (amF sm t1 (wdt (4 * i + 1)))) rfl ?_
    refine lv_iadd hx hb dX3_findNearest_91 ?_
    refine k_nrm (y := ((amF sm t0 (wdt (4 * i))) + (amF sm t1 (wdt (4 * i + 1))))) (rfl) ?_
    refine lv_aload_n hx hb dX3_findNearest_92 rfl (lv_at hl 5 rfl) ?_
    refine lv_iload hx hb dX3_findNearest_93 (lv_at hl 3 rfl) ?_
    obtain ⟨tw9, hZ9, hT9⟩ := hG.2.2.2.2.2.2
    refine va_getsN hx hb hZ9 hS hown (va_Nw.use (A := _) rfl (hG.1 _ ln_X3_90 rfl)) (fun _ h9 => h9) dX3_findNearest_95 ?_
    refine lv_iload hx hb dX3_findNearest_98 (lv_at hl 0 rfl) ?_
    refine lv_iconst (v := 2) hx hb dX3_findNearest_100 (by decide) ?_
    refine lv_iadd hx hb dX3_findNearest_101 ?_
    refine k_nrm (y := (nI (4 * i + 2))) (nI_add (4 * i) 2) ?_
    refine va_ti hx hb hT9 hS (vp_in_nI (by omega) (by omega)) (v := .int (wdt (nI (4 * i + 2)).toNatClampNeg)) rfl dX3_findNearest_102 ?_
    refine k_nrm (y := (wdt (4 * i + 2))) (by rw [nI_clamp (by omega)]) ?_
    have ct := k_cut_of (wc := [(re, .inr (3, [.ref rd, .int ((nrF dd ldi tie i).1), .ref rl, .int ((nrF dd ldi tie i).2.1), .int sm, .int ((nrF dd ldi tie i).2.2), .int ff, .int ft]))]) (wr := [(tm, .inr (4, [.ref tmA, .int (nI tn)])), (tmA, .inl (K, 41, .inl tf))]) (tc := []) hG hS hA hK hP hD [2] [0, 1] [] rfl rfl (by decide) (by decide) (by decide) rfl
    refine k_endi (As := [.ref re, .int t2, .int (wdt (4 * i + 2))]) ct (k_runV (As := [.int t2, .int (wdt (4 * i + 2))]) (rest := [.int ((amF sm t0 (wdt (4 * i))) + (amF sm t1 (wdt (4 * i + 1))))]) S0 Lv_X3_94 rfl (ci := 3) (q0 := 0) rfl rfl ct (c_amountOff l D re rd ((nrF dd ldi tie i).1) rl ((nrF dd ldi tie i).2.1) sm ((nrF dd ldi tie i).2.2) ff ft t2 (wdt (4 * i + 2)) H.size) hl.1 rfl (Nat.le_of_ble_eq_true rfl) rfl dX3_findNearest_103 ⟨⟨Nat.le_of_ble_eq_true rfl, Nat.le_of_ble_eq_true rfl⟩, Nat.le_of_ble_eq_true rfl, Nat.le_of_ble_eq_true rfl⟩) rfl rfl (fun r_17 _ H locs hw_18 hP hD hK hS => ?_)
    have hK : va_K D vwCl [(K, .int)] s := hK
    have hP : va_P D vwCl [(tm, .inr (4, [.ref tmA, .int (nI tn)])), (tmA, .inl (K, 41, .inl tf)), (re, .inr (3, [.ref rd, .int ((nrF dd ldi tie i).1), .ref rl, .int ((nrF dd ldi tie i).2.1), .int sm, .int ((nrF dd ldi tie i).2.2), .int ff, .int ft]))] H := hP
    have hD : va_D A [(tm, .inr (4, [.ref tmA, .int (nI tn)])), (tmA, .inl (K, 41, .inl tf)), (re, .inr (3, [.ref rd, .int ((nrF dd ldi tie i).1), .ref rl, .int ((nrF dd ldi tie i).2.1), .int sm, .int ((nrF dd ldi tie i).2.2), .int ff, .int ft]))] := hD
    have hw_18 : r_17 = (amF sm t2 (wdt (4 * i + 2))) := hw_18
    have hw_18 := hw_18.symm
    subst hw_18
    refine k_nrm (y := (amF sm t2 (wdt (4 * i + 2)))) rfl ?_
    refine lv_iadd hx hb dX3_findNearest_106 ?_
    refine k_nrm (y := ((amF sm t0 (wdt (4 * i))) + (amF sm t1 (wdt (4 * i + 1))) + (amF sm t2 (wdt (4 * i + 2))))) (rfl) ?_
    refine lv_aload_n hx hb dX3_findNearest_107 rfl (lv_at hl 5 rfl) ?_
    refine lv_iload hx hb dX3_findNearest_108 (lv_at hl 4 rfl) ?_
    obtain ⟨tw9, hZ9, hT9⟩ := hG.2.2.2.2.2.2
    refine va_getsN hx hb hZ9 hS hown (va_Nw.use (A := _) rfl (hG.1 _ ln_X3_90 rfl)) (fun _ h9 => h9) dX3_findNearest_110 ?_
    refine lv_iload hx hb dX3_findNearest_113 (lv_at hl 0 rfl) ?_
    refine lv_iconst (v := 3) hx hb dX3_findNearest_115 (by decide) ?_
    refine lv_iadd hx hb dX3_findNearest_116 ?_
    refine k_nrm (y := (nI (4 * i + 3))) (nI_add (4 * i) 3) ?_
    refine va_ti hx hb hT9 hS (vp_in_nI (by omega) (by omega)) (v := .int (wdt (nI (4 * i + 3)).toNatClampNeg)) rfl dX3_findNearest_117 ?_
    refine k_nrm (y := (wdt (4 * i + 3))) (by rw [nI_clamp (by omega)]) ?_
    have ct := k_cut_of (wc := [(re, .inr (3, [.ref rd, .int ((nrF dd ldi tie i).1), .ref rl, .int ((nrF dd ldi tie i).2.1), .int sm, .int ((nrF dd ldi tie i).2.2), .int ff, .int ft]))]) (wr := [(tm, .inr (4, [.ref tmA, .int (nI tn)])), (tmA, .inl (K, 41, .inl tf))]) (tc := []) hG hS hA hK hP hD [2] [0, 1] [] rfl rfl (by decide) (by decide) (by decide) rfl
    refine k_endi (As := [.ref re, .int t3, .int (wdt (4 * i + 3))]) ct (k_runV (As := [.int t3, .int (wdt (4 * i + 3))]) (rest := [.int ((amF sm t0 (wdt (4 * i))) + (amF sm t1 (wdt (4 * i + 1))) + (amF sm t2 (wdt (4 * i + 2))))]) S0 Lv_X3_94 rfl (ci := 3) (q0 := 0) rfl rfl ct (c_amountOff l D re rd ((nrF dd ldi tie i).1) rl ((nrF dd ldi tie i).2.1) sm ((nrF dd ldi tie i).2.2) ff ft t3 (wdt (4 * i + 3)) H.size) hl.1 rfl (Nat.le_of_ble_eq_true rfl) rfl dX3_findNearest_118 ⟨⟨Nat.le_of_ble_eq_true rfl, Nat.le_of_ble_eq_true rfl⟩, Nat.le_of_ble_eq_true rfl, Nat.le_of_ble_eq_true rfl⟩) rfl rfl (fun r_19 _ H locs hw_20 hP hD hK hS => ?_)
    have hK : va_K D vwCl [(K, .int)] s := hK
    have hP : va_P D vwCl [(tm, .inr (4, [.ref tmA, .int (nI tn)])), (tmA, .inl (K, 41, .inl tf)), (re, .inr (3, [.ref rd, .int ((nrF dd ldi tie i).1), .ref rl, .int ((nrF dd ldi tie i).2.1), .int sm, .int ((nrF dd ldi tie i).2.2), .int ff, .int ft]))] H := hP
    have hD : va_D A [(tm, .inr (4, [.ref tmA, .int (nI tn)])), (tmA, .inl (K, 41, .inl tf)), (re, .inr (3, [.ref rd, .int ((nrF dd ldi tie i).1), .ref rl, .int ((nrF dd ldi tie i).2.1), .int sm, .int ((nrF dd ldi tie i).2.2), .int ff, .int ft]))] := hD
    have hw_20 : r_19 = (amF sm t3 (wdt (4 * i + 3))) := hw_20
    have hw_20 := hw_20.symm
    subst hw_20
    refine k_nrm (y := (amF sm t3 (wdt (4 * i + 3)))) rfl ?_
    refine lv_iadd hx hb dX3_findNearest_121 ?_
    refine k_nrm (y := (dd i)) (by rw [hd]; rfl) ?_
    refine lv_istore (lv' := [(8, .int (dd i)), (7, .int (nI (4 * i))), (3, .int t0), (4, .int t1), (5, .int t2), (6, .int t3), (0, .ref re), (1, .ref tm), (2, .int x)]) hx hb dX3_findNearest_122 hl (by decide) rfl (fun ls hl => ?_)
    refine lv_aload_n hx hb dX3_findNearest_124 rfl (lv_at hl 6 rfl) ?_
    refine va_get (D := D) (ci := 3) (v := .int ((nrF dd ldi tie i).1)) (C := RX3) (T := TX3) (N := 8) hx hb ht inA_X3 hown hK hP 2 rfl rfl 1 (by decide) (ht _ lf_X3_68) (fun _ h9 => h9) rfl dX3_findNearest_125 ?_
    refine lv_iconst (v := (-1)) hx hb dX3_findNearest_128 (by decide) ?_
    refine lv_icmp_eq (tgt := 141) hx hb dX3_findNearest_129 (by decide) (fun c_21 => ?_) (fun c_21 => ?_)
    · have hc9 := c_21
      refine lv_aload_n hx hb dX3_findNearest_141 rfl (lv_at hl 6 rfl) ?_
      refine lv_iload hx hb dX3_findNearest_142 (lv_at hl 1 rfl) ?_
      refine lv_iconst (v := 4) hx hb dX3_findNearest_144 (by decide) ?_
      refine lv_idiv hx hb dX3_findNearest_145 (by decide) ?_
      refine k_nrm (y := (nI i)) (by rw [show (4 : Int32) = nI 4 from rfl, pk_div (by omega) (by omega) (by omega), Nat.mul_div_cancel_left i (by omega)]) ?_
      refine va_put (D := D) (ci := 3) (v := .int (nI i)) (ty := .int) (C := RX3) (T := TX3) (N := 8) hx hb ht inA_X3 tyX3 tyX3_ok nmX3 hown hK hP hD hS 2 rfl rfl 1 (by decide) (ht _ lf_X3_68) (fun _ h9 => h9) rfl (tyX3_ok 1 (by decide)) rfl rfl (Nat.le_of_ble_eq_true rfl) dX3_findNearest_146 (fun H locs hP hD hS => ?_)
      have hP : va_P D vwCl [(tm, .inr (4, [.ref tmA, .int (nI tn)])), (tmA, .inl (K, 41, .inl tf)), (re, .inr (3, [.ref rd, .int (nI i), .ref rl, .int ((nrF dd ldi tie i).2.1), .int sm, .int ((nrF dd ldi tie i).2.2), .int ff, .int ft]))] H := hP
      have hD : va_D A [(tm, .inr (4, [.ref tmA, .int (nI tn)])), (tmA, .inl (K, 41, .inl tf)), (re, .inr (3, [.ref rd, .int (nI i), .ref rl, .int ((nrF dd ldi tie i).2.1), .int sm, .int ((nrF dd ldi tie i).2.2), .int ff, .int ft]))] := hD
      refine lv_aload_n hx hb dX3_findNearest_149 rfl (lv_at hl 6 rfl) ?_
      refine lv_iload hx hb dX3_findNearest_150 (lv_at hl 0 rfl) ?_
      refine va_put (D := D) (ci := 3) (v := .int (dd i)) (ty := .int) (C := RX3) (T := TX3) (N := 8) hx hb ht inA_X3 tyX3 tyX3_ok nmX3 hown hK hP hD hS 2 rfl rfl 3 (by decide) (ht _ lf_X3_61) (fun _ h9 => h9) rfl (tyX3_ok 3 (by decide)) rfl rfl (Nat.le_of_ble_eq_true rfl) dX3_findNearest_152 (fun H locs hP hD hS => ?_)
      have hP : va_P D vwCl [(tm, .inr (4, [.ref tmA, .int (nI tn)])), (tmA, .inl (K, 41, .inl tf)), (re, .inr (3, [.ref rd, .int (nI i), .ref rl, .int (dd i), .int sm, .int ((nrF dd ldi tie i).2.2), .int ff, .int ft]))] H := hP
      have hD : va_D A [(tm, .inr (4, [.ref tmA, .int (nI tn)])), (tmA, .inl (K, 41, .inl tf)), (re, .inr (3, [.ref rd, .int (nI i), .ref rl, .int (dd i), .int sm, .int ((nrF dd ldi tie i).2.2), .int ff, .int ft]))] := hD
      refine lv_aload_n hx hb dX3_findNearest_155 rfl (lv_at hl 6 rfl) ?_
      refine lv_iconst (v := 0) hx hb dX3_findNearest_156 (by decide) ?_
      refine va_put (D := D) (ci := 3) (v := .int 0) (ty := .boolean) (C := RX3) (T := TX3) (N := 8) hx hb ht inA_X3 tyX3 tyX3_ok nmX3 hown hK hP hD hS 2 rfl rfl 5 (by decide) (ht _ lf_X3_57) (fun _ h9 => h9) rfl (tyX3_ok 5 (by decide)) rfl rfl (Nat.le_of_ble_eq_true rfl) dX3_findNearest_157 (fun H locs hP hD hS => ?_)
      have hP : va_P D vwCl [(tm, .inr (4, [.ref tmA, .int (nI tn)])), (tmA, .inl (K, 41, .inl tf)), (re, .inr (3, [.ref rd, .int (nI i), .ref rl, .int (dd i), .int sm, .int 0, .int ff, .int ft]))] H := hP
      have hD : va_D A [(tm, .inr (4, [.ref tmA, .int (nI tn)])), (tmA, .inl (K, 41, .inl tf)), (re, .inr (3, [.ref rd, .int (nI i), .ref rl, .int (dd i), .int sm, .int 0, .int ff, .int ft]))] := hD
      refine lv_goto (tgt := 177) hx hb dX3_findNearest_160 (by decide) ?_
      obtain ⟨x_22, ex_22⟩ : ∃ z : Int32, z = (nI (4 * i)) + 4 := ⟨_, rfl⟩
      refine lv_iinc (v := x_22) (lv' := [(7, .int x_22), (8, .int (dd i)), (3, .int t0), (4, .int t1), (5, .int t2), (6, .int t3), (0, .ref re), (1, .ref tm), (2, .int x)]) hx hb dX3_findNearest_177 hl (k := 1) rfl (by rw [ex_22]; rfl) (by decide) rfl (fun ls hl => ?_)
      refine lv_goto (tgt := 55) hx hb dX3_findNearest_180 (by decide) ?_
      have he9 : x_22 = nI (4 * (i + 1)) := by rw [ex_22]; exact nI_add (4 * i) 4
      rw [he9] at hl
      have hn9 := nrF_lt (d := dd) (l0 := ldi) (q0 := tie) (i := i) (Or.inl c_21)
      have hf_23 : ((nI i) : Int32) = ((nrF dd ldi tie (i + 1)).1) := by rw [hn9]
      have hP : va_P D vwCl [(tm, .inr (4, [.ref tmA, .int (nI tn)])), (tmA, .inl (K, 41, .inl tf)), (re, .inr (3, [.ref rd, .int ((nrF dd ldi tie (i + 1)).1), .ref rl, .int (dd i), .int sm, .int 0, .int ff, .int ft]))] H := (congrArg (fun z9 : Int32 => va_P D vwCl [(tm, .inr (4, [.ref tmA, .int (nI tn)])), (tmA, .inl (K, 41, .inl tf)), (re, .inr (3, [.ref rd, .int z9, .ref rl, .int (dd i), .int sm, .int 0, .int ff, .int ft]))] H) hf_23).mp hP
      have hD : va_D A [(tm, .inr (4, [.ref tmA, .int (nI tn)])), (tmA, .inl (K, 41, .inl tf)), (re, .inr (3, [.ref rd, .int ((nrF dd ldi tie (i + 1)).1), .ref rl, .int (dd i), .int sm, .int 0, .int ff, .int ft]))] := (congrArg (fun z9 : Int32 => va_D A [(tm, .inr (4, [.ref tmA, .int (nI tn)])), (tmA, .inl (K, 41, .inl tf)), (re, .inr (3, [.ref rd, .int z9, .ref rl, .int (dd i), .int sm, .int 0, .int ff, .int ft]))]) hf_23).mp hD
      have hf_24 : ((dd i) : Int32) = ((nrF dd ldi tie (i + 1)).2.1) := by rw [hn9]
      have hP : va_P D vwCl [(tm, .inr (4, [.ref tmA, .int (nI tn)])), (tmA, .inl (K, 41, .inl tf)), (re, .inr (3, [.ref rd, .int ((nrF dd ldi tie (i + 1)).1), .ref rl, .int ((nrF dd ldi tie (i + 1)).2.1), .int sm, .int 0, .int ff, .int ft]))] H := (congrArg (fun z9 : Int32 => va_P D vwCl [(tm, .inr (4, [.ref tmA, .int (nI tn)])), (tmA, .inl (K, 41, .inl tf)), (re, .inr (3, [.ref rd, .int ((nrF dd ldi tie (i + 1)).1), .ref rl, .int z9, .int sm, .int 0, .int ff, .int ft]))] H) hf_24).mp hP
      have hD : va_D A [(tm, .inr (4, [.ref tmA, .int (nI tn)])), (tmA, .inl (K, 41, .inl tf)), (re, .inr (3, [.ref rd, .int ((nrF dd ldi tie (i + 1)).1), .ref rl, .int ((nrF dd ldi tie (i + 1)).2.1), .int sm, .int 0, .int ff, .int ft]))] := (congrArg (fun z9 : Int32 => va_D A [(tm, .inr (4, [.ref tmA, .int (nI tn)])), (tmA, .inl (K, 41, .inl tf)), (re, .inr (3, [.ref rd, .int ((nrF dd ldi tie (i + 1)).1), .ref rl, .int z9, .int sm, .int 0, .int ff, .int ft]))]) hf_24).mp hD
      have hf_25 : (0 : Int32) = ((nrF dd ldi tie (i + 1)).2.2) := by rw [hn9]
      have hP : va_P D vwCl [(tm, .inr (4, [.ref tmA, .int (nI tn)])), (tmA, .inl (K, 41, .inl tf)), (re, .inr (3, [.ref rd, .int ((nrF dd ldi tie (i + 1)).1), .ref rl, .int ((nrF dd ldi tie (i + 1)).2.1), .int sm, .int ((nrF dd ldi tie (i + 1)).2.2), .int ff, .int ft]))] H := (congrArg (fun z9 : Int32 => va_P D vwCl [(tm, .inr (4, [.ref tmA, .int (nI tn)])), (tmA, .inl (K, 41, .inl tf)), (re, .inr (3, [.ref rd, .int ((nrF dd ldi tie (i + 1)).1), .ref rl, .int ((nrF dd ldi tie (i + 1)).2.1), .int sm, .int z9, .int ff, .int ft]))] H) hf_25).mp hP
      have hD : va_D A [(tm, .inr (4, [.ref tmA, .int (nI tn)])), (tmA, .inl (K, 41, .inl tf)), (re, .inr (3, [.ref rd, .int ((nrF dd ldi tie (i + 1)).1), .ref rl, .int ((nrF dd ldi tie (i + 1)).2.1), .int sm, .int ((nrF dd ldi tie (i + 1)).2.2), .int ff, .int ft]))] := (congrArg (fun z9 : Int32 => va_D A [(tm, .inr (4, [.ref tmA, .int (nI tn)])), (tmA, .inl (K, 41, .inl tf)), (re, .inr (3, [.ref rd, .int ((nrF dd ldi tie (i + 1)).1), .ref rl, .int ((nrF dd ldi tie (i + 1)).2.1), .int sm, .int z9, .int ff, .int ft]))]) hf_25).mp hD
      exact ih9 (i + 1) H locs ls (by omega) ⟨hik, hP.sub [2, 0, 1] rfl, hD.sub [2, 0, 1] (by decide) rfl, hS, lv_sub hl [0, 2, 3, 4, 5, 6, 7, 8] rfl⟩
    · have hc9 := c_21
      refine lv_iload hx hb dX3_findNearest_132 (lv_at hl 0 rfl) ?_
      refine lv_aload_n hx hb dX3_findNearest_134 rfl (lv_at hl 6 rfl) ?_
      refine va_get (D := D) (ci := 3) (v := .int ((nrF dd ldi tie i).2.1)) (C := RX3) (T := TX3) (N := 8) hx hb ht inA_X3 hown hK hP 2 rfl rfl 3 (by decide) (ht _ lf_X3_61) (fun _ h9 => h9) rfl dX3_findNearest_135 ?_
      refine lv_icmp_ge (tgt := 163) hx hb dX3_findNearest_138 (by decide) (fun c_26 => ?_) (fun c_26 => ?_)
      · have hc9 := c_26
        refine lv_iload hx hb dX3_findNearest_163 (lv_at hl 0 rfl) ?_
        refine lv_aload_n hx hb dX3_findNearest_165 rfl (lv_at hl 6 rfl) ?_
        refine va_get (D := D) (ci := 3) (v := .int ((nrF dd ldi tie i).2.1)) (C := RX3) (T := TX3) (N := 8) hx hb ht inA_X3 hown hK hP 2 rfl rfl 3 (by decide) (ht _ lf_X3_61) (fun _ h9 => h9) rfl dX3_findNearest_166 ?_
        refine lv_icmp_ne (tgt := 177) hx hb dX3_findNearest_169 (by decide) (fun c_27 => ?_) (fun c_27 => ?_)
        · have hc9 := c_27
          obtain ⟨x_28, ex_28⟩ : ∃ z : Int32, z = (nI (4 * i)) + 4 := ⟨_, rfl⟩
          refine lv_iinc (v := x_28) (lv' := [(7, .int x_28), (8, .int (dd i)), (3, .int t0), (4, .int t1), (5, .int t2), (6, .int t3), (0, .ref re), (1, .ref tm), (2, .int x)]) hx hb dX3_findNearest_177 hl (k := 1) rfl (by rw [ex_28]; rfl) (by decide) rfl (fun ls hl => ?_)
          refine lv_goto (tgt := 55) hx hb dX3_findNearest_180 (by decide) ?_
          have he9 : x_28 = nI (4 * (i + 1)) := by rw [ex_28]; exact nI_add (4 * i) 4
          rw [he9] at hl
          have hg9 : ¬ dd i < ((nrF dd ldi tie i).2.1) := fun q9 => absurd q9 (Int32.not_lt.mpr c_26)
          have hn9 := nrF_ge (d := dd) (l0 := ldi) (q0 := tie) (i := i) c_21 hg9 c_27
          have hf_29 : (((nrF dd ldi tie i).1) : Int32) = ((nrF dd ldi tie (i + 1)).1) := by rw [hn9]
          have hP : va_P D vwCl [(tm, .inr (4, [.ref tmA, .int (nI tn)])), (tmA, .inl (K, 41, .inl tf)), (re, .inr (3, [.ref rd, .int ((nrF dd ldi tie (i + 1)).1), .ref rl, .int ((nrF dd ldi tie i).2.1), .int sm, .int ((nrF dd ldi tie i).2.2), .int ff, .int ft]))] H := (congrArg (fun z9 : Int32 => va_P D vwCl [(tm, .inr (4, [.ref tmA, .int (nI tn)])), (tmA, .inl (K, 41, .inl tf)), (re, .inr (3, [.ref rd, .int z9, .ref rl, .int ((nrF dd ldi tie i).2.1), .int sm, .int ((nrF dd ldi tie i).2.2), .int ff, .int ft]))] H) hf_29).mp hP
          have hD : va_D A [(tm, .inr (4, [.ref tmA, .int (nI tn)])), (tmA, .inl (K, 41, .inl tf)), (re, .inr (3, [.ref rd, .int ((nrF dd ldi tie (i + 1)).1), .ref rl, .int ((nrF dd ldi tie i).2.1), .int sm, .int ((nrF dd ldi tie i).2.2), .int ff, .int ft]))] := (congrArg (fun z9 : Int32 => va_D A [(tm, .inr (4, [.ref tmA, .int (nI tn)])), (tmA, .inl (K, 41, .inl tf)), (re, .inr (3, [.ref rd, .int z9, .ref rl, .int ((nrF dd ldi tie i).2.1), .int sm, .int ((nrF dd ldi tie i).2.2), .int ff, .int ft]))]) hf_29).mp hD
          have hf_30 : (((nrF dd ldi tie i).2.1) : Int32) = ((nrF dd ldi tie (i + 1)).2.1) := by rw [hn9]
          have hP : va_P D vwCl [(tm, .inr (4, [.ref tmA, .int (nI tn)])), (tmA, .inl (K, 41, .inl tf)), (re, .inr (3, [.ref rd, .int ((nrF dd ldi tie (i + 1)).1), .ref rl, .int ((nrF dd ldi tie (i + 1)).2.1), .int sm, .int ((nrF dd ldi tie i).2.2), .int ff, .int ft]))] H := (congrArg (fun z9 : Int32 => va_P D vwCl [(tm, .inr (4, [.ref tmA, .int (nI tn)])), (tmA, .inl (K, 41, .inl tf)), (re, .inr (3, [.ref rd, .int ((nrF dd ldi tie (i + 1)).1), .ref rl, .int z9, .int sm, .int ((nrF dd ldi tie i).2.2), .int ff, .int ft]))] H) hf_30).mp hP
          have hD : va_D A [(tm, .inr (4, [.ref tmA, .int (nI tn)])), (tmA, .inl (K, 41, .inl tf)), (re, .inr (3, [.ref rd, .int ((nrF dd ldi tie (i + 1)).1), .ref rl, .int ((nrF dd ldi tie (i + 1)).2.1), .int sm, .int ((nrF dd ldi tie i).2.2), .int ff, .int ft]))] := (congrArg (fun z9 : Int32 => va_D A [(tm, .inr (4, [.ref tmA, .int (nI tn)])), (tmA, .inl (K, 41, .inl tf)), (re, .inr (3, [.ref rd, .int ((nrF dd ldi tie (i + 1)).1), .ref rl, .int z9, .int sm, .int ((nrF dd ldi tie i).2.2), .int ff, .int ft]))]) hf_30).mp hD
          have hf_31 : (((nrF dd ldi tie i).2.2) : Int32) = ((nrF dd ldi tie (i + 1)).2.2) := by rw [hn9]
          have hP : va_P D vwCl [(tm, .inr (4, [.ref tmA, .int (nI tn)])), (tmA, .inl (K, 41, .inl tf)), (re, .inr (3, [.ref rd, .int ((nrF dd ldi tie (i + 1)).1), .ref rl, .int ((nrF dd ldi tie (i + 1)).2.1), .int sm, .int ((nrF dd ldi tie (i + 1)).2.2), .int ff, .int ft]))] H := (congrArg (fun z9 : Int32 => va_P D vwCl [(tm, .inr (4, [.ref tmA, .int (nI tn)])), (tmA, .inl (K, 41, .inl tf)), (re, .inr (3, [.ref rd, .int ((nrF dd ldi tie (i + 1)).1), .ref rl, .int ((nrF dd ldi tie (i + 1)).2.1), .int sm, .int z9, .int ff, .int ft]))] H) hf_31).mp hP
          have hD : va_D A [(tm, .inr (4, [.ref tmA, .int (nI tn)])), (tmA, .inl (K, 41, .inl tf)), (re, .inr (3, [.ref rd, .int ((nrF dd ldi tie (i + 1)).1), .ref rl, .int ((nrF dd ldi tie (i + 1)).2.1), .int sm, .int ((nrF dd ldi tie (i + 1)).2.2), .int ff, .int ft]))] := (congrArg (fun z9 : Int32 => va_D A [(tm, .inr (4, [.ref tmA, .int (nI tn)])), (tmA, .inl (K, 41, .inl tf)), (re, .inr (3, [.ref rd, .int ((nrF dd ldi tie (i + 1)).1), .ref rl, .int ((nrF dd ldi tie (i + 1)).2.1), .int sm, .int z9, .int ff, .int ft]))]) hf_31).mp hD
          exact ih9 (i + 1) H locs ls (by omega) ⟨hik, hP.sub [2, 0, 1] rfl, hD.sub [2, 0, 1] (by decide) rfl, hS, lv_sub hl [0, 2, 3, 4, 5, 6, 7, 8] rfl⟩
        · have hc9 := c_27
          refine lv_aload_n hx hb dX3_findNearest_172 rfl (lv_at hl 6 rfl) ?_
          refine lv_iconst (v := 1) hx hb dX3_findNearest_173 (by decide) ?_
          refine va_put (D := D) (ci := 3) (v := .int 1) (ty := .boolean) (C := RX3) (T := TX3) (N := 8) hx hb ht inA_X3 tyX3 tyX3_ok nmX3 hown hK hP hD hS 2 rfl rfl 5 (by decide) (ht _ lf_X3_57) (fun _ h9 => h9) rfl (tyX3_ok 5 (by decide)) rfl rfl (Nat.le_of_ble_eq_true rfl) dX3_findNearest_174 (fun H locs hP hD hS => ?_)
          have hP : va_P D vwCl [(tm, .inr (4, [.ref tmA, .int (nI tn)])), (tmA, .inl (K, 41, .inl tf)), (re, .inr (3, [.ref rd, .int ((nrF dd ldi tie i).1), .ref rl, .int ((nrF dd ldi tie i).2.1), .int sm, .int 1, .int ff, .int ft]))] H := hP
          have hD : va_D A [(tm, .inr (4, [.ref tmA, .int (nI tn)])), (tmA, .inl (K, 41, .inl tf)), (re, .inr (3, [.ref rd, .int ((nrF dd ldi tie i).1), .ref rl, .int ((nrF dd ldi tie i).2.1), .int sm, .int 1, .int ff, .int ft]))] := hD
          obtain ⟨x_32, ex_32⟩ : ∃ z : Int32, z = (nI (4 * i)) + 4 := ⟨_, rfl⟩
          refine lv_iinc (v := x_32) (lv' := [(7, .int x_32), (8, .int (dd i)), (3, .int t0), (4, .int t1), (5, .int t2), (6, .int t3), (0, .ref re), (1, .ref tm), (2, .int x)]) hx hb dX3_findNearest_177 hl (k := 1) rfl (by rw [ex_32]; rfl) (by decide) rfl (fun ls hl => ?_)
          refine lv_goto (tgt := 55) hx hb dX3_findNearest_180 (by decide) ?_
          have he9 : x_32 = nI (4 * (i + 1)) := by rw [ex_32]; exact nI_add (4 * i) 4
          rw [he9] at hl
          have hg9 : ¬ dd i < ((nrF dd ldi tie i).2.1) := fun q9 => absurd q9 (Int32.not_lt.mpr c_26)
          have hn9 := nrF_eq (d := dd) (l0 := ldi) (q0 := tie) (i := i) c_21 hg9 c_27
          have hf_33 : (((nrF dd ldi tie i).1) : Int32) = ((nrF dd ldi tie (i + 1)).1) := by rw [hn9]
          have hP : va_P D vwCl [(tm, .inr (4, [.ref tmA, .int (nI tn)])), (tmA, .inl (K, 41, .inl tf)), (re, .inr (3, [.ref rd, .int ((nrF dd ldi tie (i + 1)).1), .ref rl, .int ((nrF dd ldi tie i).2.1), .int sm, .int 1, .int ff, .int ft]))] H := (congrArg (fun z9 : Int32 => va_P D vwCl [(tm, .inr (4, [.ref tmA, .int (nI tn)])), (tmA, .inl (K, 41, .inl tf)), (re, .inr (3, [.ref rd, .int z9, .ref rl, .int ((nrF dd ldi tie i).2.1), .int sm, .int 1, .int ff, .int ft]))] H) hf_33).mp hP
          have hD : va_D A [(tm, .inr (4, [.ref tmA, .int (nI tn)])), (tmA, .inl (K, 41, .inl tf)), (re, .inr (3, [.ref rd, .int ((nrF dd ldi tie (i + 1)).1), .ref rl, .int ((nrF dd ldi tie i).2.1), .int sm, .int 1, .int ff, .int ft]))] := (congrArg (fun z9 : Int32 => va_D A [(tm, .inr (4, [.ref tmA, .int (nI tn)])), (tmA, .inl (K, 41, .inl tf)), (re, .inr (3, [.ref rd, .int z9, .ref rl, .int ((nrF dd ldi tie i).2.1), .int sm, .int 1, .int ff, .int ft]))]) hf_33).mp hD
          have hf_34 : (((nrF dd ldi tie i).2.1) : Int32) = ((nrF dd ldi tie (i + 1)).2.1) := by rw [hn9]
          have hP : va_P D vwCl [(tm, .inr (4, [.ref tmA, .int (nI tn)])), (tmA, .inl (K, 41, .inl tf)), (re, .inr (3, [.ref rd, .int ((nrF dd ldi tie (i + 1)).1), .ref rl, .int ((nrF dd ldi tie (i + 1)).2.1), .int sm, .int 1, .int ff, .int ft]))] H := (congrArg (fun z9 : Int32 => va_P D vwCl [(tm, .inr (4, [.ref tmA, .int (nI tn)])), (tmA, .inl (K, 41, .inl tf)), (re, .inr (3, [.ref rd, .int ((nrF dd ldi tie (i + 1)).1), .ref rl, .int z9, .int sm, .int 1, .int ff, .int ft]))] H) hf_34).mp hP
          have hD : va_D A [(tm, .inr (4, [.ref tmA, .int (nI tn)])), (tmA, .inl (K, 41, .inl tf)), (re, .inr (3, [.ref rd, .int ((nrF dd ldi tie (i + 1)).1), .ref rl, .int ((nrF dd ldi tie (i + 1)).2.1), .int sm, .int 1, .int ff, .int ft]))] := (congrArg (fun z9 : Int32 => va_D A [(tm, .inr (4, [.ref tmA, .int (nI tn)])), (tmA, .inl (K, 41, .inl tf)), (re, .inr (3, [.ref rd, .int ((nrF dd ldi tie (i + 1)).1), .ref rl, .int z9, .int sm, .int 1, .int ff, .int ft]))]) hf_34).mp hD
          have hf_35 : (1 : Int32) = ((nrF dd ldi tie (i + 1)).2.2) := by rw [hn9]
          have hP : va_P D vwCl [(tm, .inr (4, [.ref tmA, .int (nI tn)])), (tmA, .inl (K, 41, .inl tf)), (re, .inr (3, [.ref rd, .int ((nrF dd ldi tie (i + 1)).1), .ref rl, .int ((nrF dd ldi tie (i + 1)).2.1), .int sm, .int ((nrF dd ldi tie (i + 1)).2.2), .int ff, .int ft]))] H := (congrArg (fun z9 : Int32 => va_P D vwCl [(tm, .inr (4, [.ref tmA, .int (nI tn)])), (tmA, .inl (K, 41, .inl tf)), (re, .inr (3, [.ref rd, .int ((nrF dd ldi tie (i + 1)).1), .ref rl, .int ((nrF dd ldi tie (i + 1)).2.1), .int sm, .int z9, .int ff, .int ft]))] H) hf_35).mp hP
          have hD : va_D A [(tm, .inr (4, [.ref tmA, .int (nI tn)])), (tmA, .inl (K, 41, .inl tf)), (re, .inr (3, [.ref rd, .int ((nrF dd ldi tie (i + 1)).1), .ref rl, .int ((nrF dd ldi tie (i + 1)).2.1), .int sm, .int ((nrF dd ldi tie (i + 1)).2.2), .int ff, .int ft]))] := (congrArg (fun z9 : Int32 => va_D A [(tm, .inr (4, [.ref tmA, .int (nI tn)])), (tmA, .inl (K, 41, .inl tf)), (re, .inr (3, [.ref rd, .int ((nrF dd ldi tie (i + 1)).1), .ref rl, .int ((nrF dd ldi tie (i + 1)).2.1), .int sm, .int z9, .int ff, .int ft]))]) hf_35).mp hD
          exact ih9 (i + 1) H locs ls (by omega) ⟨hik, hP.sub [2, 0, 1] rfl, hD.sub [2, 0, 1] (by decide) rfl, hS, lv_sub hl [0, 2, 3, 4, 5, 6, 7, 8] rfl⟩
      · have hc9 := c_26
        refine lv_aload_n hx hb dX3_findNearest_141 rfl (lv_at hl 6 rfl) ?_
        refine lv_iload hx hb dX3_findNearest_142 (lv_at hl 1 rfl) ?_
        refine lv_iconst (v := 4) hx hb dX3_findNearest_144 (by decide) ?_
        refine lv_idiv hx hb dX3_findNearest_145 (by decide) ?_
        refine k_nrm (y := (nI i)) (by rw [show (4 : Int32) = nI 4 from rfl, pk_div (by omega) (by omega) (by omega), Nat.mul_div_cancel_left i (by omega)]) ?_
        refine va_put (D := D) (ci := 3) (v := .int (nI i)) (ty := .int) (C := RX3) (T := TX3) (N := 8) hx hb ht inA_X3 tyX3 tyX3_ok nmX3 hown hK hP hD hS 2 rfl rfl 1 (by decide) (ht _ lf_X3_68) (fun _ h9 => h9) rfl (tyX3_ok 1 (by decide)) rfl rfl (Nat.le_of_ble_eq_true rfl) dX3_findNearest_146 (fun H locs hP hD hS => ?_)
        have hP : va_P D vwCl [(tm, .inr (4, [.ref tmA, .int (nI tn)])), (tmA, .inl (K, 41, .inl tf)), (re, .inr (3, [.ref rd, .int (nI i), .ref rl, .int ((nrF dd ldi tie i).2.1), .int sm, .int ((nrF dd ldi tie i).2.2), .int ff, .int ft]))] H := hP
        have hD : va_D A [(tm, .inr (4, [.ref tmA, .int (nI tn)])), (tmA, .inl (K, 41, .inl tf)), (re, .inr (3, [.ref rd, .int (nI i), .ref rl, .int ((nrF dd ldi tie i).2.1), .int sm, .int ((nrF dd ldi tie i).2.2), .int ff, .int ft]))] := hD
        refine lv_aload_n hx hb dX3_findNearest_149 rfl (lv_at hl 6 rfl) ?_
        refine lv_iload hx hb dX3_findNearest_150 (lv_at hl 0 rfl) ?_
        refine va_put (D := D) (ci := 3) (v := .int (dd i)) (ty := .int) (C := RX3) (T := TX3) (N := 8) hx hb ht inA_X3 tyX3 tyX3_ok nmX3 hown hK hP hD hS 2 rfl rfl 3 (by decide) (ht _ lf_X3_61) (fun _ h9 => h9) rfl (tyX3_ok 3 (by decide)) rfl rfl (Nat.le_of_ble_eq_true rfl) dX3_findNearest_152 (fun H locs hP hD hS => ?_)
        have hP : va_P D vwCl [(tm, .inr (4, [.ref tmA, .int (nI tn)])), (tmA, .inl (K, 41, .inl tf)), (re, .inr (3, [.ref rd, .int (nI i), .ref rl, .int (dd i), .int sm, .int ((nrF dd ldi tie i).2.2), .int ff, .int ft]))] H := hP
        have hD : va_D A [(tm, .inr (4, [.ref tmA, .int (nI tn)])), (tmA, .inl (K, 41, .inl tf)), (re, .inr (3, [.ref rd, .int (nI i), .ref rl, .int (dd i), .int sm, .int ((nrF dd ldi tie i).2.2), .int ff, .int ft]))] := hD
        refine lv_aload_n hx hb dX3_findNearest_155 rfl (lv_at hl 6 rfl) ?_
        refine lv_iconst (v := 0) hx hb dX3_findNearest_156 (by decide) ?_
        refine va_put (D := D) (ci := 3) (v := .int 0) (ty := .boolean) (C := RX3) (T := TX3) (N := 8) hx hb ht inA_X3 tyX3 tyX3_ok nmX3 hown hK hP hD hS 2 rfl rfl 5 (by decide) (ht _ lf_X3_57) (fun _ h9 => h9) rfl (tyX3_ok 5 (by decide)) rfl rfl (Nat.le_of_ble_eq_true rfl) dX3_findNearest_157 (fun H locs hP hD hS => ?_)
        have hP : va_P D vwCl [(tm, .inr (4, [.ref tmA, .int (nI tn)])), (tmA, .inl (K, 41, .inl tf)), (re, .inr (3, [.ref rd, .int (nI i), .ref rl, .int (dd i), .int sm, .int 0, .int ff, .int ft]))] H := hP
        have hD : va_D A [(tm, .inr (4, [.ref tmA, .int (nI tn)])), (tmA, .inl (K, 41, .inl tf)), (re, .inr (3, [.ref rd, .int (nI i), .ref rl, .int (dd i), .int sm, .int 0, .int ff, .int ft]))] := hD
        refine lv_goto (tgt := 177) hx hb dX3_findNearest_160 (by decide) ?_
        obtain ⟨x_36, ex_36⟩ : ∃ z : Int32, z = (nI (4 * i)) + 4 := ⟨_, rfl⟩
        refine lv_iinc (v := x_36) (lv' := [(7, .int x_36), (8, .int (dd i)), (3, .int t0), (4, .int t1), (5, .int t2), (6, .int t3), (0, .ref re), (1, .ref tm), (2, .int x)]) hx hb dX3_findNearest_177 hl (k := 1) rfl (by rw [ex_36]; rfl) (by decide) rfl (fun ls hl => ?_)
        refine lv_goto (tgt := 55) hx hb dX3_findNearest_180 (by decide) ?_
        have he9 : x_36 = nI (4 * (i + 1)) := by rw [ex_36]; exact nI_add (4 * i) 4
        rw [he9] at hl
        have hn9 := nrF_lt (d := dd) (l0 := ldi) (q0 := tie) (i := i) (Or.inr (fa_of_nle c_26))
        have hf_37 : ((nI i) : Int32) = ((nrF dd ldi tie (i + 1)).1) := by rw [hn9]
        have hP : va_P D vwCl [(tm, .inr (4, [.ref tmA, .int (nI tn)])), (tmA, .inl (K, 41, .inl tf)), (re, .inr (3, [.ref rd, .int ((nrF dd ldi tie (i + 1)).1), .ref rl, .int (dd i), .int sm, .int 0, .int ff, .int ft]))] H := (congrArg (fun z9 : Int32 => va_P D vwCl [(tm, .inr (4, [.ref tmA, .int (nI tn)])), (tmA, .inl (K, 41, .inl tf)), (re, .inr (3, [.ref rd, .int z9, .ref rl, .int (dd i), .int sm, .int 0, .int ff, .int ft]))] H) hf_37).mp hP
        have hD : va_D A [(tm, .inr (4, [.ref tmA, .int (nI tn)])), (tmA, .inl (K, 41, .inl tf)), (re, .inr (3, [.ref rd, .int ((nrF dd ldi tie (i + 1)).1), .ref rl, .int (dd i), .int sm, .int 0, .int ff, .int ft]))] := (congrArg (fun z9 : Int32 => va_D A [(tm, .inr (4, [.ref tmA, .int (nI tn)])), (tmA, .inl (K, 41, .inl tf)), (re, .inr (3, [.ref rd, .int z9, .ref rl, .int (dd i), .int sm, .int 0, .int ff, .int ft]))]) hf_37).mp hD
        have hf_38 : ((dd i) : Int32) = ((nrF dd ldi tie (i + 1)).2.1) := by rw [hn9]
        have hP : va_P D vwCl [(tm, .inr (4, [.ref tmA, .int (nI tn)])), (tmA, .inl (K, 41, .inl tf)), (re, .inr (3, [.ref rd, .int ((nrF dd ldi tie (i + 1)).1), .ref rl, .int ((nrF dd ldi tie (i + 1)).2.1), .int sm, .int 0, .int ff, .int ft]))] H := (congrArg (fun z9 : Int32 => va_P D vwCl [(tm, .inr (4, [.ref tmA, .int (nI tn)])), (tmA, .inl (K, 41, .inl tf)), (re, .inr (3, [.ref rd, .int ((nrF dd ldi tie (i + 1)).1), .ref rl, .int z9, .int sm, .int 0, .int ff, .int ft]))] H) hf_38).mp hP
        have hD : va_D A [(tm, .inr (4, [.ref tmA, .int (nI tn)])), (tmA, .inl (K, 41, .inl tf)), (re, .inr (3, [.ref rd, .int ((nrF dd ldi tie (i + 1)).1), .ref rl, .int ((nrF dd ldi tie (i + 1)).2.1), .int sm, .int 0, .int ff, .int ft]))] := (congrArg (fun z9 : Int32 => va_D A [(tm, .inr (4, [.ref tmA, .int (nI tn)])), (tmA, .inl (K, 41, .inl tf)), (re, .inr (3, [.ref rd, .int ((nrF dd ldi tie (i + 1)).1), .ref rl, .int z9, .int sm, .int 0, .int ff, .int ft]))]) hf_38).mp hD
        have hf_39 : (0 : Int32) = ((nrF dd ldi tie (i + 1)).2.2) := by rw [hn9]
        have hP : va_P D vwCl [(tm, .inr (4, [.ref tmA, .int (nI tn)])), (tmA, .inl (K, 41, .inl tf)), (re, .inr (3, [.ref rd, .int ((nrF dd ldi tie (i + 1)).1), .ref rl, .int ((nrF dd ldi tie (i + 1)).2.1), .int sm, .int ((nrF dd ldi tie (i + 1)).2.2), .int ff, .int ft]))] H := (congrArg (fun z9 : Int32 => va_P D vwCl [(tm, .inr (4, [.ref tmA, .int (nI tn)])), (tmA, .inl (K, 41, .inl tf)), (re, .inr (3, [.ref rd, .int ((nrF dd ldi tie (i + 1)).1), .ref rl, .int ((nrF dd ldi tie (i + 1)).2.1), .int sm, .int z9, .int ff, .int ft]))] H) hf_39).mp hP
        have hD : va_D A [(tm, .inr (4, [.ref tmA, .int (nI tn)])), (tmA, .inl (K, 41, .inl tf)), (re, .inr (3, [.ref rd, .int ((nrF dd ldi tie (i + 1)).1), .ref rl, .int ((nrF dd ldi tie (i + 1)).2.1), .int sm, .int ((nrF dd ldi tie (i + 1)).2.2), .int ff, .int ft]))] := (congrArg (fun z9 : Int32 => va_D A [(tm, .inr (4, [.ref tmA, .int (nI tn)])), (tmA, .inl (K, 41, .inl tf)), (re, .inr (3, [.ref rd, .int ((nrF dd ldi tie (i + 1)).1), .ref rl, .int ((nrF dd ldi tie (i + 1)).2.1), .int sm, .int z9, .int ff, .int ft]))]) hf_39).mp hD
        exact ih9 (i + 1) H locs ls (by omega) ⟨hik, hP.sub [2, 0, 1] rfl, hD.sub [2, 0, 1] (by decide) rfl, hS, lv_sub hl [0, 2, 3, 4, 5, 6, 7, 8] rfl⟩
