set_option maxRecDepth 20000 in
theorem lc_L_13 : Cond.classLink RL 13 "java/lang/IllegalArgumentException" ∈ wsA := mA 573 rfl rfl
set_option maxRecDepth 20000 in
theorem lc_L_18 : Cond.classLink RL 18 "java/lang/IndexOutOfBoundsException" ∈ wsA := mA 611 rfl rfl
set_option maxRecDepth 20000 in
theorem lc_L_31 : Cond.classLink RL 31 "java/lang/IllegalStateException" ∈ wsA := mA 635 rfl rfl
set_option maxHeartbeats 4000000 in
set_option maxRecDepth 100000 in
theorem c_L_printX (l : Launch) (hst : l.stackTraces = false) (D : va_G) (a : Nat → Nat) (K : ClassId) (KS : ClassId) (st : ST) (hs : HT) (sc : SCT) (d : Int32) (z : Int32) (out : Nat) (KL : ClassId) (ofn : Nat → Int64) (hok : ¬ pOk d z) (sz : Nat) : k_Wi (S := Unit) l D yL_print cL_print 5 (some .int) [(0, 10, 13, 13)] 7 1 6 104 [.ref (a 0), .int d, .int z, .ref out] ((out, .inl (KL, 1, .inr (.inl ofn))) :: (WW a K KS st hs sc)) [(K, .int), (KS, .object "BarcodeWand$State"), (KL, .long)] (fun (r : Int32) (_ : Unit) => r = (1)) (fun _ => ((out, .inl (KL, 1, .inr (.inl ofn))) :: (WW a K KS st hs sc))) (fun _ => []) sz := by
  refine va_MetW (cc := cL_print) (maxL := 5) (ret := (some .int)) (hh := [(0, 10, 13, 13)]) (by decide) rfl ?_
  intro p e s m args below meth c s₁ B hml hv
  obtain ⟨rfl, hsz, hP, hK, hD0, hG⟩ := hv
  have hx := B.exec
  have hb := B.bytes
  have hr := B.returns
  have ht : ∀ v9 ∈ wsA, v9.before ([.ref (a 0), .int d, .int z, .ref out] : List Value).toArray s = true := fun v9 h9 => atoms_spec (ws := Cond.codeWith yL_print cL_print 5 (some .int) [(0, 10, 13, 13)] :: wsA) B.pre v9 (List.mem_cons_of_mem _ h9)
  have htab : c.exceptionTable.toList = tableOf [(0, 10, 13, 13)] := vx_table (x := yL_print) B (atoms_spec (ws := Cond.codeWith yL_print cL_print 5 (some .int) [(0, 10, 13, 13)] :: wsA) B.pre _ List.mem_cons_self)
  have hown : s.vm.findClass RL = some m.cls := findClass_of_methodNamed B.named
  have S0 : k_C p s m ([.ref (a 0), .int d, .int z, .ref out] : List Value).toArray c cL_print 5 RL := ⟨hx, hb, hml, hown, ht⟩
  have hlocks := B.notSynchronized
  subst hsz
  have hD := hD0.self (sz := s.heap.size)
  generalize hAe : va_A ((out, .inl (KL, 1, .inr (.inl ofn))) :: (WW a K KS st hs sc)) s.heap.size = A at hD hG ⊢
  have hA : ∀ q : Nat, s.heap.size ≤ q → A q := fun q h => by rw [← hAe]; exact Or.inr h
  have hS : va_S A s.heap s.heap [] := va_S.rf
  have hl := lv_entry ([.ref (a 0), .int d, .int z, .ref out]) (n := 5) (Nat.le_of_ble_eq_true rfl)
  rw [lg_entry_eq]
  generalize (lg_sl ([.ref (a 0), .int d, .int z, .ref out]) ++ List.replicate (5 - (lg_sl ([.ref (a 0), .int d, .int z, .ref out])).length) Slot.unset).toArray = ls at hl ⊢
  have hl : lv_has ls 5 [(0, .ref (a 0)), (1, .int d), (2, .int z), (3, .ref out)] := hl
  have hP : va_P D vwCl ((out, .inl (KL, 1, .inr (.inl ofn))) :: (WW a K KS st hs sc)) s.heap := hP
  refine lv_aload_n hx hb dL_print_0 rfl (lv_at hl 3 rfl) ?_
  refine lv_iconst (v := 0) hx hb dL_print_1 (by decide) ?_
  refine lv_aload_n hx hb dL_print_2 rfl (lv_at hl 0 rfl) ?_
  refine lv_iload_n hx hb dL_print_3 rfl (lv_at hl 1 rfl) ?_
  refine lv_iload_n hx hb dL_print_4 rfl (lv_at hl 2 rfl) ?_
  have ct := k_cut_TT (wp := [(out, .inl (KL, 1, .inr (.inl ofn)))]) (T := (WW a K KS st hs sc)) (wc := []) (wr := [(out, .inl (KL, 1, .inr (.inl ofn)))]) (tc := [(K, .int), (KS, .object "BarcodeWand$State")]) hG hS hA hK hP hD [] [0] [0, 1] rfl rfl (by decide) (by decide) (by decide) rfl
  refine k_endXi (EX := fun E => E = "java/lang/IllegalArgumentException") (As := [.ref (a 0), .int d, .int z]) ct (k_xrunV (As := [.int d, .int z]) (rest := [.int 0, .ref out]) S0 Lv_L_7 rfl (ci := 7) (q0 := 0) rfl (WW_0 a K KS st hs sc) ct (c_B_printX l hst D a K KS st hs sc d z (by assumption) s.heap.size) hl.1 rfl (Nat.le_of_ble_eq_true rfl) rfl dL_print_5 ⟨⟨Nat.le_of_ble_eq_true rfl, Nat.le_of_ble_eq_true rfl⟩, Nat.le_of_ble_eq_true rfl, Nat.le_of_ble_eq_true rfl⟩) rfl rfl ?_ (fun r_1 _ H locs hw_2 hP hD hK hS => ?_)
  · intro E ce q9 H locs hE hP hD hS hq9 hv9 hcl9
    try dsimp only at hE
    have hP : va_P D vwCl ((out, .inl (KL, 1, .inr (.inl ofn))) :: (WW a K KS st hs sc)) H := hP
    have hD : va_D A ((out, .inl (KL, 1, .inr (.inl ofn))) :: (WW a K KS st hs sc)) := hD
    subst hE
    refine vx_catch hown [] ⟨0, 10, 13, 13⟩ [] (by rw [htab]; rfl) (fun z9 h9 => absurd h9 List.not_mem_nil) (by decide) (by decide) (ht _ lc_L_13) (va_Nw.use rfl (hG.1 _ (List.mem_of_getElem? (i := 580) rfl) rfl)) hq9 hv9 hcl9 ?_
    refine lv_astore (lv' := [(4, .ref q9), (0, .ref (a 0)), (1, .int d), (2, .int z), (3, .ref out)]) hx hb dL_print_13 hl (by decide) rfl (fun ls hl => ?_)
    refine lv_iconst (v := 1) hx hb dL_print_15 (by decide) ?_
    have hP9 : va_P D vwCl ((out, .inl (KL, 1, .inr (.inl ofn))) :: (WW a K KS st hs sc)) H := k_subP (wp := [(out, .inl (KL, 1, .inr (.inl ofn)))]) (wp' := [(out, .inl (KL, 1, .inr (.inl ofn)))]) (T := (WW a K KS st hs sc)) hP [0] rfl
    have hD9 : va_D A ((out, .inl (KL, 1, .inr (.inl ofn))) :: (WW a K KS st hs sc)) := k_subD (wp := [(out, .inl (KL, 1, .inr (.inl ofn)))]) (wp' := [(out, .inl (KL, 1, .inr (.inl ofn)))]) (T := (WW a K KS st hs sc)) hD [0] (by decide) rfl
    have hP9 : va_P D vwCl ((out, .inl (KL, 1, .inr (.inl ofn))) :: (WW a K KS st hs sc)) H := hP9
    have hD9 : va_D A ((out, .inl (KL, 1, .inr (.inl ofn))) :: (WW a K KS st hs sc)) := hD9
    have hK9 : va_K D vwCl [] s := hK.sub [] rfl
    exact W.iret (v := 1) hx hb hr (fun t ht9 hW9 => ⟨⟨1, (), rfl, by first | rfl | trivial | (simp only [if_true, if_false, reduceIte, and_self]; done) | simp_all, ⟨by rw [ht9]; exact hP9, va_K.moved hW9.alike hK9, hD9⟩⟩, hS.F ht9⟩) hS.2.2 dL_print_16
  have hK : va_K D vwCl [(K, .int), (KS, .object "BarcodeWand$State"), (KL, .long)] s := hK
  have hP : va_P D vwCl ((out, .inl (KL, 1, .inr (.inl ofn))) :: (WW a K KS st hs sc)) H := hP
  have hD : va_D A ((out, .inl (KL, 1, .inr (.inl ofn))) :: (WW a K KS st hs sc)) := hD
  exact hw_2.elim
set_option maxHeartbeats 4000000 in
set_option maxRecDepth 100000 in
theorem c_L_smudgeX1 (l : Launch) (hst : l.stackTraces = false) (D : va_G) (a : Nat → Nat) (K : ClassId) (KS : ClassId) (st : ST) (hs : HT) (sc : SCT) (v : Int32) (t9 : Int32) (out : Nat) (KL : ClassId) (ofn : Nat → Int64) (hxi : inR v (nI (s_ns st)) = 0) (sz : Nat) : k_Wi (S := Unit) l D yL_smudge cL_smudge 5 (some .int) [(0, 10, 13, 18), (0, 10, 17, 13)] 8 1 6 126 [.ref (a 0), .int v, .int t9, .ref out] ((out, .inl (KL, 1, .inr (.inl ofn))) :: (WW a K KS st hs sc)) [(K, .int), (KS, .object "BarcodeWand$State"), (KL, .long)] (fun (r : Int32) (_ : Unit) => r = (1)) (fun _ => ((out, .inl (KL, 1, .inr (.inl ofn))) :: (WW a K KS st hs sc))) (fun _ => []) sz := by
  refine va_MetW (cc := cL_smudge) (maxL := 5) (ret := (some .int)) (hh := [(0, 10, 13, 18), (0, 10, 17, 13)]) (by decide) rfl ?_
  intro p e s m args below meth c s₁ B hml hv
  obtain ⟨rfl, hsz, hP, hK, hD0, hG⟩ := hv
  have hx := B.exec
  have hb := B.bytes
  have hr := B.returns
  have ht : ∀ v9 ∈ wsA, v9.before ([.ref (a 0), .int v, .int t9, .ref out] : List Value).toArray s = true := fun v9 h9 => atoms_spec (ws := Cond.codeWith yL_smudge cL_smudge 5 (some .int) [(0, 10, 13, 18), (0, 10, 17, 13)] :: wsA) B.pre v9 (List.mem_cons_of_mem _ h9)
  have htab : c.exceptionTable.toList = tableOf [(0, 10, 13, 18), (0, 10, 17, 13)] := vx_table (x := yL_smudge) B (atoms_spec (ws := Cond.codeWith yL_smudge cL_smudge 5 (some .int) [(0, 10, 13, 18), (0, 10, 17, 13)] :: wsA) B.pre _ List.mem_cons_self)
  have hown : s.vm.findClass RL = some m.cls := findClass_of_methodNamed B.named
  have S0 : k_C p s m ([.ref (a 0), .int v, .int t9, .ref out] : List Value).toArray c cL_smudge 5 RL := ⟨hx, hb, hml, hown, ht⟩
  have hlocks := B.notSynchronized
  subst hsz
  have hD := hD0.self (sz := s.heap.size)
  generalize hAe : va_A ((out, .inl (KL, 1, .inr (.inl ofn))) :: (WW a K KS st hs sc)) s.heap.size = A at hD hG ⊢
  have hA : ∀ q : Nat, s.heap.size ≤ q → A q := fun q h => by rw [← hAe]; exact Or.inr h
  have hS : va_S A s.heap s.heap [] := va_S.rf
  have hl := lv_entry ([.ref (a 0), .int v, .int t9, .ref out]) (n := 5) (Nat.le_of_ble_eq_true rfl)
  rw [lg_entry_eq]
  generalize (lg_sl ([.ref (a 0), .int v, .int t9, .ref out]) ++ List.replicate (5 - (lg_sl ([.ref (a 0), .int v, .int t9, .ref out])).length) Slot.unset).toArray = ls at hl ⊢
  have hl : lv_has ls 5 [(0, .ref (a 0)), (1, .int v), (2, .int t9), (3, .ref out)] := hl
  have hP : va_P D vwCl ((out, .inl (KL, 1, .inr (.inl ofn))) :: (WW a K KS st hs sc)) s.heap := hP
  refine lv_aload_n hx hb dL_smudge_0 rfl (lv_at hl 3 rfl) ?_
  refine lv_iconst (v := 0) hx hb dL_smudge_1 (by decide) ?_
  refine lv_aload_n hx hb dL_smudge_2 rfl (lv_at hl 0 rfl) ?_
  refine lv_iload_n hx hb dL_smudge_3 rfl (lv_at hl 1 rfl) ?_
  refine lv_iload_n hx hb dL_smudge_4 rfl (lv_at hl 2 rfl) ?_
  have ct := k_cut_TT (wp := [(out, .inl (KL, 1, .inr (.inl ofn)))]) (T := (WW a K KS st hs sc)) (wc := []) (wr := [(out, .inl (KL, 1, .inr (.inl ofn)))]) (tc := [(K, .int), (KS, .object "BarcodeWand$State")]) hG hS hA hK hP hD [] [0] [0, 1] rfl rfl (by decide) (by decide) (by decide) rfl
  refine k_endXi (EX := fun E => E = "java/lang/IndexOutOfBoundsException") (As := [.ref (a 0), .int v, .int t9]) ct (k_xrunV (As := [.int v, .int t9]) (rest := [.int 0, .ref out]) S0 Lv_L_15 rfl (ci := 7) (q0 := 0) rfl (WW_0 a K KS st hs sc) ct (c_B_smudgeX1 l hst D a K KS st hs sc v t9 (by assumption) s.heap.size) hl.1 rfl (Nat.le_of_ble_eq_true rfl) rfl dL_smudge_5 ⟨⟨Nat.le_of_ble_eq_true rfl, Nat.le_of_ble_eq_true rfl⟩, Nat.le_of_ble_eq_true rfl, Nat.le_of_ble_eq_true rfl⟩) rfl rfl ?_ (fun r_1 _ H locs hw_2 hP hD hK hS => ?_)
  · intro E ce q9 H locs hE hP hD hS hq9 hv9 hcl9
    try dsimp only at hE
    have hP : va_P D vwCl ((out, .inl (KL, 1, .inr (.inl ofn))) :: (WW a K KS st hs sc)) H := hP
    have hD : va_D A ((out, .inl (KL, 1, .inr (.inl ofn))) :: (WW a K KS st hs sc)) := hD
    subst hE
    refine vx_catch hown [] ⟨0, 10, 13, 18⟩ [⟨0, 10, 17, 13⟩] (by rw [htab]; rfl) (fun z9 h9 => absurd h9 List.not_mem_nil) (by decide) (by decide) (ht _ lc_L_18) (va_Nw.use rfl (hG.1 _ (List.mem_of_getElem? (i := 486) rfl) rfl)) hq9 hv9 hcl9 ?_
    refine lv_astore (lv' := [(4, .ref q9), (0, .ref (a 0)), (1, .int v), (2, .int t9), (3, .ref out)]) hx hb dL_smudge_13 hl (by decide) rfl (fun ls hl => ?_)
    refine lv_iconst (v := 1) hx hb dL_smudge_15 (by decide) ?_
    have hP9 : va_P D vwCl ((out, .inl (KL, 1, .inr (.inl ofn))) :: (WW a K KS st hs sc)) H := k_subP (wp := [(out, .inl (KL, 1, .inr (.inl ofn)))]) (wp' := [(out, .inl (KL, 1, .inr (.inl ofn)))]) (T := (WW a K KS st hs sc)) hP [0] rfl
    have hD9 : va_D A ((out, .inl (KL, 1, .inr (.inl ofn))) :: (WW a K KS st hs sc)) := k_subD (wp := [(out, .inl (KL, 1, .inr (.inl ofn)))]) (wp' := [(out, .inl (KL, 1, .inr (.inl ofn)))]) (T := (WW a K KS st hs sc)) hD [0] (by decide) rfl
    have hP9 : va_P D vwCl ((out, .inl (KL, 1, .inr (.inl ofn))) :: (WW a K KS st hs sc)) H := hP9
    have hD9 : va_D A ((out, .inl (KL, 1, .inr (.inl ofn))) :: (WW a K KS st hs sc)) := hD9
    have hK9 : va_K D vwCl [] s := hK.sub [] rfl
    exact W.iret (v := 1) hx hb hr (fun t ht9 hW9 => ⟨⟨1, (), rfl, by first | rfl | trivial | (simp only [if_true, if_false, reduceIte, and_self]; done) | simp_all, ⟨by rw [ht9]; exact hP9, va_K.moved hW9.alike hK9, hD9⟩⟩, hS.F ht9⟩) hS.2.2 dL_smudge_16
  have hK : va_K D vwCl [(K, .int), (KS, .object "BarcodeWand$State"), (KL, .long)] s := hK
  have hP : va_P D vwCl ((out, .inl (KL, 1, .inr (.inl ofn))) :: (WW a K KS st hs sc)) H := hP
  have hD : va_D A ((out, .inl (KL, 1, .inr (.inl ofn))) :: (WW a K KS st hs sc)) := hD
  exact hw_2.elim
set_option maxHeartbeats 4000000 in
set_option maxRecDepth 100000 in
theorem c_L_smudgeX2 (l : Launch) (hst : l.stackTraces = false) (D : va_G) (a : Nat → Nat) (K : ClassId) (KS : ClassId) (st : ST) (hs : HT) (sc : SCT) (en : Nat) (t9 : Int32) (out : Nat) (KL : ClassId) (ofn : Nat → Int64) (hbst : bST st) (hen : en < s_ns st) (hx9 : ¬ (¬ t9 < (-9) ∧ t9 ≤ 9)) (sz : Nat) : k_Wi (S := Unit) l D yL_smudge cL_smudge 5 (some .int) [(0, 10, 13, 18), (0, 10, 17, 13)] 7 1 6 105 [.ref (a 0), .int (nI en), .int t9, .ref out] ((out, .inl (KL, 1, .inr (.inl ofn))) :: (WW a K KS st hs sc)) [(K, .int), (KS, .object "BarcodeWand$State"), (KL, .long)] (fun (r : Int32) (_ : Unit) => r = (2)) (fun _ => ((out, .inl (KL, 1, .inr (.inl ofn))) :: (WW a K KS st hs sc))) (fun _ => []) sz := by
  refine va_MetW (cc := cL_smudge) (maxL := 5) (ret := (some .int)) (hh := [(0, 10, 13, 18), (0, 10, 17, 13)]) (by decide) rfl ?_
  intro p e s m args below meth c s₁ B hml hv
  obtain ⟨rfl, hsz, hP, hK, hD0, hG⟩ := hv
  have hx := B.exec
  have hb := B.bytes
  have hr := B.returns
  have ht : ∀ v9 ∈ wsA, v9.before ([.ref (a 0), .int (nI en), .int t9, .ref out] : List Value).toArray s = true := fun v9 h9 => atoms_spec (ws := Cond.codeWith yL_smudge cL_smudge 5 (some .int) [(0, 10, 13, 18), (0, 10, 17, 13)] :: wsA) B.pre v9 (List.mem_cons_of_mem _ h9)
  have htab : c.exceptionTable.toList = tableOf [(0, 10, 13, 18), (0, 10, 17, 13)] := vx_table (x := yL_smudge) B (atoms_spec (ws := Cond.codeWith yL_smudge cL_smudge 5 (some .int) [(0, 10, 13, 18), (0, 10, 17, 13)] :: wsA) B.pre _ List.mem_cons_self)
  have hown : s.vm.findClass RL = some m.cls := findClass_of_methodNamed B.named
  have S0 : k_C p s m ([.ref (a 0), .int (nI en), .int t9, .ref out] : List Value).toArray c cL_smudge 5 RL := ⟨hx, hb, hml, hown, ht⟩
  have hlocks := B.notSynchronized
  subst hsz
  have hD := hD0.self (sz := s.heap.size)
  generalize hAe : va_A ((out, .inl (KL, 1, .inr (.inl ofn))) :: (WW a K KS st hs sc)) s.heap.size = A at hD hG ⊢
  have hA : ∀ q : Nat, s.heap.size ≤ q → A q := fun q h => by rw [← hAe]; exact Or.inr h
  have hS : va_S A s.heap s.heap [] := va_S.rf
  have hl := lv_entry ([.ref (a 0), .int (nI en), .int t9, .ref out]) (n := 5) (Nat.le_of_ble_eq_true rfl)
  rw [lg_entry_eq]
  generalize (lg_sl ([.ref (a 0), .int (nI en), .int t9, .ref out]) ++ List.replicate (5 - (lg_sl ([.ref (a 0), .int (nI en), .int t9, .ref out])).length) Slot.unset).toArray = ls at hl ⊢
  have hl : lv_has ls 5 [(0, .ref (a 0)), (1, .int (nI en)), (2, .int t9), (3, .ref out)] := hl
  have hP : va_P D vwCl ((out, .inl (KL, 1, .inr (.inl ofn))) :: (WW a K KS st hs sc)) s.heap := hP
  refine lv_aload_n hx hb dL_smudge_0 rfl (lv_at hl 3 rfl) ?_
  refine lv_iconst (v := 0) hx hb dL_smudge_1 (by decide) ?_
  refine lv_aload_n hx hb dL_smudge_2 rfl (lv_at hl 0 rfl) ?_
  refine lv_iload_n hx hb dL_smudge_3 rfl (lv_at hl 1 rfl) ?_
  refine lv_iload_n hx hb dL_smudge_4 rfl (lv_at hl 2 rfl) ?_
  have ct := k_cut_TT (wp := [(out, .inl (KL, 1, .inr (.inl ofn)))]) (T := (WW a K KS st hs sc)) (wc := []) (wr := [(out, .inl (KL, 1, .inr (.inl ofn)))]) (tc := [(K, .int), (KS, .object "BarcodeWand$State")]) hG hS hA hK hP hD [] [0] [0, 1] rfl rfl (by decide) (by decide) (by decide) rfl
  refine k_endXi (EX := fun E => E = "java/lang/IllegalArgumentException") (As := [.ref (a 0), .int (nI en), .int t9]) ct (k_xrunV (As := [.int (nI en), .int t9]) (rest := [.int 0, .ref out]) S0 Lv_L_15 rfl (ci := 7) (q0 := 0) rfl (WW_0 a K KS st hs sc) ct (c_B_smudgeX2 l hst D a K KS st hs sc en t9 (by assumption) (by assumption) (by assumption) s.heap.size) hl.1 rfl (Nat.le_of_ble_eq_true rfl) rfl dL_smudge_5 ⟨⟨Nat.le_of_ble_eq_true rfl, Nat.le_of_ble_eq_true rfl⟩, Nat.le_of_ble_eq_true rfl, Nat.le_of_ble_eq_true rfl⟩) rfl rfl ?_ (fun r_1 _ H locs hw_2 hP hD hK hS => ?_)
  · intro E ce q9 H locs hE hP hD hS hq9 hv9 hcl9
    try dsimp only at hE
    have hP : va_P D vwCl ((out, .inl (KL, 1, .inr (.inl ofn))) :: (WW a K KS st hs sc)) H := hP
    have hD : va_D A ((out, .inl (KL, 1, .inr (.inl ofn))) :: (WW a K KS st hs sc)) := hD
    subst hE
    refine vx_catch hown [⟨0, 10, 13, 18⟩] ⟨0, 10, 17, 13⟩ [] (by rw [htab]; rfl) (fun z9 h9 => by rcases List.mem_singleton.mp h9 with rfl; exact Or.inr ⟨by decide, "java/lang/IndexOutOfBoundsException", ht _ lc_L_18, hG.2.2.2.2.1.2⟩) (by decide) (by decide) (ht _ lc_L_13) (va_Nw.use rfl (hG.1 _ (List.mem_of_getElem? (i := 580) rfl) rfl)) hq9 hv9 hcl9 ?_
    refine lv_astore (lv' := [(4, .ref q9), (0, .ref (a 0)), (1, .int (nI en)), (2, .int t9), (3, .ref out)]) hx hb dL_smudge_17 hl (by decide) rfl (fun ls hl => ?_)
    refine lv_iconst (v := 2) hx hb dL_smudge_19 (by decide) ?_
    have hP9 : va_P D vwCl ((out, .inl (KL, 1, .inr (.inl ofn))) :: (WW a K KS st hs sc)) H := k_subP (wp := [(out, .inl (KL, 1, .inr (.inl ofn)))]) (wp' := [(out, .inl (KL, 1, .inr (.inl ofn)))]) (T := (WW a K KS st hs sc)) hP [0] rfl
    have hD9 : va_D A ((out, .inl (KL, 1, .inr (.inl ofn))) :: (WW a K KS st hs sc)) := k_subD (wp := [(out, .inl (KL, 1, .inr (.inl ofn)))]) (wp' := [(out, .inl (KL, 1, .inr (.inl ofn)))]) (T := (WW a K KS st hs sc)) hD [0] (by decide) rfl
    have hP9 : va_P D vwCl ((out, .inl (KL, 1, .inr (.inl ofn))) :: (WW a K KS st hs sc)) H := hP9
    have hD9 : va_D A ((out, .inl (KL, 1, .inr (.inl ofn))) :: (WW a K KS st hs sc)) := hD9
    have hK9 : va_K D vwCl [] s := hK.sub [] rfl
    exact W.iret (v := 2) hx hb hr (fun t ht9 hW9 => ⟨⟨2, (), rfl, by first | rfl | trivial | (simp only [if_true, if_false, reduceIte, and_self]; done) | simp_all, ⟨by rw [ht9]; exact hP9, va_K.moved hW9.alike hK9, hD9⟩⟩, hS.F ht9⟩) hS.2.2 dL_smudge_20
  have hK : va_K D vwCl [(K, .int), (KS, .object "BarcodeWand$State"), (KL, .long)] s := hK
  have hP : va_P D vwCl ((out, .inl (KL, 1, .inr (.inl ofn))) :: (WW a K KS st hs sc)) H := hP
  have hD : va_D A ((out, .inl (KL, 1, .inr (.inl ofn))) :: (WW a K KS st hs sc)) := hD
  exact hw_2.elim
set_option maxHeartbeats 4000000 in
set_option maxRecDepth 100000 in
theorem c_L_widthX (l : Launch) (hst : l.stackTraces = false) (D : va_G) (a : Nat → Nat) (K : ClassId) (KS : ClassId) (st : ST) (hs : HT) (sc : SCT) (x : Int32) (out : Nat) (KL : ClassId) (ofn : Nat → Int64) (hxi : inR x (nI (s_ns st)) = 0) (sz : Nat) : k_Wi (S := Unit) l D yL_width cL_width 4 (some .int) [(0, 9, 12, 18)] 8 1 6 124 [.ref (a 0), .int x, .ref out] ((out, .inl (KL, 1, .inr (.inl ofn))) :: (WW a K KS st hs sc)) [(K, .int), (KS, .object "BarcodeWand$State"), (KL, .long)] (fun (r : Int32) (_ : Unit) => r = (1)) (fun _ => ((out, .inl (KL, 1, .inr (.inl ofn))) :: (WW a K KS st hs sc))) (fun _ => []) sz := by
  refine va_MetW (cc := cL_width) (maxL := 4) (ret := (some .int)) (hh := [(0, 9, 12, 18)]) (by decide) rfl ?_
  intro p e s m args below meth c s₁ B hml hv
  obtain ⟨rfl, hsz, hP, hK, hD0, hG⟩ := hv
  have hx := B.exec
  have hb := B.bytes
  have hr := B.returns
  have ht : ∀ v9 ∈ wsA, v9.before ([.ref (a 0), .int x, .ref out] : List Value).toArray s = true := fun v9 h9 => atoms_spec (ws := Cond.codeWith yL_width cL_width 4 (some .int) [(0, 9, 12, 18)] :: wsA) B.pre v9 (List.mem_cons_of_mem _ h9)
  have htab : c.exceptionTable.toList = tableOf [(0, 9, 12, 18)] := vx_table (x := yL_width) B (atoms_spec (ws := Cond.codeWith yL_width cL_width 4 (some .int) [(0, 9, 12, 18)] :: wsA) B.pre _ List.mem_cons_self)
  have hown : s.vm.findClass RL = some m.cls := findClass_of_methodNamed B.named
  have S0 : k_C p s m ([.ref (a 0), .int x, .ref out] : List Value).toArray c cL_width 4 RL := ⟨hx, hb, hml, hown, ht⟩
  have hlocks := B.notSynchronized
  subst hsz
  have hD := hD0.self (sz := s.heap.size)
  generalize hAe : va_A ((out, .inl (KL, 1, .inr (.inl ofn))) :: (WW a K KS st hs sc)) s.heap.size = A at hD hG ⊢
  have hA : ∀ q : Nat, s.heap.size ≤ q → A q := fun q h => by rw [← hAe]; exact Or.inr h
  have hS : va_S A s.heap s.heap [] := va_S.rf
  have hl := lv_entry ([.ref (a 0), .int x, .ref out]) (n := 4) (Nat.le_of_ble_eq_true rfl)
  rw [lg_entry_eq]
  generalize (lg_sl ([.ref (a 0), .int x, .ref out]) ++ List.replicate (4 - (lg_sl ([.ref (a 0), .int x, .ref out])).length) Slot.unset).toArray = ls at hl ⊢
  have hl : lv_has ls 4 [(0, .ref (a 0)), (1, .int x), (2, .ref out)] := hl
  have hP : va_P D vwCl ((out, .inl (KL, 1, .inr (.inl ofn))) :: (WW a K KS st hs sc)) s.heap := hP
  refine lv_aload_n hx hb dL_width_0 rfl (lv_at hl 2 rfl) ?_
  refine lv_iconst (v := 0) hx hb dL_width_1 (by decide) ?_
  refine lv_aload_n hx hb dL_width_2 rfl (lv_at hl 0 rfl) ?_
  refine lv_iload_n hx hb dL_width_3 rfl (lv_at hl 1 rfl) ?_
  have ct := k_cut_TT (wp := [(out, .inl (KL, 1, .inr (.inl ofn)))]) (T := (WW a K KS st hs sc)) (wc := []) (wr := [(out, .inl (KL, 1, .inr (.inl ofn)))]) (tc := [(K, .int), (KS, .object "BarcodeWand$State")]) hG hS hA hK hP hD [] [0] [0, 1] rfl rfl (by decide) (by decide) (by decide) rfl
  refine k_endXi (EX := fun E => E = "java/lang/IndexOutOfBoundsException") (As := [.ref (a 0), .int x]) ct (k_xrunV (As := [.int x]) (rest := [.int 0, .ref out]) S0 Lv_L_20 rfl (ci := 7) (q0 := 0) rfl (WW_0 a K KS st hs sc) ct (c_B_widthX l hst D a K KS st hs sc x (by assumption) s.heap.size) hl.1 rfl (Nat.le_of_ble_eq_true rfl) rfl dL_width_4 ⟨⟨Nat.le_of_ble_eq_true rfl, Nat.le_of_ble_eq_true rfl⟩, Nat.le_of_ble_eq_true rfl, Nat.le_of_ble_eq_true rfl⟩) rfl rfl ?_ (fun r_1 _ H locs hw_2 hP hD hK hS => ?_)
  · intro E ce q9 H locs hE hP hD hS hq9 hv9 hcl9
    try dsimp only at hE
    have hP : va_P D vwCl ((out, .inl (KL, 1, .inr (.inl ofn))) :: (WW a K KS st hs sc)) H := hP
    have hD : va_D A ((out, .inl (KL, 1, .inr (.inl ofn))) :: (WW a K KS st hs sc)) := hD
    subst hE
    refine vx_catch hown [] ⟨0, 9, 12, 18⟩ [] (by rw [htab]; rfl) (fun z9 h9 => absurd h9 List.not_mem_nil) (by decide) (by decide) (ht _ lc_L_18) (va_Nw.use rfl (hG.1 _ (List.mem_of_getElem? (i := 486) rfl) rfl)) hq9 hv9 hcl9 ?_
    refine lv_astore_n (lv' := [(3, .ref q9), (0, .ref (a 0)), (1, .int x), (2, .ref out)]) hx hb dL_width_12 rfl hl (by decide) rfl (fun ls hl => ?_)
    refine lv_iconst (v := 1) hx hb dL_width_13 (by decide) ?_
    have hP9 : va_P D vwCl ((out, .inl (KL, 1, .inr (.inl ofn))) :: (WW a K KS st hs sc)) H := k_subP (wp := [(out, .inl (KL, 1, .inr (.inl ofn)))]) (wp' := [(out, .inl (KL, 1, .inr (.inl ofn)))]) (T := (WW a K KS st hs sc)) hP [0] rfl
    have hD9 : va_D A ((out, .inl (KL, 1, .inr (.inl ofn))) :: (WW a K KS st hs sc)) := k_subD (wp := [(out, .inl (KL, 1, .inr (.inl ofn)))]) (wp' := [(out, .inl (KL, 1, .inr (.inl ofn)))]) (T := (WW a K KS st hs sc)) hD [0] (by decide) rfl
    have hP9 : va_P D vwCl ((out, .inl (KL, 1, .inr (.inl ofn))) :: (WW a K KS st hs sc)) H := hP9
    have hD9 : va_D A ((out, .inl (KL, 1, .inr (.inl ofn))) :: (WW a K KS st hs sc)) := hD9
    have hK9 : va_K D vwCl [] s := hK.sub [] rfl
    exact W.iret (v := 1) hx hb hr (fun t ht9 hW9 => ⟨⟨1, (), rfl, by first | rfl | trivial | (simp only [if_true, if_false, reduceIte, and_self]; done) | simp_all, ⟨by rw [ht9]; exact hP9, va_K.moved hW9.alike hK9, hD9⟩⟩, hS.F ht9⟩) hS.2.2 dL_width_14
  have hK : va_K D vwCl [(K, .int), (KS, .object "BarcodeWand$State"), (KL, .long)] s := hK
  have hP : va_P D vwCl ((out, .inl (KL, 1, .inr (.inl ofn))) :: (WW a K KS st hs sc)) H := hP
  have hD : va_D A ((out, .inl (KL, 1, .inr (.inl ofn))) :: (WW a K KS st hs sc)) := hD
  exact hw_2.elim
set_option maxHeartbeats 4000000 in
set_option maxRecDepth 100000 in
theorem c_L_labelDigitX (l : Launch) (hst : l.stackTraces = false) (D : va_G) (a : Nat → Nat) (K : ClassId) (KS : ClassId) (st : ST) (hs : HT) (sc : SCT) (x : Int32) (out : Nat) (KL : ClassId) (ofn : Nat → Int64) (hxi : inR x (nI (s_nd st)) = 0) (sz : Nat) : k_Wi (S := Unit) l D yL_labelDigit cL_labelDigit 4 (some .int) [(0, 9, 12, 18)] 7 1 6 103 [.ref (a 0), .int x, .ref out] ((out, .inl (KL, 1, .inr (.inl ofn))) :: (WW a K KS st hs sc)) [(K, .int), (KS, .object "BarcodeWand$State"), (KL, .long)] (fun (r : Int32) (_ : Unit) => r = (1)) (fun _ => ((out, .inl (KL, 1, .inr (.inl ofn))) :: (WW a K KS st hs sc))) (fun _ => []) sz := by
  refine va_MetW (cc := cL_labelDigit) (maxL := 4) (ret := (some .int)) (hh := [(0, 9, 12, 18)]) (by decide) rfl ?_
  intro p e s m args below meth c s₁ B hml hv
  obtain ⟨rfl, hsz, hP, hK, hD0, hG⟩ := hv
  have hx := B.exec
  have hb := B.bytes
  have hr := B.returns
  have ht : ∀ v9 ∈ wsA, v9.before ([.ref (a 0), .int x, .ref out] : List Value).toArray s = true := fun v9 h9 => atoms_spec (ws := Cond.codeWith yL_labelDigit cL_labelDigit 4 (some .int) [(0, 9, 12, 18)] :: wsA) B.pre v9 (List.mem_cons_of_mem _ h9)
  have htab : c.exceptionTable.toList = tableOf [(0, 9, 12, 18)] := vx_table (x := yL_labelDigit) B (atoms_spec (ws := Cond.codeWith yL_labelDigit cL_labelDigit 4 (some .int) [(0, 9, 12, 18)] :: wsA) B.pre _ List.mem_cons_self)
  have hown : s.vm.findClass RL = some m.cls := findClass_of_methodNamed B.named
  have S0 : k_C p s m ([.ref (a 0), .int x, .ref out] : List Value).toArray c cL_labelDigit 4 RL := ⟨hx, hb, hml, hown, ht⟩
  have hlocks := B.notSynchronized
  subst hsz
  have hD := hD0.self (sz := s.heap.size)
  generalize hAe : va_A ((out, .inl (KL, 1, .inr (.inl ofn))) :: (WW a K KS st hs sc)) s.heap.size = A at hD hG ⊢
  have hA : ∀ q : Nat, s.heap.size ≤ q → A q := fun q h => by rw [← hAe]; exact Or.inr h
  have hS : va_S A s.heap s.heap [] := va_S.rf
  have hl := lv_entry ([.ref (a 0), .int x, .ref out]) (n := 4) (Nat.le_of_ble_eq_true rfl)
  rw [lg_entry_eq]
  generalize (lg_sl ([.ref (a 0), .int x, .ref out]) ++ List.replicate (4 - (lg_sl ([.ref (a 0), .int x, .ref out])).length) Slot.unset).toArray = ls at hl ⊢
  have hl : lv_has ls 4 [(0, .ref (a 0)), (1, .int x), (2, .ref out)] := hl
  have hP : va_P D vwCl ((out, .inl (KL, 1, .inr (.inl ofn))) :: (WW a K KS st hs sc)) s.heap := hP
  refine lv_aload_n hx hb dL_labelDigit_0 rfl (lv_at hl 2 rfl) ?_
  refine lv_iconst (v := 0) hx hb dL_labelDigit_1 (by decide) ?_
  refine lv_aload_n hx hb dL_labelDigit_2 rfl (lv_at hl 0 rfl) ?_
  refine lv_iload_n hx hb dL_labelDigit_3 rfl (lv_at hl 1 rfl) ?_
  have ct := k_cut_TT (wp := [(out, .inl (KL, 1, .inr (.inl ofn)))]) (T := (WW a K KS st hs sc)) (wc := []) (wr := [(out, .inl (KL, 1, .inr (.inl ofn)))]) (tc := [(K, .int), (KS, .object "BarcodeWand$State")]) hG hS hA hK hP hD [] [0] [0, 1] rfl rfl (by decide) (by decide) (by decide) rfl
  refine k_endXi (EX := fun E => E = "java/lang/IndexOutOfBoundsException") (As := [.ref (a 0), .int x]) ct (k_xrunV (As := [.int x]) (rest := [.int 0, .ref out]) S0 Lv_L_24 rfl (ci := 7) (q0 := 0) rfl (WW_0 a K KS st hs sc) ct (c_B_labelDigitX l hst D a K KS st hs sc x (by assumption) s.heap.size) hl.1 rfl (Nat.le_of_ble_eq_true rfl) rfl dL_labelDigit_4 ⟨⟨Nat.le_of_ble_eq_true rfl, Nat.le_of_ble_eq_true rfl⟩, Nat.le_of_ble_eq_true rfl, Nat.le_of_ble_eq_true rfl⟩) rfl rfl ?_ (fun r_1 _ H locs hw_2 hP hD hK hS => ?_)
  · intro E ce q9 H locs hE hP hD hS hq9 hv9 hcl9
    try dsimp only at hE
    have hP : va_P D vwCl ((out, .inl (KL, 1, .inr (.inl ofn))) :: (WW a K KS st hs sc)) H := hP
    have hD : va_D A ((out, .inl (KL, 1, .inr (.inl ofn))) :: (WW a K KS st hs sc)) := hD
    subst hE
    refine vx_catch hown [] ⟨0, 9, 12, 18⟩ [] (by rw [htab]; rfl) (fun z9 h9 => absurd h9 List.not_mem_nil) (by decide) (by decide) (ht _ lc_L_18) (va_Nw.use rfl (hG.1 _ (List.mem_of_getElem? (i := 486) rfl) rfl)) hq9 hv9 hcl9 ?_
    refine lv_astore_n (lv' := [(3, .ref q9), (0, .ref (a 0)), (1, .int x), (2, .ref out)]) hx hb dL_labelDigit_12 rfl hl (by decide) rfl (fun ls hl => ?_)
    refine lv_iconst (v := 1) hx hb dL_labelDigit_13 (by decide) ?_
    have hP9 : va_P D vwCl ((out, .inl (KL, 1, .inr (.inl ofn))) :: (WW a K KS st hs sc)) H := k_subP (wp := [(out, .inl (KL, 1, .inr (.inl ofn)))]) (wp' := [(out, .inl (KL, 1, .inr (.inl ofn)))]) (T := (WW a K KS st hs sc)) hP [0] rfl
    have hD9 : va_D A ((out, .inl (KL, 1, .inr (.inl ofn))) :: (WW a K KS st hs sc)) := k_subD (wp := [(out, .inl (KL, 1, .inr (.inl ofn)))]) (wp' := [(out, .inl (KL, 1, .inr (.inl ofn)))]) (T := (WW a K KS st hs sc)) hD [0] (by decide) rfl
    have hP9 : va_P D vwCl ((out, .inl (KL, 1, .inr (.inl ofn))) :: (WW a K KS st hs sc)) H := hP9
    have hD9 : va_D A ((out, .inl (KL, 1, .inr (.inl ofn))) :: (WW a K KS st hs sc)) := hD9
    have hK9 : va_K D vwCl [] s := hK.sub [] rfl
    exact W.iret (v := 1) hx hb hr (fun t ht9 hW9 => ⟨⟨1, (), rfl, by first | rfl | trivial | (simp only [if_true, if_false, reduceIte, and_self]; done) | simp_all, ⟨by rw [ht9]; exact hP9, va_K.moved hW9.alike hK9, hD9⟩⟩, hS.F ht9⟩) hS.2.2 dL_labelDigit_14
  have hK : va_K D vwCl [(K, .int), (KS, .object "BarcodeWand$State"), (KL, .long)] s := hK
  have hP : va_P D vwCl ((out, .inl (KL, 1, .inr (.inl ofn))) :: (WW a K KS st hs sc)) H := hP
  have hD : va_D A ((out, .inl (KL, 1, .inr (.inl ofn))) :: (WW a K KS st hs sc)) := hD
  exact hw_2.elim
set_option maxHeartbeats 4000000 in
set_option maxRecDepth 100000 in
theorem c_L_drawX1 (l : Launch) (hst : l.stackTraces = false) (D : va_G) (a : Nat → Nat) (K : ClassId) (KS : ClassId) (st : ST) (hs : HT) (sc : SCT) (lf : Int32) (rt : Int32) (b : Int32) (out : Nat) (KL : ClassId) (ofn : Nat → Int64) (hp : ¬ k_per lf rt) (sz : Nat) : k_Wi (S := Unit) l D yL_draw cL_draw 6 (some .int) [(0, 12, 15, 13), (0, 12, 19, 31)] 8 1 6 127 [.ref (a 0), .int lf, .int rt, .int b, .ref out] ((out, .inl (KL, 1, .inr (.inl ofn))) :: (WW a K KS st hs sc)) [(K, .int), (KS, .object "BarcodeWand$State"), (KL, .long)] (fun (r : Int32) (_ : Unit) => r = (1)) (fun _ => ((out, .inl (KL, 1, .inr (.inl ofn))) :: (WW a K KS st hs sc))) (fun _ => []) sz := by
  refine va_MetW (cc := cL_draw) (maxL := 6) (ret := (some .int)) (hh := [(0, 12, 15, 13), (0, 12, 19, 31)]) (by decide) rfl ?_
  intro p e s m args below meth c s₁ B hml hv
  obtain ⟨rfl, hsz, hP, hK, hD0, hG⟩ := hv
  have hx := B.exec
  have hb := B.bytes
  have hr := B.returns
  have ht : ∀ v9 ∈ wsA, v9.before ([.ref (a 0), .int lf, .int rt, .int b, .ref out] : List Value).toArray s = true := fun v9 h9 => atoms_spec (ws := Cond.codeWith yL_draw cL_draw 6 (some .int) [(0, 12, 15, 13), (0, 12, 19, 31)] :: wsA) B.pre v9 (List.mem_cons_of_mem _ h9)
  have htab : c.exceptionTable.toList = tableOf [(0, 12, 15, 13), (0, 12, 19, 31)] := vx_table (x := yL_draw) B (atoms_spec (ws := Cond.codeWith yL_draw cL_draw 6 (some .int) [(0, 12, 15, 13), (0, 12, 19, 31)] :: wsA) B.pre _ List.mem_cons_self)
  have hown : s.vm.findClass RL = some m.cls := findClass_of_methodNamed B.named
  have S0 : k_C p s m ([.ref (a 0), .int lf, .int rt, .int b, .ref out] : List Value).toArray c cL_draw 6 RL := ⟨hx, hb, hml, hown, ht⟩
  have hlocks := B.notSynchronized
  subst hsz
  have hD := hD0.self (sz := s.heap.size)
  generalize hAe : va_A ((out, .inl (KL, 1, .inr (.inl ofn))) :: (WW a K KS st hs sc)) s.heap.size = A at hD hG ⊢
  have hA : ∀ q : Nat, s.heap.size ≤ q → A q := fun q h => by rw [← hAe]; exact Or.inr h
  have hS : va_S A s.heap s.heap [] := va_S.rf
  have hl := lv_entry ([.ref (a 0), .int lf, .int rt, .int b, .ref out]) (n := 6) (Nat.le_of_ble_eq_true rfl)
  rw [lg_entry_eq]
  generalize (lg_sl ([.ref (a 0), .int lf, .int rt, .int b, .ref out]) ++ List.replicate (6 - (lg_sl ([.ref (a 0), .int lf, .int rt, .int b, .ref out])).length) Slot.unset).toArray = ls at hl ⊢
  have hl : lv_has ls 6 [(0, .ref (a 0)), (1, .int lf), (2, .int rt), (3, .int b), (4, .ref out)] := hl
  have hP : va_P D vwCl ((out, .inl (KL, 1, .inr (.inl ofn))) :: (WW a K KS st hs sc)) s.heap := hP
  refine lv_aload hx hb dL_draw_0 (lv_at hl 4 rfl) ?_
  refine lv_iconst (v := 0) hx hb dL_draw_2 (by decide) ?_
  refine lv_aload_n hx hb dL_draw_3 rfl (lv_at hl 0 rfl) ?_
  refine lv_iload_n hx hb dL_draw_4 rfl (lv_at hl 1 rfl) ?_
  refine lv_iload_n hx hb dL_draw_5 rfl (lv_at hl 2 rfl) ?_
  refine lv_iload_n hx hb dL_draw_6 rfl (lv_at hl 3 rfl) ?_
  have ct := k_cut_TT (wp := [(out, .inl (KL, 1, .inr (.inl ofn)))]) (T := (WW a K KS st hs sc)) (wc := []) (wr := [(out, .inl (KL, 1, .inr (.inl ofn)))]) (tc := [(K, .int), (KS, .object "BarcodeWand$State")]) hG hS hA hK hP hD [] [0] [0, 1] rfl rfl (by decide) (by decide) (by decide) rfl
  refine k_endXi (EX := fun E => E = "java/lang/IllegalArgumentException") (As := [.ref (a 0), .int lf, .int rt, .int b]) ct (k_xrunV (As := [.int lf, .int rt, .int b]) (rest := [.int 0, .ref out]) S0 Lv_L_27 rfl (ci := 7) (q0 := 0) rfl (WW_0 a K KS st hs sc) ct (c_B_drawX1 l hst D a K KS st hs sc lf rt b (by assumption) s.heap.size) hl.1 rfl (Nat.le_of_ble_eq_true rfl) rfl dL_draw_7 ⟨⟨Nat.le_of_ble_eq_true rfl, Nat.le_of_ble_eq_true rfl⟩, Nat.le_of_ble_eq_true rfl, Nat.le_of_ble_eq_true rfl⟩) rfl rfl ?_ (fun r_1 _ H locs hw_2 hP hD hK hS => ?_)
  · intro E ce q9 H locs hE hP hD hS hq9 hv9 hcl9
    try dsimp only at hE
    have hP : va_P D vwCl ((out, .inl (KL, 1, .inr (.inl ofn))) :: (WW a K KS st hs sc)) H := hP
    have hD : va_D A ((out, .inl (KL, 1, .inr (.inl ofn))) :: (WW a K KS st hs sc)) := hD
    subst hE
    refine vx_catch hown [] ⟨0, 12, 15, 13⟩ [⟨0, 12, 19, 31⟩] (by rw [htab]; rfl) (fun z9 h9 => absurd h9 List.not_mem_nil) (by decide) (by decide) (ht _ lc_L_13) (va_Nw.use rfl (hG.1 _ (List.mem_of_getElem? (i := 580) rfl) rfl)) hq9 hv9 hcl9 ?_
    refine lv_astore (lv' := [(5, .ref q9), (0, .ref (a 0)), (1, .int lf), (2, .int rt), (3, .int b), (4, .ref out)]) hx hb dL_draw_15 hl (by decide) rfl (fun ls hl => ?_)
    refine lv_iconst (v := 1) hx hb dL_draw_17 (by decide) ?_
    have hP9 : va_P D vwCl ((out, .inl (KL, 1, .inr (.inl ofn))) :: (WW a K KS st hs sc)) H := k_subP (wp := [(out, .inl (KL, 1, .inr (.inl ofn)))]) (wp' := [(out, .inl (KL, 1, .inr (.inl ofn)))]) (T := (WW a K KS st hs sc)) hP [0] rfl
    have hD9 : va_D A ((out, .inl (KL, 1, .inr (.inl ofn))) :: (WW a K KS st hs sc)) := k_subD (wp := [(out, .inl (KL, 1, .inr (.inl ofn)))]) (wp' := [(out, .inl (KL, 1, .inr (.inl ofn)))]) (T := (WW a K KS st hs sc)) hD [0] (by decide) rfl
    have hP9 : va_P D vwCl ((out, .inl (KL, 1, .inr (.inl ofn))) :: (WW a K KS st hs sc)) H := hP9
    have hD9 : va_D A ((out, .inl (KL, 1, .inr (.inl ofn))) :: (WW a K KS st hs sc)) := hD9
    have hK9 : va_K D vwCl [] s := hK.sub [] rfl
    exact W.iret (v := 1) hx hb hr (fun t ht9 hW9 => ⟨⟨1, (), rfl, by first | rfl | trivial | (simp only [if_true, if_false, reduceIte, and_self]; done) | simp_all, ⟨by rw [ht9]; exact hP9, va_K.moved hW9.alike hK9, hD9⟩⟩, hS.F ht9⟩) hS.2.2 dL_draw_18
  have hK : va_K D vwCl [(K, .int), (KS, .object "BarcodeWand$State"), (KL, .long)] s := hK
  have hP : va_P D vwCl ((out, .inl (KL, 1, .inr (.inl ofn))) :: (WW a K KS st hs sc)) H := hP
  have hD : va_D A ((out, .inl (KL, 1, .inr (.inl ofn))) :: (WW a K KS st hs sc)) := hD
  exact hw_2.elim
set_option maxHeartbeats 4000000 in
set_option maxRecDepth 100000 in
theorem c_L_drawX (l : Launch) (hst : l.stackTraces = false) (D : va_G) (a : Nat → Nat) (K : ClassId) (KS : ClassId) (st : ST) (hs : HT) (sc : SCT) (lf : Int32) (rt : Int32) (b : Int32) (out : Nat) (KL : ClassId) (ofn : Nat → Int64) (hp : k_per lf rt) (hne : s_ns st = 0) (sz : Nat) : k_Wi (S := Unit) l D yL_draw cL_draw 6 (some .int) [(0, 12, 15, 13), (0, 12, 19, 31)] 8 1 6 127 [.ref (a 0), .int lf, .int rt, .int b, .ref out] ((out, .inl (KL, 1, .inr (.inl ofn))) :: (WW a K KS st hs sc)) [(K, .int), (KS, .object "BarcodeWand$State"), (KL, .long)] (fun (r : Int32) (_ : Unit) => r = (2)) (fun _ => ((out, .inl (KL, 1, .inr (.inl ofn))) :: (WW a K KS st hs sc))) (fun _ => []) sz := by
  refine va_MetW (cc := cL_draw) (maxL := 6) (ret := (some .int)) (hh := [(0, 12, 15, 13), (0, 12, 19, 31)]) (by decide) rfl ?_
  intro p e s m args below meth c s₁ B hml hv
  obtain ⟨rfl, hsz, hP, hK, hD0, hG⟩ := hv
  have hx := B.exec
  have hb := B.bytes
  have hr := B.returns
  have ht : ∀ v9 ∈ wsA, v9.before ([.ref (a 0), .int lf, .int rt, .int b, .ref out] : List Value).toArray s = true := fun v9 h9 => atoms_spec (ws := Cond.codeWith yL_draw cL_draw 6 (some .int) [(0, 12, 15, 13), (0, 12, 19, 31)] :: wsA) B.pre v9 (List.mem_cons_of_mem _ h9)
  have htab : c.exceptionTable.toList = tableOf [(0, 12, 15, 13), (0, 12, 19, 31)] := vx_table (x := yL_draw) B (atoms_spec (ws := Cond.codeWith yL_draw cL_draw 6 (some .int) [(0, 12, 15, 13), (0, 12, 19, 31)] :: wsA) B.pre _ List.mem_cons_self)
  have hown : s.vm.findClass RL = some m.cls := findClass_of_methodNamed B.named
  have S0 : k_C p s m ([.ref (a 0), .int lf, .int rt, .int b, .ref out] : List Value).toArray c cL_draw 6 RL := ⟨hx, hb, hml, hown, ht⟩
  have hlocks := B.notSynchronized
  subst hsz
  have hD := hD0.self (sz := s.heap.size)
  generalize hAe : va_A ((out, .inl (KL, 1, .inr (.inl ofn))) :: (WW a K KS st hs sc)) s.heap.size = A at hD hG ⊢
  have hA : ∀ q : Nat, s.heap.size ≤ q → A q := fun q h => by rw [← hAe]; exact Or.inr h
  have hS : va_S A s.heap s.heap [] := va_S.rf
  have hl := lv_entry ([.ref (a 0), .int lf, .int rt, .int b, .ref out]) (n := 6) (Nat.le_of_ble_eq_true rfl)
  rw [lg_entry_eq]
  generalize (lg_sl ([.ref (a 0), .int lf, .int rt, .int b, .ref out]) ++ List.replicate (6 - (lg_sl ([.ref (a 0), .int lf, .int rt, .int b, .ref out])).length) Slot.unset).toArray = ls at hl ⊢
  have hl : lv_has ls 6 [(0, .ref (a 0)), (1, .int lf), (2, .int rt), (3, .int b), (4, .ref out)] := hl
  have hP : va_P D vwCl ((out, .inl (KL, 1, .inr (.inl ofn))) :: (WW a K KS st hs sc)) s.heap := hP
  refine lv_aload hx hb dL_draw_0 (lv_at hl 4 rfl) ?_
  refine lv_iconst (v := 0) hx hb dL_draw_2 (by decide) ?_
  refine lv_aload_n hx hb dL_draw_3 rfl (lv_at hl 0 rfl) ?_
  refine lv_iload_n hx hb dL_draw_4 rfl (lv_at hl 1 rfl) ?_
  refine lv_iload_n hx hb dL_draw_5 rfl (lv_at hl 2 rfl) ?_
  refine lv_iload_n hx hb dL_draw_6 rfl (lv_at hl 3 rfl) ?_
  have ct := k_cut_TT (wp := [(out, .inl (KL, 1, .inr (.inl ofn)))]) (T := (WW a K KS st hs sc)) (wc := []) (wr := [(out, .inl (KL, 1, .inr (.inl ofn)))]) (tc := [(K, .int), (KS, .object "BarcodeWand$State")]) hG hS hA hK hP hD [] [0] [0, 1] rfl rfl (by decide) (by decide) (by decide) rfl
  refine k_endXi (EX := fun E => E = "java/lang/IllegalStateException") (As := [.ref (a 0), .int lf, .int rt, .int b]) ct (k_xrunV (As := [.int lf, .int rt, .int b]) (rest := [.int 0, .ref out]) S0 Lv_L_27 rfl (ci := 7) (q0 := 0) rfl (WW_0 a K KS st hs sc) ct (c_B_drawX l hst D a K KS st hs sc lf rt b (by assumption) (by assumption) s.heap.size) hl.1 rfl (Nat.le_of_ble_eq_true rfl) rfl dL_draw_7 ⟨⟨Nat.le_of_ble_eq_true rfl, Nat.le_of_ble_eq_true rfl⟩, Nat.le_of_ble_eq_true rfl, Nat.le_of_ble_eq_true rfl⟩) rfl rfl ?_ (fun r_1 _ H locs hw_2 hP hD hK hS => ?_)
  · intro E ce q9 H locs hE hP hD hS hq9 hv9 hcl9
    try dsimp only at hE
    have hP : va_P D vwCl ((out, .inl (KL, 1, .inr (.inl ofn))) :: (WW a K KS st hs sc)) H := hP
    have hD : va_D A ((out, .inl (KL, 1, .inr (.inl ofn))) :: (WW a K KS st hs sc)) := hD
    subst hE
    refine vx_catch hown [⟨0, 12, 15, 13⟩] ⟨0, 12, 19, 31⟩ [] (by rw [htab]; rfl) (fun z9 h9 => by rcases List.mem_singleton.mp h9 with rfl; exact Or.inr ⟨by decide, "java/lang/IllegalArgumentException", ht _ lc_L_13, hG.2.2.2.2.1.1⟩) (by decide) (by decide) (ht _ lc_L_31) (va_Nw.use rfl (hG.1 _ (List.mem_of_getElem? (i := 647) rfl) rfl)) hq9 hv9 hcl9 ?_
    refine lv_astore (lv' := [(5, .ref q9), (0, .ref (a 0)), (1, .int lf), (2, .int rt), (3, .int b), (4, .ref out)]) hx hb dL_draw_19 hl (by decide) rfl (fun ls hl => ?_)
    refine lv_iconst (v := 2) hx hb dL_draw_21 (by decide) ?_
    have hP9 : va_P D vwCl ((out, .inl (KL, 1, .inr (.inl ofn))) :: (WW a K KS st hs sc)) H := k_subP (wp := [(out, .inl (KL, 1, .inr (.inl ofn)))]) (wp' := [(out, .inl (KL, 1, .inr (.inl ofn)))]) (T := (WW a K KS st hs sc)) hP [0] rfl
    have hD9 : va_D A ((out, .inl (KL, 1, .inr (.inl ofn))) :: (WW a K KS st hs sc)) := k_subD (wp := [(out, .inl (KL, 1, .inr (.inl ofn)))]) (wp' := [(out, .inl (KL, 1, .inr (.inl ofn)))]) (T := (WW a K KS st hs sc)) hD [0] (by decide) rfl
    have hP9 : va_P D vwCl ((out, .inl (KL, 1, .inr (.inl ofn))) :: (WW a K KS st hs sc)) H := hP9
    have hD9 : va_D A ((out, .inl (KL, 1, .inr (.inl ofn))) :: (WW a K KS st hs sc)) := hD9
    have hK9 : va_K D vwCl [] s := hK.sub [] rfl
    exact W.iret (v := 2) hx hb hr (fun t ht9 hW9 => ⟨⟨2, (), rfl, by first | rfl | trivial | (simp only [if_true, if_false, reduceIte, and_self]; done) | simp_all, ⟨by rw [ht9]; exact hP9, va_K.moved hW9.alike hK9, hD9⟩⟩, hS.F ht9⟩) hS.2.2 dL_draw_22
  have hK : va_K D vwCl [(K, .int), (KS, .object "BarcodeWand$State"), (KL, .long)] s := hK
  have hP : va_P D vwCl ((out, .inl (KL, 1, .inr (.inl ofn))) :: (WW a K KS st hs sc)) H := hP
  have hD : va_D A ((out, .inl (KL, 1, .inr (.inl ofn))) :: (WW a K KS st hs sc)) := hD
  exact hw_2.elim
set_option maxHeartbeats 4000000 in
set_option maxRecDepth 100000 in
theorem c_L_measureX1 (l : Launch) (hst : l.stackTraces = false) (D : va_G) (a : Nat → Nat) (K : ClassId) (KS : ClassId) (st : ST) (hs : HT) (sc : SCT) (t9 : Int32) (out : Nat) (KL : ClassId) (ofn : Nat → Int64) (hx9 : ¬ (¬ t9 < 1 ∧ t9 ≤ 9999)) (sz : Nat) : k_Wi (S := Unit) l D yL_measure cL_measure 4 (some .int) [(0, 9, 12, 13), (0, 9, 15, 31)] 7 1 6 103 [.ref (a 0), .int t9, .ref out] ((out, .inl (KL, 1, .inr (.inl ofn))) :: (WW a K KS st hs sc)) [(K, .int), (KS, .object "BarcodeWand$State"), (KL, .long)] (fun (r : Int32) (_ : Unit) => r = (1)) (fun _ => ((out, .inl (KL, 1, .inr (.inl ofn))) :: (WW a K KS st hs sc))) (fun _ => []) sz := by
  refine va_MetW (cc := cL_measure) (maxL := 4) (ret := (some .int)) (hh := [(0, 9, 12, 13), (0, 9, 15, 31)]) (by decide) rfl ?_
  intro p e s m args below meth c s₁ B hml hv
  obtain ⟨rfl, hsz, hP, hK, hD0, hG⟩ := hv
  have hx := B.exec
  have hb := B.bytes
  have hr := B.returns
  have ht : ∀ v9 ∈ wsA, v9.before ([.ref (a 0), .int t9, .ref out] : List Value).toArray s = true := fun v9 h9 => atoms_spec (ws := Cond.codeWith yL_measure cL_measure 4 (some .int) [(0, 9, 12, 13), (0, 9, 15, 31)] :: wsA) B.pre v9 (List.mem_cons_of_mem _ h9)
  have htab : c.exceptionTable.toList = tableOf [(0, 9, 12, 13), (0, 9, 15, 31)] := vx_table (x := yL_measure) B (atoms_spec (ws := Cond.codeWith yL_measure cL_measure 4 (some .int) [(0, 9, 12, 13), (0, 9, 15, 31)] :: wsA) B.pre _ List.mem_cons_self)
  have hown : s.vm.findClass RL = some m.cls := findClass_of_methodNamed B.named
  have S0 : k_C p s m ([.ref (a 0), .int t9, .ref out] : List Value).toArray c cL_measure 4 RL := ⟨hx, hb, hml, hown, ht⟩
  have hlocks := B.notSynchronized
  subst hsz
  have hD := hD0.self (sz := s.heap.size)
  generalize hAe : va_A ((out, .inl (KL, 1, .inr (.inl ofn))) :: (WW a K KS st hs sc)) s.heap.size = A at hD hG ⊢
  have hA : ∀ q : Nat, s.heap.size ≤ q → A q := fun q h => by rw [← hAe]; exact Or.inr h
  have hS : va_S A s.heap s.heap [] := va_S.rf
  have hl := lv_entry ([.ref (a 0), .int t9, .ref out]) (n := 4) (Nat.le_of_ble_eq_true rfl)
  rw [lg_entry_eq]
  generalize (lg_sl ([.ref (a 0), .int t9, .ref out]) ++ List.replicate (4 - (lg_sl ([.ref (a 0), .int t9, .ref out])).length) Slot.unset).toArray = ls at hl ⊢
  have hl : lv_has ls 4 [(0, .ref (a 0)), (1, .int t9), (2, .ref out)] := hl
  have hP : va_P D vwCl ((out, .inl (KL, 1, .inr (.inl ofn))) :: (WW a K KS st hs sc)) s.heap := hP
  refine lv_aload_n hx hb dL_measure_0 rfl (lv_at hl 2 rfl) ?_
  refine lv_iconst (v := 0) hx hb dL_measure_1 (by decide) ?_
  refine lv_aload_n hx hb dL_measure_2 rfl (lv_at hl 0 rfl) ?_
  refine lv_iload_n hx hb dL_measure_3 rfl (lv_at hl 1 rfl) ?_
  have ct := k_cut_TT (wp := [(out, .inl (KL, 1, .inr (.inl ofn)))]) (T := (WW a K KS st hs sc)) (wc := []) (wr := [(out, .inl (KL, 1, .inr (.inl ofn)))]) (tc := [(K, .int), (KS, .object "BarcodeWand$State")]) hG hS hA hK hP hD [] [0] [0, 1] rfl rfl (by decide) (by decide) (by decide) rfl
  refine k_endXi (EX := fun E => E = "java/lang/IllegalArgumentException") (As := [.ref (a 0), .int t9]) ct (k_xrunV (As := [.int t9]) (rest := [.int 0, .ref out]) S0 Lv_L_33 rfl (ci := 7) (q0 := 0) rfl (WW_0 a K KS st hs sc) ct (c_B_measureX1 l hst D a K KS st hs sc t9 (by assumption) s.heap.size) hl.1 rfl (Nat.le_of_ble_eq_true rfl) rfl dL_measure_4 ⟨⟨Nat.le_of_ble_eq_true rfl, Nat.le_of_ble_eq_true rfl⟩, Nat.le_of_ble_eq_true rfl, Nat.le_of_ble_eq_true rfl⟩) rfl rfl ?_ (fun r_1 _ H locs hw_2 hP hD hK hS => ?_)
  · intro E ce q9 H locs hE hP hD hS hq9 hv9 hcl9
    try dsimp only at hE
    have hP : va_P D vwCl ((out, .inl (KL, 1, .inr (.inl ofn))) :: (WW a K KS st hs sc)) H := hP
    have hD : va_D A ((out, .inl (KL, 1, .inr (.inl ofn))) :: (WW a K KS st hs sc)) := hD
    subst hE
    refine vx_catch hown [] ⟨0, 9, 12, 13⟩ [⟨0, 9, 15, 31⟩] (by rw [htab]; rfl) (fun z9 h9 => absurd h9 List.not_mem_nil) (by decide) (by decide) (ht _ lc_L_13) (va_Nw.use rfl (hG.1 _ (List.mem_of_getElem? (i := 580) rfl) rfl)) hq9 hv9 hcl9 ?_
    refine lv_astore_n (lv' := [(3, .ref q9), (0, .ref (a 0)), (1, .int t9), (2, .ref out)]) hx hb dL_measure_12 rfl hl (by decide) rfl (fun ls hl => ?_)
    refine lv_iconst (v := 1) hx hb dL_measure_13 (by decide) ?_
    have hP9 : va_P D vwCl ((out, .inl (KL, 1, .inr (.inl ofn))) :: (WW a K KS st hs sc)) H := k_subP (wp := [(out, .inl (KL, 1, .inr (.inl ofn)))]) (wp' := [(out, .inl (KL, 1, .inr (.inl ofn)))]) (T := (WW a K KS st hs sc)) hP [0] rfl
    have hD9 : va_D A ((out, .inl (KL, 1, .inr (.inl ofn))) :: (WW a K KS st hs sc)) := k_subD (wp := [(out, .inl (KL, 1, .inr (.inl ofn)))]) (wp' := [(out, .inl (KL, 1, .inr (.inl ofn)))]) (T := (WW a K KS st hs sc)) hD [0] (by decide) rfl
    have hP9 : va_P D vwCl ((out, .inl (KL, 1, .inr (.inl ofn))) :: (WW a K KS st hs sc)) H := hP9
    have hD9 : va_D A ((out, .inl (KL, 1, .inr (.inl ofn))) :: (WW a K KS st hs sc)) := hD9
    have hK9 : va_K D vwCl [] s := hK.sub [] rfl
    exact W.iret (v := 1) hx hb hr (fun t ht9 hW9 => ⟨⟨1, (), rfl, by first | rfl | trivial | (simp only [if_true, if_false, reduceIte, and_self]; done) | simp_all, ⟨by rw [ht9]; exact hP9, va_K.moved hW9.alike hK9, hD9⟩⟩, hS.F ht9⟩) hS.2.2 dL_measure_14
  have hK : va_K D vwCl [(K, .int), (KS, .object "BarcodeWand$State"), (KL, .long)] s := hK
  have hP : va_P D vwCl ((out, .inl (KL, 1, .inr (.inl ofn))) :: (WW a K KS st hs sc)) H := hP
  have hD : va_D A ((out, .inl (KL, 1, .inr (.inl ofn))) :: (WW a K KS st hs sc)) := hD
  exact hw_2.elim
set_option maxHeartbeats 4000000 in
set_option maxRecDepth 100000 in
theorem c_L_measureX (l : Launch) (hst : l.stackTraces = false) (D : va_G) (a : Nat → Nat) (K : ClassId) (KS : ClassId) (st : ST) (hs : HT) (sc : SCT) (x : Int32) (out : Nat) (KL : ClassId) (ofn : Nat → Int64) (hbst : bST st) (hx1 : ¬ x < 1) (hx2 : x ≤ 9999) (h41 : 41 ≤ s_tn st) (sz : Nat) : k_Wi (S := Unit) l D yL_measure cL_measure 4 (some .int) [(0, 9, 12, 13), (0, 9, 15, 31)] 7 1 6 103 [.ref (a 0), .int x, .ref out] ((out, .inl (KL, 1, .inr (.inl ofn))) :: (WW a K KS st hs sc)) [(K, .int), (KS, .object "BarcodeWand$State"), (KL, .long)] (fun (r : Int32) (_ : Unit) => r = (2)) (fun _ => ((out, .inl (KL, 1, .inr (.inl ofn))) :: (WW a K KS st hs sc))) (fun _ => []) sz := by
  refine va_MetW (cc := cL_measure) (maxL := 4) (ret := (some .int)) (hh := [(0, 9, 12, 13), (0, 9, 15, 31)]) (by decide) rfl ?_
  intro p e s m args below meth c s₁ B hml hv
  obtain ⟨rfl, hsz, hP, hK, hD0, hG⟩ := hv
  have hx := B.exec
  have hb := B.bytes
  have hr := B.returns
  have ht : ∀ v9 ∈ wsA, v9.before ([.ref (a 0), .int x, .ref out] : List Value).toArray s = true := fun v9 h9 => atoms_spec (ws := Cond.codeWith yL_measure cL_measure 4 (some .int) [(0, 9, 12, 13), (0, 9, 15, 31)] :: wsA) B.pre v9 (List.mem_cons_of_mem _ h9)
  have htab : c.exceptionTable.toList = tableOf [(0, 9, 12, 13), (0, 9, 15, 31)] := vx_table (x := yL_measure) B (atoms_spec (ws := Cond.codeWith yL_measure cL_measure 4 (some .int) [(0, 9, 12, 13), (0, 9, 15, 31)] :: wsA) B.pre _ List.mem_cons_self)
  have hown : s.vm.findClass RL = some m.cls := findClass_of_methodNamed B.named
  have S0 : k_C p s m ([.ref (a 0), .int x, .ref out] : List Value).toArray c cL_measure 4 RL := ⟨hx, hb, hml, hown, ht⟩
  have hlocks := B.notSynchronized
  subst hsz
  have hD := hD0.self (sz := s.heap.size)
  generalize hAe : va_A ((out, .inl (KL, 1, .inr (.inl ofn))) :: (WW a K KS st hs sc)) s.heap.size = A at hD hG ⊢
  have hA : ∀ q : Nat, s.heap.size ≤ q → A q := fun q h => by rw [← hAe]; exact Or.inr h
  have hS : va_S A s.heap s.heap [] := va_S.rf
  have hl := lv_entry ([.ref (a 0), .int x, .ref out]) (n := 4) (Nat.le_of_ble_eq_true rfl)
  rw [lg_entry_eq]
  generalize (lg_sl ([.ref (a 0), .int x, .ref out]) ++ List.replicate (4 - (lg_sl ([.ref (a 0), .int x, .ref out])).length) Slot.unset).toArray = ls at hl ⊢
  have hl : lv_has ls 4 [(0, .ref (a 0)), (1, .int x), (2, .ref out)] := hl
  have hP : va_P D vwCl ((out, .inl (KL, 1, .inr (.inl ofn))) :: (WW a K KS st hs sc)) s.heap := hP
  refine lv_aload_n hx hb dL_measure_0 rfl (lv_at hl 2 rfl) ?_
  refine lv_iconst (v := 0) hx hb dL_measure_1 (by decide) ?_
  refine lv_aload_n hx hb dL_measure_2 rfl (lv_at hl 0 rfl) ?_
  refine lv_iload_n hx hb dL_measure_3 rfl (lv_at hl 1 rfl) ?_
  have ct := k_cut_TT (wp := [(out, .inl (KL, 1, .inr (.inl ofn)))]) (T := (WW a K KS st hs sc)) (wc := []) (wr := [(out, .inl (KL, 1, .inr (.inl ofn)))]) (tc := [(K, .int), (KS, .object "BarcodeWand$State")]) hG hS hA hK hP hD [] [0] [0, 1] rfl rfl (by decide) (by decide) (by decide) rfl
  refine k_endXi (EX := fun E => E = "java/lang/IllegalStateException") (As := [.ref (a 0), .int x]) ct (k_xrunV (As := [.int x]) (rest := [.int 0, .ref out]) S0 Lv_L_33 rfl (ci := 7) (q0 := 0) rfl (WW_0 a K KS st hs sc) ct (c_B_measureX l hst D a K KS st hs sc x (by assumption) (by assumption) (by assumption) (by assumption) s.heap.size) hl.1 rfl (Nat.le_of_ble_eq_true rfl) rfl dL_measure_4 ⟨⟨Nat.le_of_ble_eq_true rfl, Nat.le_of_ble_eq_true rfl⟩, Nat.le_of_ble_eq_true rfl, Nat.le_of_ble_eq_true rfl⟩) rfl rfl ?_ (fun r_1 _ H locs hw_2 hP hD hK hS => ?_)
  · intro E ce q9 H locs hE hP hD hS hq9 hv9 hcl9
    try dsimp only at hE
    have hP : va_P D vwCl ((out, .inl (KL, 1, .inr (.inl ofn))) :: (WW a K KS st hs sc)) H := hP
    have hD : va_D A ((out, .inl (KL, 1, .inr (.inl ofn))) :: (WW a K KS st hs sc)) := hD
    subst hE
    refine vx_catch hown [⟨0, 9, 12, 13⟩] ⟨0, 9, 15, 31⟩ [] (by rw [htab]; rfl) (fun z9 h9 => by rcases List.mem_singleton.mp h9 with rfl; exact Or.inr ⟨by decide, "java/lang/IllegalArgumentException", ht _ lc_L_13, hG.2.2.2.2.1.1⟩) (by decide) (by decide) (ht _ lc_L_31) (va_Nw.use rfl (hG.1 _ (List.mem_of_getElem? (i := 647) rfl) rfl)) hq9 hv9 hcl9 ?_
    refine lv_astore_n (lv' := [(3, .ref q9), (0, .ref (a 0)), (1, .int x), (2, .ref out)]) hx hb dL_measure_15 rfl hl (by decide) rfl (fun ls hl => ?_)
    refine lv_iconst (v := 2) hx hb dL_measure_16 (by decide) ?_
    have hP9 : va_P D vwCl ((out, .inl (KL, 1, .inr (.inl ofn))) :: (WW a K KS st hs sc)) H := k_subP (wp := [(out, .inl (KL, 1, .inr (.inl ofn)))]) (wp' := [(out, .inl (KL, 1, .inr (.inl ofn)))]) (T := (WW a K KS st hs sc)) hP [0] rfl
    have hD9 : va_D A ((out, .inl (KL, 1, .inr (.inl ofn))) :: (WW a K KS st hs sc)) := k_subD (wp := [(out, .inl (KL, 1, .inr (.inl ofn)))]) (wp' := [(out, .inl (KL, 1, .inr (.inl ofn)))]) (T := (WW a K KS st hs sc)) hD [0] (by decide) rfl
    have hP9 : va_P D vwCl ((out, .inl (KL, 1, .inr (.inl ofn))) :: (WW a K KS st hs sc)) H := hP9
    have hD9 : va_D A ((out, .inl (KL, 1, .inr (.inl ofn))) :: (WW a K KS st hs sc)) := hD9
    have hK9 : va_K D vwCl [] s := hK.sub [] rfl
    exact W.iret (v := 2) hx hb hr (fun t ht9 hW9 => ⟨⟨2, (), rfl, by first | rfl | trivial | (simp only [if_true, if_false, reduceIte, and_self]; done) | simp_all, ⟨by rw [ht9]; exact hP9, va_K.moved hW9.alike hK9, hD9⟩⟩, hS.F ht9⟩) hS.2.2 dL_measure_17
  have hK : va_K D vwCl [(K, .int), (KS, .object "BarcodeWand$State"), (KL, .long)] s := hK
  have hP : va_P D vwCl ((out, .inl (KL, 1, .inr (.inl ofn))) :: (WW a K KS st hs sc)) H := hP
  have hD : va_D A ((out, .inl (KL, 1, .inr (.inl ofn))) :: (WW a K KS st hs sc)) := hD
  exact hw_2.elim
set_option maxHeartbeats 4000000 in
set_option maxRecDepth 100000 in
theorem c_L_timeX (l : Launch) (hst : l.stackTraces = false) (D : va_G) (a : Nat → Nat) (K : ClassId) (KS : ClassId) (st : ST) (hs : HT) (sc : SCT) (v : Int32) (out : Nat) (KL : ClassId) (ofn : Nat → Int64) (hxi : inR v (nI (s_tn st)) = 0) (sz : Nat) : k_Wi (S := Unit) l D yL_time cL_time 4 (some .int) [(0, 9, 12, 18)] 7 1 6 103 [.ref (a 0), .int v, .ref out] ((out, .inl (KL, 1, .inr (.inl ofn))) :: (WW a K KS st hs sc)) [(K, .int), (KS, .object "BarcodeWand$State"), (KL, .long)] (fun (r : Int32) (_ : Unit) => r = (1)) (fun _ => ((out, .inl (KL, 1, .inr (.inl ofn))) :: (WW a K KS st hs sc))) (fun _ => []) sz := by
  refine va_MetW (cc := cL_time) (maxL := 4) (ret := (some .int)) (hh := [(0, 9, 12, 18)]) (by decide) rfl ?_
  intro p e s m args below meth c s₁ B hml hv
  obtain ⟨rfl, hsz, hP, hK, hD0, hG⟩ := hv
  have hx := B.exec
  have hb := B.bytes
  have hr := B.returns
  have ht : ∀ v9 ∈ wsA, v9.before ([.ref (a 0), .int v, .ref out] : List Value).toArray s = true := fun v9 h9 => atoms_spec (ws := Cond.codeWith yL_time cL_time 4 (some .int) [(0, 9, 12, 18)] :: wsA) B.pre v9 (List.mem_cons_of_mem _ h9)
  have htab : c.exceptionTable.toList = tableOf [(0, 9, 12, 18)] := vx_table (x := yL_time) B (atoms_spec (ws := Cond.codeWith yL_time cL_time 4 (some .int) [(0, 9, 12, 18)] :: wsA) B.pre _ List.mem_cons_self)
  have hown : s.vm.findClass RL = some m.cls := findClass_of_methodNamed B.named
  have S0 : k_C p s m ([.ref (a 0), .int v, .ref out] : List Value).toArray c cL_time 4 RL := ⟨hx, hb, hml, hown, ht⟩
  have hlocks := B.notSynchronized
  subst hsz
  have hD := hD0.self (sz := s.heap.size)
  generalize hAe : va_A ((out, .inl (KL, 1, .inr (.inl ofn))) :: (WW a K KS st hs sc)) s.heap.size = A at hD hG ⊢
  have hA : ∀ q : Nat, s.heap.size ≤ q → A q := fun q h => by rw [← hAe]; exact Or.inr h
  have hS : va_S A s.heap s.heap [] := va_S.rf
  have hl := lv_entry ([.ref (a 0), .int v, .ref out]) (n := 4) (Nat.le_of_ble_eq_true rfl)
  rw [lg_entry_eq]
  generalize (lg_sl ([.ref (a 0), .int v, .ref out]) ++ List.replicate (4 - (lg_sl ([.ref (a 0), .int v, .ref out])).length) Slot.unset).toArray = ls at hl ⊢
  have hl : lv_has ls 4 [(0, .ref (a 0)), (1, .int v), (2, .ref out)] := hl
  have hP : va_P D vwCl ((out, .inl (KL, 1, .inr (.inl ofn))) :: (WW a K KS st hs sc)) s.heap := hP
  refine lv_aload_n hx hb dL_time_0 rfl (lv_at hl 2 rfl) ?_
  refine lv_iconst (v := 0) hx hb dL_time_1 (by decide) ?_
  refine lv_aload_n hx hb dL_time_2 rfl (lv_at hl 0 rfl) ?_
  refine lv_iload_n hx hb dL_time_3 rfl (lv_at hl 1 rfl) ?_
  have ct := k_cut_TT (wp := [(out, .inl (KL, 1, .inr (.inl ofn)))]) (T := (WW a K KS st hs sc)) (wc := []) (wr := [(out, .inl (KL, 1, .inr (.inl ofn)))]) (tc := [(K, .int), (KS, .object "BarcodeWand$State")]) hG hS hA hK hP hD [] [0] [0, 1] rfl rfl (by decide) (by decide) (by decide) rfl
  refine k_endXi (EX := fun E => E = "java/lang/IndexOutOfBoundsException") (As := [.ref (a 0), .int v]) ct (k_xrunV (As := [.int v]) (rest := [.int 0, .ref out]) S0 Lv_L_36 rfl (ci := 7) (q0 := 0) rfl (WW_0 a K KS st hs sc) ct (c_B_timeX l hst D a K KS st hs sc v (by assumption) s.heap.size) hl.1 rfl (Nat.le_of_ble_eq_true rfl) rfl dL_time_4 ⟨⟨Nat.le_of_ble_eq_true rfl, Nat.le_of_ble_eq_true rfl⟩, Nat.le_of_ble_eq_true rfl, Nat.le_of_ble_eq_true rfl⟩) rfl rfl ?_ (fun r_1 _ H locs hw_2 hP hD hK hS => ?_)
  · intro E ce q9 H locs hE hP hD hS hq9 hv9 hcl9
    try dsimp only at hE
    have hP : va_P D vwCl ((out, .inl (KL, 1, .inr (.inl ofn))) :: (WW a K KS st hs sc)) H := hP
    have hD : va_D A ((out, .inl (KL, 1, .inr (.inl ofn))) :: (WW a K KS st hs sc)) := hD
    subst hE
    refine vx_catch hown [] ⟨0, 9, 12, 18⟩ [] (by rw [htab]; rfl) (fun z9 h9 => absurd h9 List.not_mem_nil) (by decide) (by decide) (ht _ lc_L_18) (va_Nw.use rfl (hG.1 _ (List.mem_of_getElem? (i := 486) rfl) rfl)) hq9 hv9 hcl9 ?_
    refine lv_astore_n (lv' := [(3, .ref q9), (0, .ref (a 0)), (1, .int v), (2, .ref out)]) hx hb dL_time_12 rfl hl (by decide) rfl (fun ls hl => ?_)
    refine lv_iconst (v := 1) hx hb dL_time_13 (by decide) ?_
    have hP9 : va_P D vwCl ((out, .inl (KL, 1, .inr (.inl ofn))) :: (WW a K KS st hs sc)) H := k_subP (wp := [(out, .inl (KL, 1, .inr (.inl ofn)))]) (wp' := [(out, .inl (KL, 1, .inr (.inl ofn)))]) (T := (WW a K KS st hs sc)) hP [0] rfl
    have hD9 : va_D A ((out, .inl (KL, 1, .inr (.inl ofn))) :: (WW a K KS st hs sc)) := k_subD (wp := [(out, .inl (KL, 1, .inr (.inl ofn)))]) (wp' := [(out, .inl (KL, 1, .inr (.inl ofn)))]) (T := (WW a K KS st hs sc)) hD [0] (by decide) rfl
    have hP9 : va_P D vwCl ((out, .inl (KL, 1, .inr (.inl ofn))) :: (WW a K KS st hs sc)) H := hP9
    have hD9 : va_D A ((out, .inl (KL, 1, .inr (.inl ofn))) :: (WW a K KS st hs sc)) := hD9
    have hK9 : va_K D vwCl [] s := hK.sub [] rfl
    exact W.iret (v := 1) hx hb hr (fun t ht9 hW9 => ⟨⟨1, (), rfl, by first | rfl | trivial | (simp only [if_true, if_false, reduceIte, and_self]; done) | simp_all, ⟨by rw [ht9]; exact hP9, va_K.moved hW9.alike hK9, hD9⟩⟩, hS.F ht9⟩) hS.2.2 dL_time_14
  have hK : va_K D vwCl [(K, .int), (KS, .object "BarcodeWand$State"), (KL, .long)] s := hK
  have hP : va_P D vwCl ((out, .inl (KL, 1, .inr (.inl ofn))) :: (WW a K KS st hs sc)) H := hP
  have hD : va_D A ((out, .inl (KL, 1, .inr (.inl ofn))) :: (WW a K KS st hs sc)) := hD
  exact hw_2.elim
set_option maxHeartbeats 4000000 in
set_option maxRecDepth 100000 in
theorem c_L_setTolX (l : Launch) (hst : l.stackTraces = false) (D : va_G) (a : Nat → Nat) (K : ClassId) (KS : ClassId) (st : ST) (hs : HT) (sc : SCT) (t9 : Int32) (out : Nat) (KL : ClassId) (ofn : Nat → Int64) (hx9 : ¬ (¬ t9 < 1 ∧ t9 ≤ 8)) (sz : Nat) : k_Wi (S := Unit) l D yL_setTolerance cL_setTolerance 4 (some .int) [(0, 9, 12, 13)] 7 1 6 104 [.ref (a 0), .int t9, .ref out] ((out, .inl (KL, 1, .inr (.inl ofn))) :: (WW a K KS st hs sc)) [(K, .int), (KS, .object "BarcodeWand$State"), (KL, .long)] (fun (r : Int32) (_ : Unit) => r = (1)) (fun _ => ((out, .inl (KL, 1, .inr (.inl ofn))) :: (WW a K KS st hs sc))) (fun _ => []) sz := by
  refine va_MetW (cc := cL_setTolerance) (maxL := 4) (ret := (some .int)) (hh := [(0, 9, 12, 13)]) (by decide) rfl ?_
  intro p e s m args below meth c s₁ B hml hv
  obtain ⟨rfl, hsz, hP, hK, hD0, hG⟩ := hv
  have hx := B.exec
  have hb := B.bytes
  have hr := B.returns
  have ht : ∀ v9 ∈ wsA, v9.before ([.ref (a 0), .int t9, .ref out] : List Value).toArray s = true := fun v9 h9 => atoms_spec (ws := Cond.codeWith yL_setTolerance cL_setTolerance 4 (some .int) [(0, 9, 12, 13)] :: wsA) B.pre v9 (List.mem_cons_of_mem _ h9)
  have htab : c.exceptionTable.toList = tableOf [(0, 9, 12, 13)] := vx_table (x := yL_setTolerance) B (atoms_spec (ws := Cond.codeWith yL_setTolerance cL_setTolerance 4 (some .int) [(0, 9, 12, 13)] :: wsA) B.pre _ List.mem_cons_self)
  have hown : s.vm.findClass RL = some m.cls := findClass_of_methodNamed B.named
  have S0 : k_C p s m ([.ref (a 0), .int t9, .ref out] : List Value).toArray c cL_setTolerance 4 RL := ⟨hx, hb, hml, hown, ht⟩
  have hlocks := B.notSynchronized
  subst hsz
  have hD := hD0.self (sz := s.heap.size)
  generalize hAe : va_A ((out, .inl (KL, 1, .inr (.inl ofn))) :: (WW a K KS st hs sc)) s.heap.size = A at hD hG ⊢
  have hA : ∀ q : Nat, s.heap.size ≤ q → A q := fun q h => by rw [← hAe]; exact Or.inr h
  have hS : va_S A s.heap s.heap [] := va_S.rf
  have hl := lv_entry ([.ref (a 0), .int t9, .ref out]) (n := 4) (Nat.le_of_ble_eq_true rfl)
  rw [lg_entry_eq]
  generalize (lg_sl ([.ref (a 0), .int t9, .ref out]) ++ List.replicate (4 - (lg_sl ([.ref (a 0), .int t9, .ref out])).length) Slot.unset).toArray = ls at hl ⊢
  have hl : lv_has ls 4 [(0, .ref (a 0)), (1, .int t9), (2, .ref out)] := hl
  have hP : va_P D vwCl ((out, .inl (KL, 1, .inr (.inl ofn))) :: (WW a K KS st hs sc)) s.heap := hP
  refine lv_aload_n hx hb dL_setTolerance_0 rfl (lv_at hl 2 rfl) ?_
  refine lv_iconst (v := 0) hx hb dL_setTolerance_1 (by decide) ?_
  refine lv_aload_n hx hb dL_setTolerance_2 rfl (lv_at hl 0 rfl) ?_
  refine lv_iload_n hx hb dL_setTolerance_3 rfl (lv_at hl 1 rfl) ?_
  have ct := k_cut_TT (wp := [(out, .inl (KL, 1, .inr (.inl ofn)))]) (T := (WW a K KS st hs sc)) (wc := []) (wr := [(out, .inl (KL, 1, .inr (.inl ofn)))]) (tc := [(K, .int), (KS, .object "BarcodeWand$State")]) hG hS hA hK hP hD [] [0] [0, 1] rfl rfl (by decide) (by decide) (by decide) rfl
  refine k_endXi (EX := fun E => E = "java/lang/IllegalArgumentException") (As := [.ref (a 0), .int t9]) ct (k_xrunV (As := [.int t9]) (rest := [.int 0, .ref out]) S0 Lv_L_39 rfl (ci := 7) (q0 := 0) rfl (WW_0 a K KS st hs sc) ct (c_B_setTolX l hst D a K KS st hs sc t9 (by assumption) s.heap.size) hl.1 rfl (Nat.le_of_ble_eq_true rfl) rfl dL_setTolerance_4 ⟨⟨Nat.le_of_ble_eq_true rfl, Nat.le_of_ble_eq_true rfl⟩, Nat.le_of_ble_eq_true rfl, Nat.le_of_ble_eq_true rfl⟩) rfl rfl ?_ (fun r_1 _ H locs hw_2 hP hD hK hS => ?_)
  · intro E ce q9 H locs hE hP hD hS hq9 hv9 hcl9
    try dsimp only at hE
    have hP : va_P D vwCl ((out, .inl (KL, 1, .inr (.inl ofn))) :: (WW a K KS st hs sc)) H := hP
    have hD : va_D A ((out, .inl (KL, 1, .inr (.inl ofn))) :: (WW a K KS st hs sc)) := hD
    subst hE
    refine vx_catch hown [] ⟨0, 9, 12, 13⟩ [] (by rw [htab]; rfl) (fun z9 h9 => absurd h9 List.not_mem_nil) (by decide) (by decide) (ht _ lc_L_13) (va_Nw.use rfl (hG.1 _ (List.mem_of_getElem? (i := 580) rfl) rfl)) hq9 hv9 hcl9 ?_
    refine lv_astore_n (lv' := [(3, .ref q9), (0, .ref (a 0)), (1, .int t9), (2, .ref out)]) hx hb dL_setTolerance_12 rfl hl (by decide) rfl (fun ls hl => ?_)
    refine lv_iconst (v := 1) hx hb dL_setTolerance_13 (by decide) ?_
    have hP9 : va_P D vwCl ((out, .inl (KL, 1, .inr (.inl ofn))) :: (WW a K KS st hs sc)) H := k_subP (wp := [(out, .inl (KL, 1, .inr (.inl ofn)))]) (wp' := [(out, .inl (KL, 1, .inr (.inl ofn)))]) (T := (WW a K KS st hs sc)) hP [0] rfl
    have hD9 : va_D A ((out, .inl (KL, 1, .inr (.inl ofn))) :: (WW a K KS st hs sc)) := k_subD (wp := [(out, .inl (KL, 1, .inr (.inl ofn)))]) (wp' := [(out, .inl (KL, 1, .inr (.inl ofn)))]) (T := (WW a K KS st hs sc)) hD [0] (by decide) rfl
    have hP9 : va_P D vwCl ((out, .inl (KL, 1, .inr (.inl ofn))) :: (WW a K KS st hs sc)) H := hP9
    have hD9 : va_D A ((out, .inl (KL, 1, .inr (.inl ofn))) :: (WW a K KS st hs sc)) := hD9
    have hK9 : va_K D vwCl [] s := hK.sub [] rfl
    exact W.iret (v := 1) hx hb hr (fun t ht9 hW9 => ⟨⟨1, (), rfl, by first | rfl | trivial | (simp only [if_true, if_false, reduceIte, and_self]; done) | simp_all, ⟨by rw [ht9]; exact hP9, va_K.moved hW9.alike hK9, hD9⟩⟩, hS.F ht9⟩) hS.2.2 dL_setTolerance_14
  have hK : va_K D vwCl [(K, .int), (KS, .object "BarcodeWand$State"), (KL, .long)] s := hK
  have hP : va_P D vwCl ((out, .inl (KL, 1, .inr (.inl ofn))) :: (WW a K KS st hs sc)) H := hP
  have hD : va_D A ((out, .inl (KL, 1, .inr (.inl ofn))) :: (WW a K KS st hs sc)) := hD
  exact hw_2.elim
set_option maxHeartbeats 4000000 in
set_option maxRecDepth 100000 in
theorem c_L_digitX (l : Launch) (hst : l.stackTraces = false) (D : va_G) (a : Nat → Nat) (K : ClassId) (KS : ClassId) (st : ST) (hs : HT) (sc : SCT) (v : Int32) (out : Nat) (KL : ClassId) (ofn : Nat → Int64) (hxi : inR v (nI 9) = 0) (sz : Nat) : k_Wi (S := Unit) l D yL_digit cL_digit 4 (some .int) [(0, 9, 12, 18)] 7 1 6 104 [.ref (a 0), .int v, .ref out] ((out, .inl (KL, 1, .inr (.inl ofn))) :: (WW a K KS st hs sc)) [(K, .int), (KS, .object "BarcodeWand$State"), (KL, .long)] (fun (r : Int32) (_ : Unit) => r = (1)) (fun _ => ((out, .inl (KL, 1, .inr (.inl ofn))) :: (WW a K KS st hs sc))) (fun _ => []) sz := by
  refine va_MetW (cc := cL_digit) (maxL := 4) (ret := (some .int)) (hh := [(0, 9, 12, 18)]) (by decide) rfl ?_
  intro p e s m args below meth c s₁ B hml hv
  obtain ⟨rfl, hsz, hP, hK, hD0, hG⟩ := hv
  have hx := B.exec
  have hb := B.bytes
  have hr := B.returns
  have ht : ∀ v9 ∈ wsA, v9.before ([.ref (a 0), .int v, .ref out] : List Value).toArray s = true := fun v9 h9 => atoms_spec (ws := Cond.codeWith yL_digit cL_digit 4 (some .int) [(0, 9, 12, 18)] :: wsA) B.pre v9 (List.mem_cons_of_mem _ h9)
  have htab : c.exceptionTable.toList = tableOf [(0, 9, 12, 18)] := vx_table (x := yL_digit) B (atoms_spec (ws := Cond.codeWith yL_digit cL_digit 4 (some .int) [(0, 9, 12, 18)] :: wsA) B.pre _ List.mem_cons_self)
  have hown : s.vm.findClass RL = some m.cls := findClass_of_methodNamed B.named
  have S0 : k_C p s m ([.ref (a 0), .int v, .ref out] : List Value).toArray c cL_digit 4 RL := ⟨hx, hb, hml, hown, ht⟩
  have hlocks := B.notSynchronized
  subst hsz
  have hD := hD0.self (sz := s.heap.size)
  generalize hAe : va_A ((out, .inl (KL, 1, .inr (.inl ofn))) :: (WW a K KS st hs sc)) s.heap.size = A at hD hG ⊢
  have hA : ∀ q : Nat, s.heap.size ≤ q → A q := fun q h => by rw [← hAe]; exact Or.inr h
  have hS : va_S A s.heap s.heap [] := va_S.rf
  have hl := lv_entry ([.ref (a 0), .int v, .ref out]) (n := 4) (Nat.le_of_ble_eq_true rfl)
  rw [lg_entry_eq]
  generalize (lg_sl ([.ref (a 0), .int v, .ref out]) ++ List.replicate (4 - (lg_sl ([.ref (a 0), .int v, .ref out])).length) Slot.unset).toArray = ls at hl ⊢
  have hl : lv_has ls 4 [(0, .ref (a 0)), (1, .int v), (2, .ref out)] := hl
  have hP : va_P D vwCl ((out, .inl (KL, 1, .inr (.inl ofn))) :: (WW a K KS st hs sc)) s.heap := hP
  refine lv_aload_n hx hb dL_digit_0 rfl (lv_at hl 2 rfl) ?_
  refine lv_iconst (v := 0) hx hb dL_digit_1 (by decide) ?_
  refine lv_aload_n hx hb dL_digit_2 rfl (lv_at hl 0 rfl) ?_
  refine lv_iload_n hx hb dL_digit_3 rfl (lv_at hl 1 rfl) ?_
  have ct := k_cut_TT (wp := [(out, .inl (KL, 1, .inr (.inl ofn)))]) (T := (WW a K KS st hs sc)) (wc := []) (wr := [(out, .inl (KL, 1, .inr (.inl ofn)))]) (tc := [(K, .int), (KS, .object "BarcodeWand$State")]) hG hS hA hK hP hD [] [0] [0, 1] rfl rfl (by decide) (by decide) (by decide) rfl
  refine k_endXi (EX := fun E => E = "java/lang/IndexOutOfBoundsException") (As := [.ref (a 0), .int v]) ct (k_xrunV (As := [.int v]) (rest := [.int 0, .ref out]) S0 Lv_L_42 rfl (ci := 7) (q0 := 0) rfl (WW_0 a K KS st hs sc) ct (c_B_digitX l hst D a K KS st hs sc v (by assumption) s.heap.size) hl.1 rfl (Nat.le_of_ble_eq_true rfl) rfl dL_digit_4 ⟨⟨Nat.le_of_ble_eq_true rfl, Nat.le_of_ble_eq_true rfl⟩, Nat.le_of_ble_eq_true rfl, Nat.le_of_ble_eq_true rfl⟩) rfl rfl ?_ (fun r_1 _ H locs hw_2 hP hD hK hS => ?_)
  · intro E ce q9 H locs hE hP hD hS hq9 hv9 hcl9
    try dsimp only at hE
    have hP : va_P D vwCl ((out, .inl (KL, 1, .inr (.inl ofn))) :: (WW a K KS st hs sc)) H := hP
    have hD : va_D A ((out, .inl (KL, 1, .inr (.inl ofn))) :: (WW a K KS st hs sc)) := hD
    subst hE
    refine vx_catch hown [] ⟨0, 9, 12, 18⟩ [] (by rw [htab]; rfl) (fun z9 h9 => absurd h9 List.not_mem_nil) (by decide) (by decide) (ht _ lc_L_18) (va_Nw.use rfl (hG.1 _ (List.mem_of_getElem? (i := 486) rfl) rfl)) hq9 hv9 hcl9 ?_
    refine lv_astore_n (lv' := [(3, .ref q9), (0, .ref (a 0)), (1, .int v), (2, .ref out)]) hx hb dL_digit_12 rfl hl (by decide) rfl (fun ls hl => ?_)
    refine lv_iconst (v := 1) hx hb dL_digit_13 (by decide) ?_
    have hP9 : va_P D vwCl ((out, .inl (KL, 1, .inr (.inl ofn))) :: (WW a K KS st hs sc)) H := k_subP (wp := [(out, .inl (KL, 1, .inr (.inl ofn)))]) (wp' := [(out, .inl (KL, 1, .inr (.inl ofn)))]) (T := (WW a K KS st hs sc)) hP [0] rfl
    have hD9 : va_D A ((out, .inl (KL, 1, .inr (.inl ofn))) :: (WW a K KS st hs sc)) := k_subD (wp := [(out, .inl (KL, 1, .inr (.inl ofn)))]) (wp' := [(out, .inl (KL, 1, .inr (.inl ofn)))]) (T := (WW a K KS st hs sc)) hD [0] (by decide) rfl
    have hP9 : va_P D vwCl ((out, .inl (KL, 1, .inr (.inl ofn))) :: (WW a K KS st hs sc)) H := hP9
    have hD9 : va_D A ((out, .inl (KL, 1, .inr (.inl ofn))) :: (WW a K KS st hs sc)) := hD9
    have hK9 : va_K D vwCl [] s := hK.sub [] rfl
    exact W.iret (v := 1) hx hb hr (fun t ht9 hW9 => ⟨⟨1, (), rfl, by first | rfl | trivial | (simp only [if_true, if_false, reduceIte, and_self]; done) | simp_all, ⟨by rw [ht9]; exact hP9, va_K.moved hW9.alike hK9, hD9⟩⟩, hS.F ht9⟩) hS.2.2 dL_digit_14
  have hK : va_K D vwCl [(K, .int), (KS, .object "BarcodeWand$State"), (KL, .long)] s := hK
  have hP : va_P D vwCl ((out, .inl (KL, 1, .inr (.inl ofn))) :: (WW a K KS st hs sc)) H := hP
  have hD : va_D A ((out, .inl (KL, 1, .inr (.inl ofn))) :: (WW a K KS st hs sc)) := hD
  exact hw_2.elim
set_option maxHeartbeats 4000000 in
set_option maxRecDepth 100000 in
theorem c_L_nearestX (l : Launch) (hst : l.stackTraces = false) (D : va_G) (a : Nat → Nat) (K : ClassId) (KS : ClassId) (st : ST) (hs : HT) (sc : SCT) (v : Int32) (out : Nat) (KL : ClassId) (ofn : Nat → Int64) (hn9 : v < 0 ∨ nI (s_tn st) - 4 < v) (sz : Nat) : k_Wi (S := Unit) l D yL_nearest cL_nearest 4 (some .int) [(0, 9, 12, 18)] 7 1 6 103 [.ref (a 0), .int v, .ref out] ((out, .inl (KL, 1, .inr (.inl ofn))) :: (WW a K KS st hs sc)) [(K, .int), (KS, .object "BarcodeWand$State"), (KL, .long)] (fun (r : Int32) (_ : Unit) => r = (1)) (fun _ => ((out, .inl (KL, 1, .inr (.inl ofn))) :: (WW a K KS st hs sc))) (fun _ => []) sz := by
  refine va_MetW (cc := cL_nearest) (maxL := 4) (ret := (some .int)) (hh := [(0, 9, 12, 18)]) (by decide) rfl ?_
  intro p e s m args below meth c s₁ B hml hv
  obtain ⟨rfl, hsz, hP, hK, hD0, hG⟩ := hv
  have hx := B.exec
  have hb := B.bytes
  have hr := B.returns
  have ht : ∀ v9 ∈ wsA, v9.before ([.ref (a 0), .int v, .ref out] : List Value).toArray s = true := fun v9 h9 => atoms_spec (ws := Cond.codeWith yL_nearest cL_nearest 4 (some .int) [(0, 9, 12, 18)] :: wsA) B.pre v9 (List.mem_cons_of_mem _ h9)
  have htab : c.exceptionTable.toList = tableOf [(0, 9, 12, 18)] := vx_table (x := yL_nearest) B (atoms_spec (ws := Cond.codeWith yL_nearest cL_nearest 4 (some .int) [(0, 9, 12, 18)] :: wsA) B.pre _ List.mem_cons_self)
  have hown : s.vm.findClass RL = some m.cls := findClass_of_methodNamed B.named
  have S0 : k_C p s m ([.ref (a 0), .int v, .ref out] : List Value).toArray c cL_nearest 4 RL := ⟨hx, hb, hml, hown, ht⟩
  have hlocks := B.notSynchronized
  subst hsz
  have hD := hD0.self (sz := s.heap.size)
  generalize hAe : va_A ((out, .inl (KL, 1, .inr (.inl ofn))) :: (WW a K KS st hs sc)) s.heap.size = A at hD hG ⊢
  have hA : ∀ q : Nat, s.heap.size ≤ q → A q := fun q h => by rw [← hAe]; exact Or.inr h
  have hS : va_S A s.heap s.heap [] := va_S.rf
  have hl := lv_entry ([.ref (a 0), .int v, .ref out]) (n := 4) (Nat.le_of_ble_eq_true rfl)
  rw [lg_entry_eq]
  generalize (lg_sl ([.ref (a 0), .int v, .ref out]) ++ List.replicate (4 - (lg_sl ([.ref (a 0), .int v, .ref out])).length) Slot.unset).toArray = ls at hl ⊢
  have hl : lv_has ls 4 [(0, .ref (a 0)), (1, .int v), (2, .ref out)] := hl
  have hP : va_P D vwCl ((out, .inl (KL, 1, .inr (.inl ofn))) :: (WW a K KS st hs sc)) s.heap := hP
  refine lv_aload_n hx hb dL_nearest_0 rfl (lv_at hl 2 rfl) ?_
  refine lv_iconst (v := 0) hx hb dL_nearest_1 (by decide) ?_
  refine lv_aload_n hx hb dL_nearest_2 rfl (lv_at hl 0 rfl) ?_
  refine lv_iload_n hx hb dL_nearest_3 rfl (lv_at hl 1 rfl) ?_
  have ct := k_cut_TT (wp := [(out, .inl (KL, 1, .inr (.inl ofn)))]) (T := (WW a K KS st hs sc)) (wc := []) (wr := [(out, .inl (KL, 1, .inr (.inl ofn)))]) (tc := [(K, .int), (KS, .object "BarcodeWand$State")]) hG hS hA hK hP hD [] [0] [0, 1] rfl rfl (by decide) (by decide) (by decide) rfl
  refine k_endXi (EX := fun E => E = "java/lang/IndexOutOfBoundsException") (As := [.ref (a 0), .int v]) ct (k_xrunV (As := [.int v]) (rest := [.int 0, .ref out]) S0 Lv_L_45 rfl (ci := 7) (q0 := 0) rfl (WW_0 a K KS st hs sc) ct (c_B_nearestX l hst D a K KS st hs sc v (by assumption) s.heap.size) hl.1 rfl (Nat.le_of_ble_eq_true rfl) rfl dL_nearest_4 ⟨⟨Nat.le_of_ble_eq_true rfl, Nat.le_of_ble_eq_true rfl⟩, Nat.le_of_ble_eq_true rfl, Nat.le_of_ble_eq_true rfl⟩) rfl rfl ?_ (fun r_1 _ H locs hw_2 hP hD hK hS => ?_)
  · intro E ce q9 H locs hE hP hD hS hq9 hv9 hcl9
    try dsimp only at hE
    have hP : va_P D vwCl ((out, .inl (KL, 1, .inr (.inl ofn))) :: (WW a K KS st hs sc)) H := hP
    have hD : va_D A ((out, .inl (KL, 1, .inr (.inl ofn))) :: (WW a K KS st hs sc)) := hD
    subst hE
    refine vx_catch hown [] ⟨0, 9, 12, 18⟩ [] (by rw [htab]; rfl) (fun z9 h9 => absurd h9 List.not_mem_nil) (by decide) (by decide) (ht _ lc_L_18) (va_Nw.use rfl (hG.1 _ (List.mem_of_getElem? (i := 486) rfl) rfl)) hq9 hv9 hcl9 ?_
    refine lv_astore_n (lv' := [(3, .ref q9), (0, .ref (a 0)), (1, .int v), (2, .ref out)]) hx hb dL_nearest_12 rfl hl (by decide) rfl (fun ls hl => ?_)
    refine lv_iconst (v := 1) hx hb dL_nearest_13 (by decide) ?_
    have hP9 : va_P D vwCl ((out, .inl (KL, 1, .inr (.inl ofn))) :: (WW a K KS st hs sc)) H := k_subP (wp := [(out, .inl (KL, 1, .inr (.inl ofn)))]) (wp' := [(out, .inl (KL, 1, .inr (.inl ofn)))]) (T := (WW a K KS st hs sc)) hP [0] rfl
    have hD9 : va_D A ((out, .inl (KL, 1, .inr (.inl ofn))) :: (WW a K KS st hs sc)) := k_subD (wp := [(out, .inl (KL, 1, .inr (.inl ofn)))]) (wp' := [(out, .inl (KL, 1, .inr (.inl ofn)))]) (T := (WW a K KS st hs sc)) hD [0] (by decide) rfl
    have hP9 : va_P D vwCl ((out, .inl (KL, 1, .inr (.inl ofn))) :: (WW a K KS st hs sc)) H := hP9
    have hD9 : va_D A ((out, .inl (KL, 1, .inr (.inl ofn))) :: (WW a K KS st hs sc)) := hD9
    have hK9 : va_K D vwCl [] s := hK.sub [] rfl
    exact W.iret (v := 1) hx hb hr (fun t ht9 hW9 => ⟨⟨1, (), rfl, by first | rfl | trivial | (simp only [if_true, if_false, reduceIte, and_self]; done) | simp_all, ⟨by rw [ht9]; exact hP9, va_K.moved hW9.alike hK9, hD9⟩⟩, hS.F ht9⟩) hS.2.2 dL_nearest_14
  have hK : va_K D vwCl [(K, .int), (KS, .object "BarcodeWand$State"), (KL, .long)] s := hK
  have hP : va_P D vwCl ((out, .inl (KL, 1, .inr (.inl ofn))) :: (WW a K KS st hs sc)) H := hP
  have hD : va_D A ((out, .inl (KL, 1, .inr (.inl ofn))) :: (WW a K KS st hs sc)) := hD
  exact hw_2.elim
set_option maxHeartbeats 4000000 in
set_option maxRecDepth 100000 in
theorem c_L_codeX (l : Launch) (hst : l.stackTraces = false) (D : va_G) (a : Nat → Nat) (K : ClassId) (KS : ClassId) (st : ST) (hs : HT) (sc : SCT) (v : Int32) (out : Nat) (KL : ClassId) (ofn : Nat → Int64) (hxi : inR v (nI (s_k st)) = 0) (sz : Nat) : k_Wi (S := Unit) l D yL_code cL_code 4 (some .int) [(0, 9, 12, 18)] 8 1 6 124 [.ref (a 0), .int v, .ref out] ((out, .inl (KL, 1, .inr (.inl ofn))) :: (WW a K KS st hs sc)) [(K, .int), (KS, .object "BarcodeWand$State"), (KL, .long)] (fun (r : Int32) (_ : Unit) => r = (1)) (fun _ => ((out, .inl (KL, 1, .inr (.inl ofn))) :: (WW a K KS st hs sc))) (fun _ => []) sz := by
  refine va_MetW (cc := cL_code) (maxL := 4) (ret := (some .int)) (hh := [(0, 9, 12, 18)]) (by decide) rfl ?_
  intro p e s m args below meth c s₁ B hml hv
  obtain ⟨rfl, hsz, hP, hK, hD0, hG⟩ := hv
  have hx := B.exec
  have hb := B.bytes
  have hr := B.returns
  have ht : ∀ v9 ∈ wsA, v9.before ([.ref (a 0), .int v, .ref out] : List Value).toArray s = true := fun v9 h9 => atoms_spec (ws := Cond.codeWith yL_code cL_code 4 (some .int) [(0, 9, 12, 18)] :: wsA) B.pre v9 (List.mem_cons_of_mem _ h9)
  have htab : c.exceptionTable.toList = tableOf [(0, 9, 12, 18)] := vx_table (x := yL_code) B (atoms_spec (ws := Cond.codeWith yL_code cL_code 4 (some .int) [(0, 9, 12, 18)] :: wsA) B.pre _ List.mem_cons_self)
  have hown : s.vm.findClass RL = some m.cls := findClass_of_methodNamed B.named
  have S0 : k_C p s m ([.ref (a 0), .int v, .ref out] : List Value).toArray c cL_code 4 RL := ⟨hx, hb, hml, hown, ht⟩
  have hlocks := B.notSynchronized
  subst hsz
  have hD := hD0.self (sz := s.heap.size)
  generalize hAe : va_A ((out, .inl (KL, 1, .inr (.inl ofn))) :: (WW a K KS st hs sc)) s.heap.size = A at hD hG ⊢
  have hA : ∀ q : Nat, s.heap.size ≤ q → A q := fun q h => by rw [← hAe]; exact Or.inr h
  have hS : va_S A s.heap s.heap [] := va_S.rf
  have hl := lv_entry ([.ref (a 0), .int v, .ref out]) (n := 4) (Nat.le_of_ble_eq_true rfl)
  rw [lg_entry_eq]
  generalize (lg_sl ([.ref (a 0), .int v, .ref out]) ++ List.replicate (4 - (lg_sl ([.ref (a 0), .int v, .ref out])).length) Slot.unset).toArray = ls at hl ⊢
  have hl : lv_has ls 4 [(0, .ref (a 0)), (1, .int v), (2, .ref out)] := hl
  have hP : va_P D vwCl ((out, .inl (KL, 1, .inr (.inl ofn))) :: (WW a K KS st hs sc)) s.heap := hP
  refine lv_aload_n hx hb dL_code_0 rfl (lv_at hl 2 rfl) ?_
  refine lv_iconst (v := 0) hx hb dL_code_1 (by decide) ?_
  refine lv_aload_n hx hb dL_code_2 rfl (lv_at hl 0 rfl) ?_
  refine lv_iload_n hx hb dL_code_3 rfl (lv_at hl 1 rfl) ?_
  have ct := k_cut_TT (wp := [(out, .inl (KL, 1, .inr (.inl ofn)))]) (T := (WW a K KS st hs sc)) (wc := []) (wr := [(out, .inl (KL, 1, .inr (.inl ofn)))]) (tc := [(K, .int), (KS, .object "BarcodeWand$State")]) hG hS hA hK hP hD [] [0] [0, 1] rfl rfl (by decide) (by decide) (by decide) rfl
  refine k_endXi (EX := fun E => E = "java/lang/IndexOutOfBoundsException") (As := [.ref (a 0), .int v]) ct (k_xrunV (As := [.int v]) (rest := [.int 0, .ref out]) S0 Lv_L_48 rfl (ci := 7) (q0 := 0) rfl (WW_0 a K KS st hs sc) ct (c_B_codeX l hst D a K KS st hs sc v (by assumption) s.heap.size) hl.1 rfl (Nat.le_of_ble_eq_true rfl) rfl dL_code_4 ⟨⟨Nat.le_of_ble_eq_true rfl, Nat.le_of_ble_eq_true rfl⟩, Nat.le_of_ble_eq_true rfl, Nat.le_of_ble_eq_true rfl⟩) rfl rfl ?_ (fun r_1 _ H locs hw_2 hP hD hK hS => ?_)
  · intro E ce q9 H locs hE hP hD hS hq9 hv9 hcl9
    try dsimp only at hE
    have hP : va_P D vwCl ((out, .inl (KL, 1, .inr (.inl ofn))) :: (WW a K KS st hs sc)) H := hP
    have hD : va_D A ((out, .inl (KL, 1, .inr (.inl ofn))) :: (WW a K KS st hs sc)) := hD
    subst hE
    refine vx_catch hown [] ⟨0, 9, 12, 18⟩ [] (by rw [htab]; rfl) (fun z9 h9 => absurd h9 List.not_mem_nil) (by decide) (by decide) (ht _ lc_L_18) (va_Nw.use rfl (hG.1 _ (List.mem_of_getElem? (i := 486) rfl) rfl)) hq9 hv9 hcl9 ?_
    refine lv_astore_n (lv' := [(3, .ref q9), (0, .ref (a 0)), (1, .int v), (2, .ref out)]) hx hb dL_code_12 rfl hl (by decide) rfl (fun ls hl => ?_)
    refine lv_iconst (v := 1) hx hb dL_code_13 (by decide) ?_
    have hP9 : va_P D vwCl ((out, .inl (KL, 1, .inr (.inl ofn))) :: (WW a K KS st hs sc)) H := k_subP (wp := [(out, .inl (KL, 1, .inr (.inl ofn)))]) (wp' := [(out, .inl (KL, 1, .inr (.inl ofn)))]) (T := (WW a K KS st hs sc)) hP [0] rfl
    have hD9 : va_D A ((out, .inl (KL, 1, .inr (.inl ofn))) :: (WW a K KS st hs sc)) := k_subD (wp := [(out, .inl (KL, 1, .inr (.inl ofn)))]) (wp' := [(out, .inl (KL, 1, .inr (.inl ofn)))]) (T := (WW a K KS st hs sc)) hD [0] (by decide) rfl
    have hP9 : va_P D vwCl ((out, .inl (KL, 1, .inr (.inl ofn))) :: (WW a K KS st hs sc)) H := hP9
    have hD9 : va_D A ((out, .inl (KL, 1, .inr (.inl ofn))) :: (WW a K KS st hs sc)) := hD9
    have hK9 : va_K D vwCl [] s := hK.sub [] rfl
    exact W.iret (v := 1) hx hb hr (fun t ht9 hW9 => ⟨⟨1, (), rfl, by first | rfl | trivial | (simp only [if_true, if_false, reduceIte, and_self]; done) | simp_all, ⟨by rw [ht9]; exact hP9, va_K.moved hW9.alike hK9, hD9⟩⟩, hS.F ht9⟩) hS.2.2 dL_code_14
  have hK : va_K D vwCl [(K, .int), (KS, .object "BarcodeWand$State"), (KL, .long)] s := hK
  have hP : va_P D vwCl ((out, .inl (KL, 1, .inr (.inl ofn))) :: (WW a K KS st hs sc)) H := hP
  have hD : va_D A ((out, .inl (KL, 1, .inr (.inl ofn))) :: (WW a K KS st hs sc)) := hD
  exact hw_2.elim
set_option maxHeartbeats 4000000 in
set_option maxRecDepth 100000 in
theorem c_L_codeLengthX (l : Launch) (hst : l.stackTraces = false) (D : va_G) (a : Nat → Nat) (K : ClassId) (KS : ClassId) (st : ST) (hs : HT) (sc : SCT) (v : Int32) (out : Nat) (KL : ClassId) (ofn : Nat → Int64) (hxi : inR v (nI (s_k st)) = 0) (sz : Nat) : k_Wi (S := Unit) l D yL_codeLength cL_codeLength 4 (some .int) [(0, 9, 12, 18)] 8 1 6 124 [.ref (a 0), .int v, .ref out] ((out, .inl (KL, 1, .inr (.inl ofn))) :: (WW a K KS st hs sc)) [(K, .int), (KS, .object "BarcodeWand$State"), (KL, .long)] (fun (r : Int32) (_ : Unit) => r = (1)) (fun _ => ((out, .inl (KL, 1, .inr (.inl ofn))) :: (WW a K KS st hs sc))) (fun _ => []) sz := by
  refine va_MetW (cc := cL_codeLength) (maxL := 4) (ret := (some .int)) (hh := [(0, 9, 12, 18)]) (by decide) rfl ?_
  intro p e s m args below meth c s₁ B hml hv
  obtain ⟨rfl, hsz, hP, hK, hD0, hG⟩ := hv
  have hx := B.exec
  have hb := B.bytes
  have hr := B.returns
  have ht : ∀ v9 ∈ wsA, v9.before ([.ref (a 0), .int v, .ref out] : List Value).toArray s = true := fun v9 h9 => atoms_spec (ws := Cond.codeWith yL_codeLength cL_codeLength 4 (some .int) [(0, 9, 12, 18)] :: wsA) B.pre v9 (List.mem_cons_of_mem _ h9)
  have htab : c.exceptionTable.toList = tableOf [(0, 9, 12, 18)] := vx_table (x := yL_codeLength) B (atoms_spec (ws := Cond.codeWith yL_codeLength cL_codeLength 4 (some .int) [(0, 9, 12, 18)] :: wsA) B.pre _ List.mem_cons_self)
  have hown : s.vm.findClass RL = some m.cls := findClass_of_methodNamed B.named
  have S0 : k_C p s m ([.ref (a 0), .int v, .ref out] : List Value).toArray c cL_codeLength 4 RL := ⟨hx, hb, hml, hown, ht⟩
  have hlocks := B.notSynchronized
  subst hsz
  have hD := hD0.self (sz := s.heap.size)
  generalize hAe : va_A ((out, .inl (KL, 1, .inr (.inl ofn))) :: (WW a K KS st hs sc)) s.heap.size = A at hD hG ⊢
  have hA : ∀ q : Nat, s.heap.size ≤ q → A q := fun q h => by rw [← hAe]; exact Or.inr h
  have hS : va_S A s.heap s.heap [] := va_S.rf
  have hl := lv_entry ([.ref (a 0), .int v, .ref out]) (n := 4) (Nat.le_of_ble_eq_true rfl)
  rw [lg_entry_eq]
  generalize (lg_sl ([.ref (a 0), .int v, .ref out]) ++ List.replicate (4 - (lg_sl ([.ref (a 0), .int v, .ref out])).length) Slot.unset).toArray = ls at hl ⊢
  have hl : lv_has ls 4 [(0, .ref (a 0)), (1, .int v), (2, .ref out)] := hl
  have hP : va_P D vwCl ((out, .inl (KL, 1, .inr (.inl ofn))) :: (WW a K KS st hs sc)) s.heap := hP
  refine lv_aload_n hx hb dL_codeLength_0 rfl (lv_at hl 2 rfl) ?_
  refine lv_iconst (v := 0) hx hb dL_codeLength_1 (by decide) ?_
  refine lv_aload_n hx hb dL_codeLength_2 rfl (lv_at hl 0 rfl) ?_
  refine lv_iload_n hx hb dL_codeLength_3 rfl (lv_at hl 1 rfl) ?_
  have ct := k_cut_TT (wp := [(out, .inl (KL, 1, .inr (.inl ofn)))]) (T := (WW a K KS st hs sc)) (wc := []) (wr := [(out, .inl (KL, 1, .inr (.inl ofn)))]) (tc := [(K, .int), (KS, .object "BarcodeWand$State")]) hG hS hA hK hP hD [] [0] [0, 1] rfl rfl (by decide) (by decide) (by decide) rfl
  refine k_endXi (EX := fun E => E = "java/lang/IndexOutOfBoundsException") (As := [.ref (a 0), .int v]) ct (k_xrunV (As := [.int v]) (rest := [.int 0, .ref out]) S0 Lv_L_51 rfl (ci := 7) (q0 := 0) rfl (WW_0 a K KS st hs sc) ct (c_B_codeLengthX l hst D a K KS st hs sc v (by assumption) s.heap.size) hl.1 rfl (Nat.le_of_ble_eq_true rfl) rfl dL_codeLength_4 ⟨⟨Nat.le_of_ble_eq_true rfl, Nat.le_of_ble_eq_true rfl⟩, Nat.le_of_ble_eq_true rfl, Nat.le_of_ble_eq_true rfl⟩) rfl rfl ?_ (fun r_1 _ H locs hw_2 hP hD hK hS => ?_)
  · intro E ce q9 H locs hE hP hD hS hq9 hv9 hcl9
    try dsimp only at hE
    have hP : va_P D vwCl ((out, .inl (KL, 1, .inr (.inl ofn))) :: (WW a K KS st hs sc)) H := hP
    have hD : va_D A ((out, .inl (KL, 1, .inr (.inl ofn))) :: (WW a K KS st hs sc)) := hD
    subst hE
    refine vx_catch hown [] ⟨0, 9, 12, 18⟩ [] (by rw [htab]; rfl) (fun z9 h9 => absurd h9 List.not_mem_nil) (by decide) (by decide) (ht _ lc_L_18) (va_Nw.use rfl (hG.1 _ (List.mem_of_getElem? (i := 486) rfl) rfl)) hq9 hv9 hcl9 ?_
    refine lv_astore_n (lv' := [(3, .ref q9), (0, .ref (a 0)), (1, .int v), (2, .ref out)]) hx hb dL_codeLength_12 rfl hl (by decide) rfl (fun ls hl => ?_)
    refine lv_iconst (v := 1) hx hb dL_codeLength_13 (by decide) ?_
    have hP9 : va_P D vwCl ((out, .inl (KL, 1, .inr (.inl ofn))) :: (WW a K KS st hs sc)) H := k_subP (wp := [(out, .inl (KL, 1, .inr (.inl ofn)))]) (wp' := [(out, .inl (KL, 1, .inr (.inl ofn)))]) (T := (WW a K KS st hs sc)) hP [0] rfl
    have hD9 : va_D A ((out, .inl (KL, 1, .inr (.inl ofn))) :: (WW a K KS st hs sc)) := k_subD (wp := [(out, .inl (KL, 1, .inr (.inl ofn)))]) (wp' := [(out, .inl (KL, 1, .inr (.inl ofn)))]) (T := (WW a K KS st hs sc)) hD [0] (by decide) rfl
    have hP9 : va_P D vwCl ((out, .inl (KL, 1, .inr (.inl ofn))) :: (WW a K KS st hs sc)) H := hP9
    have hD9 : va_D A ((out, .inl (KL, 1, .inr (.inl ofn))) :: (WW a K KS st hs sc)) := hD9
    have hK9 : va_K D vwCl [] s := hK.sub [] rfl
    exact W.iret (v := 1) hx hb hr (fun t ht9 hW9 => ⟨⟨1, (), rfl, by first | rfl | trivial | (simp only [if_true, if_false, reduceIte, and_self]; done) | simp_all, ⟨by rw [ht9]; exact hP9, va_K.moved hW9.alike hK9, hD9⟩⟩, hS.F ht9⟩) hS.2.2 dL_codeLength_14
  have hK : va_K D vwCl [(K, .int), (KS, .object "BarcodeWand$State"), (KL, .long)] s := hK
  have hP : va_P D vwCl ((out, .inl (KL, 1, .inr (.inl ofn))) :: (WW a K KS st hs sc)) H := hP
  have hD : va_D A ((out, .inl (KL, 1, .inr (.inl ofn))) :: (WW a K KS st hs sc)) := hD
  exact hw_2.elim
set_option maxHeartbeats 4000000 in
set_option maxRecDepth 100000 in
theorem c_L_countX (l : Launch) (hst : l.stackTraces = false) (D : va_G) (a : Nat → Nat) (K : ClassId) (KS : ClassId) (st : ST) (hs : HT) (sc : SCT) (v : Int32) (out : Nat) (KL : ClassId) (ofn : Nat → Int64) (hxi : inR v (nI (s_k st)) = 0) (sz : Nat) : k_Wi (S := Unit) l D yL_count cL_count 4 (some .int) [(0, 9, 12, 18)] 8 1 6 124 [.ref (a 0), .int v, .ref out] ((out, .inl (KL, 1, .inr (.inl ofn))) :: (WW a K KS st hs sc)) [(K, .int), (KS, .object "BarcodeWand$State"), (KL, .long)] (fun (r : Int32) (_ : Unit) => r = (1)) (fun _ => ((out, .inl (KL, 1, .inr (.inl ofn))) :: (WW a K KS st hs sc))) (fun _ => []) sz := by
  refine va_MetW (cc := cL_count) (maxL := 4) (ret := (some .int)) (hh := [(0, 9, 12, 18)]) (by decide) rfl ?_
  intro p e s m args below meth c s₁ B hml hv
  obtain ⟨rfl, hsz, hP, hK, hD0, hG⟩ := hv
  have hx := B.exec
  have hb := B.bytes
  have hr := B.returns
  have ht : ∀ v9 ∈ wsA, v9.before ([.ref (a 0), .int v, .ref out] : List Value).toArray s = true := fun v9 h9 => atoms_spec (ws := Cond.codeWith yL_count cL_count 4 (some .int) [(0, 9, 12, 18)] :: wsA) B.pre v9 (List.mem_cons_of_mem _ h9)
  have htab : c.exceptionTable.toList = tableOf [(0, 9, 12, 18)] := vx_table (x := yL_count) B (atoms_spec (ws := Cond.codeWith yL_count cL_count 4 (some .int) [(0, 9, 12, 18)] :: wsA) B.pre _ List.mem_cons_self)
  have hown : s.vm.findClass RL = some m.cls := findClass_of_methodNamed B.named
  have S0 : k_C p s m ([.ref (a 0), .int v, .ref out] : List Value).toArray c cL_count 4 RL := ⟨hx, hb, hml, hown, ht⟩
  have hlocks := B.notSynchronized
  subst hsz
  have hD := hD0.self (sz := s.heap.size)
  generalize hAe : va_A ((out, .inl (KL, 1, .inr (.inl ofn))) :: (WW a K KS st hs sc)) s.heap.size = A at hD hG ⊢
  have hA : ∀ q : Nat, s.heap.size ≤ q → A q := fun q h => by rw [← hAe]; exact Or.inr h
  have hS : va_S A s.heap s.heap [] := va_S.rf
  have hl := lv_entry ([.ref (a 0), .int v, .ref out]) (n := 4) (Nat.le_of_ble_eq_true rfl)
  rw [lg_entry_eq]
  generalize (lg_sl ([.ref (a 0), .int v, .ref out]) ++ List.replicate (4 - (lg_sl ([.ref (a 0), .int v, .ref out])).length) Slot.unset).toArray = ls at hl ⊢
  have hl : lv_has ls 4 [(0, .ref (a 0)), (1, .int v), (2, .ref out)] := hl
  have hP : va_P D vwCl ((out, .inl (KL, 1, .inr (.inl ofn))) :: (WW a K KS st hs sc)) s.heap := hP
  refine lv_aload_n hx hb dL_count_0 rfl (lv_at hl 2 rfl) ?_
  refine lv_iconst (v := 0) hx hb dL_count_1 (by decide) ?_
  refine lv_aload_n hx hb dL_count_2 rfl (lv_at hl 0 rfl) ?_
  refine lv_iload_n hx hb dL_count_3 rfl (lv_at hl 1 rfl) ?_
  have ct := k_cut_TT (wp := [(out, .inl (KL, 1, .inr (.inl ofn)))]) (T := (WW a K KS st hs sc)) (wc := []) (wr := [(out, .inl (KL, 1, .inr (.inl ofn)))]) (tc := [(K, .int), (KS, .object "BarcodeWand$State")]) hG hS hA hK hP hD [] [0] [0, 1] rfl rfl (by decide) (by decide) (by decide) rfl
  refine k_endXi (EX := fun E => E = "java/lang/IndexOutOfBoundsException") (As := [.ref (a 0), .int v]) ct (k_xrunV (As := [.int v]) (rest := [.int 0, .ref out]) S0 Lv_L_54 rfl (ci := 7) (q0 := 0) rfl (WW_0 a K KS st hs sc) ct (c_B_countX l hst D a K KS st hs sc v (by assumption) s.heap.size) hl.1 rfl (Nat.le_of_ble_eq_true rfl) rfl dL_count_4 ⟨⟨Nat.le_of_ble_eq_true rfl, Nat.le_of_ble_eq_true rfl⟩, Nat.le_of_ble_eq_true rfl, Nat.le_of_ble_eq_true rfl⟩) rfl rfl ?_ (fun r_1 _ H locs hw_2 hP hD hK hS => ?_)
  · intro E ce q9 H locs hE hP hD hS hq9 hv9 hcl9
    try dsimp only at hE
    have hP : va_P D vwCl ((out, .inl (KL, 1, .inr (.inl ofn))) :: (WW a K KS st hs sc)) H := hP
    have hD : va_D A ((out, .inl (KL, 1, .inr (.inl ofn))) :: (WW a K KS st hs sc)) := hD
    subst hE
    refine vx_catch hown [] ⟨0, 9, 12, 18⟩ [] (by rw [htab]; rfl) (fun z9 h9 => absurd h9 List.not_mem_nil) (by decide) (by decide) (ht _ lc_L_18) (va_Nw.use rfl (hG.1 _ (List.mem_of_getElem? (i := 486) rfl) rfl)) hq9 hv9 hcl9 ?_
    refine lv_astore_n (lv' := [(3, .ref q9), (0, .ref (a 0)), (1, .int v), (2, .ref out)]) hx hb dL_count_12 rfl hl (by decide) rfl (fun ls hl => ?_)
    refine lv_iconst (v := 1) hx hb dL_count_13 (by decide) ?_
    have hP9 : va_P D vwCl ((out, .inl (KL, 1, .inr (.inl ofn))) :: (WW a K KS st hs sc)) H := k_subP (wp := [(out, .inl (KL, 1, .inr (.inl ofn)))]) (wp' := [(out, .inl (KL, 1, .inr (.inl ofn)))]) (T := (WW a K KS st hs sc)) hP [0] rfl
    have hD9 : va_D A ((out, .inl (KL, 1, .inr (.inl ofn))) :: (WW a K KS st hs sc)) := k_subD (wp := [(out, .inl (KL, 1, .inr (.inl ofn)))]) (wp' := [(out, .inl (KL, 1, .inr (.inl ofn)))]) (T := (WW a K KS st hs sc)) hD [0] (by decide) rfl
    have hP9 : va_P D vwCl ((out, .inl (KL, 1, .inr (.inl ofn))) :: (WW a K KS st hs sc)) H := hP9
    have hD9 : va_D A ((out, .inl (KL, 1, .inr (.inl ofn))) :: (WW a K KS st hs sc)) := hD9
    have hK9 : va_K D vwCl [] s := hK.sub [] rfl
    exact W.iret (v := 1) hx hb hr (fun t ht9 hW9 => ⟨⟨1, (), rfl, by first | rfl | trivial | (simp only [if_true, if_false, reduceIte, and_self]; done) | simp_all, ⟨by rw [ht9]; exact hP9, va_K.moved hW9.alike hK9, hD9⟩⟩, hS.F ht9⟩) hS.2.2 dL_count_14
  have hK : va_K D vwCl [(K, .int), (KS, .object "BarcodeWand$State"), (KL, .long)] s := hK
  have hP : va_P D vwCl ((out, .inl (KL, 1, .inr (.inl ofn))) :: (WW a K KS st hs sc)) H := hP
  have hD : va_D A ((out, .inl (KL, 1, .inr (.inl ofn))) :: (WW a K KS st hs sc)) := hD
  exact hw_2.elim
set_option maxHeartbeats 4000000 in
set_option maxRecDepth 100000 in
theorem c_L_ifDrawnX1 (l : Launch) (hst : l.stackTraces = false) (D : va_G) (a : Nat → Nat) (K : ClassId) (KS : ClassId) (st : ST) (hs : HT) (sc : SCT) (lf : Int32) (rt : Int32) (b : Int32) (out : Nat) (KL : ClassId) (ofn : Nat → Int64) (hp : ¬ k_per lf rt) (sz : Nat) : k_Wi (S := Unit) l D yL_ifDrawn cL_ifDrawn 6 (some .int) [(0, 12, 15, 13), (0, 12, 19, 31)] 8 1 6 127 [.ref (a 0), .int lf, .int rt, .int b, .ref out] ((out, .inl (KL, 1, .inr (.inl ofn))) :: (WW a K KS st hs sc)) [(K, .int), (KS, .object "BarcodeWand$State"), (KL, .long)] (fun (r : Int32) (_ : Unit) => r = (1)) (fun _ => ((out, .inl (KL, 1, .inr (.inl ofn))) :: (WW a K KS st hs sc))) (fun _ => []) sz := by
  refine va_MetW (cc := cL_ifDrawn) (maxL := 6) (ret := (some .int)) (hh := [(0, 12, 15, 13), (0, 12, 19, 31)]) (by decide) rfl ?_
  intro p e s m args below meth c s₁ B hml hv
  obtain ⟨rfl, hsz, hP, hK, hD0, hG⟩ := hv
  have hx := B.exec
  have hb := B.bytes
  have hr := B.returns
  have ht : ∀ v9 ∈ wsA, v9.before ([.ref (a 0), .int lf, .int rt, .int b, .ref out] : List Value).toArray s = true := fun v9 h9 => atoms_spec (ws := Cond.codeWith yL_ifDrawn cL_ifDrawn 6 (some .int) [(0, 12, 15, 13), (0, 12, 19, 31)] :: wsA) B.pre v9 (List.mem_cons_of_mem _ h9)
  have htab : c.exceptionTable.toList = tableOf [(0, 12, 15, 13), (0, 12, 19, 31)] := vx_table (x := yL_ifDrawn) B (atoms_spec (ws := Cond.codeWith yL_ifDrawn cL_ifDrawn 6 (some .int) [(0, 12, 15, 13), (0, 12, 19, 31)] :: wsA) B.pre _ List.mem_cons_self)
  have hown : s.vm.findClass RL = some m.cls := findClass_of_methodNamed B.named
  have S0 : k_C p s m ([.ref (a 0), .int lf, .int rt, .int b, .ref out] : List Value).toArray c cL_ifDrawn 6 RL := ⟨hx, hb, hml, hown, ht⟩
  have hlocks := B.notSynchronized
  subst hsz
  have hD := hD0.self (sz := s.heap.size)
  generalize hAe : va_A ((out, .inl (KL, 1, .inr (.inl ofn))) :: (WW a K KS st hs sc)) s.heap.size = A at hD hG ⊢
  have hA : ∀ q : Nat, s.heap.size ≤ q → A q := fun q h => by rw [← hAe]; exact Or.inr h
  have hS : va_S A s.heap s.heap [] := va_S.rf
  have hl := lv_entry ([.ref (a 0), .int lf, .int rt, .int b, .ref out]) (n := 6) (Nat.le_of_ble_eq_true rfl)
  rw [lg_entry_eq]
  generalize (lg_sl ([.ref (a 0), .int lf, .int rt, .int b, .ref out]) ++ List.replicate (6 - (lg_sl ([.ref (a 0), .int lf, .int rt, .int b, .ref out])).length) Slot.unset).toArray = ls at hl ⊢
  have hl : lv_has ls 6 [(0, .ref (a 0)), (1, .int lf), (2, .int rt), (3, .int b), (4, .ref out)] := hl
  have hP : va_P D vwCl ((out, .inl (KL, 1, .inr (.inl ofn))) :: (WW a K KS st hs sc)) s.heap := hP
  refine lv_aload hx hb dL_ifDrawn_0 (lv_at hl 4 rfl) ?_
  refine lv_iconst (v := 0) hx hb dL_ifDrawn_2 (by decide) ?_
  refine lv_aload_n hx hb dL_ifDrawn_3 rfl (lv_at hl 0 rfl) ?_
  refine lv_iload_n hx hb dL_ifDrawn_4 rfl (lv_at hl 1 rfl) ?_
  refine lv_iload_n hx hb dL_ifDrawn_5 rfl (lv_at hl 2 rfl) ?_
  refine lv_iload_n hx hb dL_ifDrawn_6 rfl (lv_at hl 3 rfl) ?_
  have ct := k_cut_TT (wp := [(out, .inl (KL, 1, .inr (.inl ofn)))]) (T := (WW a K KS st hs sc)) (wc := []) (wr := [(out, .inl (KL, 1, .inr (.inl ofn)))]) (tc := [(K, .int), (KS, .object "BarcodeWand$State")]) hG hS hA hK hP hD [] [0] [0, 1] rfl rfl (by decide) (by decide) (by decide) rfl
  refine k_endXi (EX := fun E => E = "java/lang/IllegalArgumentException") (As := [.ref (a 0), .int lf, .int rt, .int b]) ct (k_xrunV (As := [.int lf, .int rt, .int b]) (rest := [.int 0, .ref out]) S0 Lv_L_57 rfl (ci := 7) (q0 := 0) rfl (WW_0 a K KS st hs sc) ct (c_B_ifDrawnX1 l hst D a K KS st hs sc lf rt b (by assumption) s.heap.size) hl.1 rfl (Nat.le_of_ble_eq_true rfl) rfl dL_ifDrawn_7 ⟨⟨Nat.le_of_ble_eq_true rfl, Nat.le_of_ble_eq_true rfl⟩, Nat.le_of_ble_eq_true rfl, Nat.le_of_ble_eq_true rfl⟩) rfl rfl ?_ (fun r_1 _ H locs hw_2 hP hD hK hS => ?_)
  · intro E ce q9 H locs hE hP hD hS hq9 hv9 hcl9
    try dsimp only at hE
    have hP : va_P D vwCl ((out, .inl (KL, 1, .inr (.inl ofn))) :: (WW a K KS st hs sc)) H := hP
    have hD : va_D A ((out, .inl (KL, 1, .inr (.inl ofn))) :: (WW a K KS st hs sc)) := hD
    subst hE
    refine vx_catch hown [] ⟨0, 12, 15, 13⟩ [⟨0, 12, 19, 31⟩] (by rw [htab]; rfl) (fun z9 h9 => absurd h9 List.not_mem_nil) (by decide) (by decide) (ht _ lc_L_13) (va_Nw.use rfl (hG.1 _ (List.mem_of_getElem? (i := 580) rfl) rfl)) hq9 hv9 hcl9 ?_
    refine lv_astore (lv' := [(5, .ref q9), (0, .ref (a 0)), (1, .int lf), (2, .int rt), (3, .int b), (4, .ref out)]) hx hb dL_ifDrawn_15 hl (by decide) rfl (fun ls hl => ?_)
    refine lv_iconst (v := 1) hx hb dL_ifDrawn_17 (by decide) ?_
    have hP9 : va_P D vwCl ((out, .inl (KL, 1, .inr (.inl ofn))) :: (WW a K KS st hs sc)) H := k_subP (wp := [(out, .inl (KL, 1, .inr (.inl ofn)))]) (wp' := [(out, .inl (KL, 1, .inr (.inl ofn)))]) (T := (WW a K KS st hs sc)) hP [0] rfl
    have hD9 : va_D A ((out, .inl (KL, 1, .inr (.inl ofn))) :: (WW a K KS st hs sc)) := k_subD (wp := [(out, .inl (KL, 1, .inr (.inl ofn)))]) (wp' := [(out, .inl (KL, 1, .inr (.inl ofn)))]) (T := (WW a K KS st hs sc)) hD [0] (by decide) rfl
    have hP9 : va_P D vwCl ((out, .inl (KL, 1, .inr (.inl ofn))) :: (WW a K KS st hs sc)) H := hP9
    have hD9 : va_D A ((out, .inl (KL, 1, .inr (.inl ofn))) :: (WW a K KS st hs sc)) := hD9
    have hK9 : va_K D vwCl [] s := hK.sub [] rfl
    exact W.iret (v := 1) hx hb hr (fun t ht9 hW9 => ⟨⟨1, (), rfl, by first | rfl | trivial | (simp only [if_true, if_false, reduceIte, and_self]; done) | simp_all, ⟨by rw [ht9]; exact hP9, va_K.moved hW9.alike hK9, hD9⟩⟩, hS.F ht9⟩) hS.2.2 dL_ifDrawn_18
  have hK : va_K D vwCl [(K, .int), (KS, .object "BarcodeWand$State"), (KL, .long)] s := hK
  have hP : va_P D vwCl ((out, .inl (KL, 1, .inr (.inl ofn))) :: (WW a K KS st hs sc)) H := hP
  have hD : va_D A ((out, .inl (KL, 1, .inr (.inl ofn))) :: (WW a K KS st hs sc)) := hD
  exact hw_2.elim
set_option maxHeartbeats 4000000 in
set_option maxRecDepth 100000 in
theorem c_L_ifDrawnX (l : Launch) (hst : l.stackTraces = false) (D : va_G) (a : Nat → Nat) (K : ClassId) (KS : ClassId) (st : ST) (hs : HT) (sc : SCT) (lf : Int32) (rt : Int32) (b : Int32) (out : Nat) (KL : ClassId) (ofn : Nat → Int64) (hp : k_per lf rt) (hne : s_ns st = 0) (sz : Nat) : k_Wi (S := Unit) l D yL_ifDrawn cL_ifDrawn 6 (some .int) [(0, 12, 15, 13), (0, 12, 19, 31)] 8 1 6 127 [.ref (a 0), .int lf, .int rt, .int b, .ref out] ((out, .inl (KL, 1, .inr (.inl ofn))) :: (WW a K KS st hs sc)) [(K, .int), (KS, .object "BarcodeWand$State"), (KL, .long)] (fun (r : Int32) (_ : Unit) => r = (2)) (fun _ => ((out, .inl (KL, 1, .inr (.inl ofn))) :: (WW a K KS st hs sc))) (fun _ => []) sz := by
  refine va_MetW (cc := cL_ifDrawn) (maxL := 6) (ret := (some .int)) (hh := [(0, 12, 15, 13), (0, 12, 19, 31)]) (by decide) rfl ?_
  intro p e s m args below meth c s₁ B hml hv
  obtain ⟨rfl, hsz, hP, hK, hD0, hG⟩ := hv
  have hx := B.exec
  have hb := B.bytes
  have hr := B.returns
  have ht : ∀ v9 ∈ wsA, v9.before ([.ref (a 0), .int lf, .int rt, .int b, .ref out] : List Value).toArray s = true := fun v9 h9 => atoms_spec (ws := Cond.codeWith yL_ifDrawn cL_ifDrawn 6 (some .int) [(0, 12, 15, 13), (0, 12, 19, 31)] :: wsA) B.pre v9 (List.mem_cons_of_mem _ h9)
  have htab : c.exceptionTable.toList = tableOf [(0, 12, 15, 13), (0, 12, 19, 31)] := vx_table (x := yL_ifDrawn) B (atoms_spec (ws := Cond.codeWith yL_ifDrawn cL_ifDrawn 6 (some .int) [(0, 12, 15, 13), (0, 12, 19, 31)] :: wsA) B.pre _ List.mem_cons_self)
  have hown : s.vm.findClass RL = some m.cls := findClass_of_methodNamed B.named
  have S0 : k_C p s m ([.ref (a 0), .int lf, .int rt, .int b, .ref out] : List Value).toArray c cL_ifDrawn 6 RL := ⟨hx, hb, hml, hown, ht⟩
  have hlocks := B.notSynchronized
  subst hsz
  have hD := hD0.self (sz := s.heap.size)
  generalize hAe : va_A ((out, .inl (KL, 1, .inr (.inl ofn))) :: (WW a K KS st hs sc)) s.heap.size = A at hD hG ⊢
  have hA : ∀ q : Nat, s.heap.size ≤ q → A q := fun q h => by rw [← hAe]; exact Or.inr h
  have hS : va_S A s.heap s.heap [] := va_S.rf
  have hl := lv_entry ([.ref (a 0), .int lf, .int rt, .int b, .ref out]) (n := 6) (Nat.le_of_ble_eq_true rfl)
  rw [lg_entry_eq]
  generalize (lg_sl ([.ref (a 0), .int lf, .int rt, .int b, .ref out]) ++ List.replicate (6 - (lg_sl ([.ref (a 0), .int lf, .int rt, .int b, .ref out])).length) Slot.unset).toArray = ls at hl ⊢
  have hl : lv_has ls 6 [(0, .ref (a 0)), (1, .int lf), (2, .int rt), (3, .int b), (4, .ref out)] := hl
  have hP : va_P D vwCl ((out, .inl (KL, 1, .inr (.inl ofn))) :: (WW a K KS st hs sc)) s.heap := hP
  refine lv_aload hx hb dL_ifDrawn_0 (lv_at hl 4 rfl) ?_
  refine lv_iconst (v := 0) hx hb dL_ifDrawn_2 (by decide) ?_
  refine lv_aload_n hx hb dL_ifDrawn_3 rfl (lv_at hl 0 rfl) ?_
  refine lv_iload_n hx hb dL_ifDrawn_4 rfl (lv_at hl 1 rfl) ?_
  refine lv_iload_n hx hb dL_ifDrawn_5 rfl (lv_at hl 2 rfl) ?_
  refine lv_iload_n hx hb dL_ifDrawn_6 rfl (lv_at hl 3 rfl) ?_
  have ct := k_cut_TT (wp := [(out, .inl (KL, 1, .inr (.inl ofn)))]) (T := (WW a K KS st hs sc)) (wc := []) (wr := [(out, .inl (KL, 1, .inr (.inl ofn)))]) (tc := [(K, .int), (KS, .object "BarcodeWand$State")]) hG hS hA hK hP hD [] [0] [0, 1] rfl rfl (by decide) (by decide) (by decide) rfl
  refine k_endXi (EX := fun E => E = "java/lang/IllegalStateException") (As := [.ref (a 0), .int lf, .int rt, .int b]) ct (k_xrunV (As := [.int lf, .int rt, .int b]) (rest := [.int 0, .ref out]) S0 Lv_L_57 rfl (ci := 7) (q0 := 0) rfl (WW_0 a K KS st hs sc) ct (c_B_ifDrawnX l hst D a K KS st hs sc lf rt b (by assumption) (by assumption) s.heap.size) hl.1 rfl (Nat.le_of_ble_eq_true rfl) rfl dL_ifDrawn_7 ⟨⟨Nat.le_of_ble_eq_true rfl, Nat.le_of_ble_eq_true rfl⟩, Nat.le_of_ble_eq_true rfl, Nat.le_of_ble_eq_true rfl⟩) rfl rfl ?_ (fun r_1 _ H locs hw_2 hP hD hK hS => ?_)
  · intro E ce q9 H locs hE hP hD hS hq9 hv9 hcl9
    try dsimp only at hE
    have hP : va_P D vwCl ((out, .inl (KL, 1, .inr (.inl ofn))) :: (WW a K KS st hs sc)) H := hP
    have hD : va_D A ((out, .inl (KL, 1, .inr (.inl ofn))) :: (WW a K KS st hs sc)) := hD
    subst hE
    refine vx_catch hown [⟨0, 12, 15, 13⟩] ⟨0, 12, 19, 31⟩ [] (by rw [htab]; rfl) (fun z9 h9 => by rcases List.mem_singleton.mp h9 with rfl; exact Or.inr ⟨by decide, "java/lang/IllegalArgumentException", ht _ lc_L_13, hG.2.2.2.2.1.1⟩) (by decide) (by decide) (ht _ lc_L_31) (va_Nw.use rfl (hG.1 _ (List.mem_of_getElem? (i := 647) rfl) rfl)) hq9 hv9 hcl9 ?_
    refine lv_astore (lv' := [(5, .ref q9), (0, .ref (a 0)), (1, .int lf), (2, .int rt), (3, .int b), (4, .ref out)]) hx hb dL_ifDrawn_19 hl (by decide) rfl (fun ls hl => ?_)
    refine lv_iconst (v := 2) hx hb dL_ifDrawn_21 (by decide) ?_
    have hP9 : va_P D vwCl ((out, .inl (KL, 1, .inr (.inl ofn))) :: (WW a K KS st hs sc)) H := k_subP (wp := [(out, .inl (KL, 1, .inr (.inl ofn)))]) (wp' := [(out, .inl (KL, 1, .inr (.inl ofn)))]) (T := (WW a K KS st hs sc)) hP [0] rfl
    have hD9 : va_D A ((out, .inl (KL, 1, .inr (.inl ofn))) :: (WW a K KS st hs sc)) := k_subD (wp := [(out, .inl (KL, 1, .inr (.inl ofn)))]) (wp' := [(out, .inl (KL, 1, .inr (.inl ofn)))]) (T := (WW a K KS st hs sc)) hD [0] (by decide) rfl
    have hP9 : va_P D vwCl ((out, .inl (KL, 1, .inr (.inl ofn))) :: (WW a K KS st hs sc)) H := hP9
    have hD9 : va_D A ((out, .inl (KL, 1, .inr (.inl ofn))) :: (WW a K KS st hs sc)) := hD9
    have hK9 : va_K D vwCl [] s := hK.sub [] rfl
    exact W.iret (v := 2) hx hb hr (fun t ht9 hW9 => ⟨⟨2, (), rfl, by first | rfl | trivial | (simp only [if_true, if_false, reduceIte, and_self]; done) | simp_all, ⟨by rw [ht9]; exact hP9, va_K.moved hW9.alike hK9, hD9⟩⟩, hS.F ht9⟩) hS.2.2 dL_ifDrawn_22
  have hK : va_K D vwCl [(K, .int), (KS, .object "BarcodeWand$State"), (KL, .long)] s := hK
  have hP : va_P D vwCl ((out, .inl (KL, 1, .inr (.inl ofn))) :: (WW a K KS st hs sc)) H := hP
  have hD : va_D A ((out, .inl (KL, 1, .inr (.inl ofn))) :: (WW a K KS st hs sc)) := hD
  exact hw_2.elim
set_option maxHeartbeats 4000000 in
set_option maxRecDepth 100000 in
theorem c_L_greatestX1 (l : Launch) (hst : l.stackTraces = false) (D : va_G) (a : Nat → Nat) (K : ClassId) (KS : ClassId) (st : ST) (hs : HT) (sc : SCT) (v : Int32) (out : Nat) (KL : ClassId) (ofn : Nat → Int64) (hxi : inR v (nI (s_ns st)) = 0) (sz : Nat) : k_Wi (S := Unit) l D yL_greatestSmudge cL_greatestSmudge 4 (some .int) [(0, 9, 12, 18)] 8 1 6 127 [.ref (a 0), .int v, .ref out] ((out, .inl (KL, 1, .inr (.inl ofn))) :: (WW a K KS st hs sc)) [(K, .int), (KS, .object "BarcodeWand$State"), (KL, .long)] (fun (r : Int32) (_ : Unit) => r = (1)) (fun _ => ((out, .inl (KL, 1, .inr (.inl ofn))) :: (WW a K KS st hs sc))) (fun _ => []) sz := by
  refine va_MetW (cc := cL_greatestSmudge) (maxL := 4) (ret := (some .int)) (hh := [(0, 9, 12, 18)]) (by decide) rfl ?_
  intro p e s m args below meth c s₁ B hml hv
  obtain ⟨rfl, hsz, hP, hK, hD0, hG⟩ := hv
  have hx := B.exec
  have hb := B.bytes
  have hr := B.returns
  have ht : ∀ v9 ∈ wsA, v9.before ([.ref (a 0), .int v, .ref out] : List Value).toArray s = true := fun v9 h9 => atoms_spec (ws := Cond.codeWith yL_greatestSmudge cL_greatestSmudge 4 (some .int) [(0, 9, 12, 18)] :: wsA) B.pre v9 (List.mem_cons_of_mem _ h9)
  have htab : c.exceptionTable.toList = tableOf [(0, 9, 12, 18)] := vx_table (x := yL_greatestSmudge) B (atoms_spec (ws := Cond.codeWith yL_greatestSmudge cL_greatestSmudge 4 (some .int) [(0, 9, 12, 18)] :: wsA) B.pre _ List.mem_cons_self)
  have hown : s.vm.findClass RL = some m.cls := findClass_of_methodNamed B.named
  have S0 : k_C p s m ([.ref (a 0), .int v, .ref out] : List Value).toArray c cL_greatestSmudge 4 RL := ⟨hx, hb, hml, hown, ht⟩
  have hlocks := B.notSynchronized
  subst hsz
  have hD := hD0.self (sz := s.heap.size)
  generalize hAe : va_A ((out, .inl (KL, 1, .inr (.inl ofn))) :: (WW a K KS st hs sc)) s.heap.size = A at hD hG ⊢
  have hA : ∀ q : Nat, s.heap.size ≤ q → A q := fun q h => by rw [← hAe]; exact Or.inr h
  have hS : va_S A s.heap s.heap [] := va_S.rf
  have hl := lv_entry ([.ref (a 0), .int v, .ref out]) (n := 4) (Nat.le_of_ble_eq_true rfl)
  rw [lg_entry_eq]
  generalize (lg_sl ([.ref (a 0), .int v, .ref out]) ++ List.replicate (4 - (lg_sl ([.ref (a 0), .int v, .ref out])).length) Slot.unset).toArray = ls at hl ⊢
  have hl : lv_has ls 4 [(0, .ref (a 0)), (1, .int v), (2, .ref out)] := hl
  have hP : va_P D vwCl ((out, .inl (KL, 1, .inr (.inl ofn))) :: (WW a K KS st hs sc)) s.heap := hP
  refine lv_aload_n hx hb dL_greatestSmudge_0 rfl (lv_at hl 2 rfl) ?_
  refine lv_iconst (v := 0) hx hb dL_greatestSmudge_1 (by decide) ?_
  refine lv_aload_n hx hb dL_greatestSmudge_2 rfl (lv_at hl 0 rfl) ?_
  refine lv_iload_n hx hb dL_greatestSmudge_3 rfl (lv_at hl 1 rfl) ?_
  have ct := k_cut_TT (wp := [(out, .inl (KL, 1, .inr (.inl ofn)))]) (T := (WW a K KS st hs sc)) (wc := []) (wr := [(out, .inl (KL, 1, .inr (.inl ofn)))]) (tc := [(K, .int), (KS, .object "BarcodeWand$State")]) hG hS hA hK hP hD [] [0] [0, 1] rfl rfl (by decide) (by decide) (by decide) rfl
  refine k_endXi (EX := fun E => E = "java/lang/IndexOutOfBoundsException") (As := [.ref (a 0), .int v]) ct (k_xrunV (As := [.int v]) (rest := [.int 0, .ref out]) S0 Lv_L_60 rfl (ci := 7) (q0 := 0) rfl (WW_0 a K KS st hs sc) ct (c_B_greatestX1 l hst D a K KS st hs sc v (by assumption) s.heap.size) hl.1 rfl (Nat.le_of_ble_eq_true rfl) rfl dL_greatestSmudge_4 ⟨⟨Nat.le_of_ble_eq_true rfl, Nat.le_of_ble_eq_true rfl⟩, Nat.le_of_ble_eq_true rfl, Nat.le_of_ble_eq_true rfl⟩) rfl rfl ?_ (fun r_1 _ H locs hw_2 hP hD hK hS => ?_)
  · intro E ce q9 H locs hE hP hD hS hq9 hv9 hcl9
    try dsimp only at hE
    have hP : va_P D vwCl ((out, .inl (KL, 1, .inr (.inl ofn))) :: (WW a K KS st hs sc)) H := hP
    have hD : va_D A ((out, .inl (KL, 1, .inr (.inl ofn))) :: (WW a K KS st hs sc)) := hD
    subst hE
    refine vx_catch hown [] ⟨0, 9, 12, 18⟩ [] (by rw [htab]; rfl) (fun z9 h9 => absurd h9 List.not_mem_nil) (by decide) (by decide) (ht _ lc_L_18) (va_Nw.use rfl (hG.1 _ (List.mem_of_getElem? (i := 486) rfl) rfl)) hq9 hv9 hcl9 ?_
    refine lv_astore_n (lv' := [(3, .ref q9), (0, .ref (a 0)), (1, .int v), (2, .ref out)]) hx hb dL_greatestSmudge_12 rfl hl (by decide) rfl (fun ls hl => ?_)
    refine lv_iconst (v := 1) hx hb dL_greatestSmudge_13 (by decide) ?_
    have hP9 : va_P D vwCl ((out, .inl (KL, 1, .inr (.inl ofn))) :: (WW a K KS st hs sc)) H := k_subP (wp := [(out, .inl (KL, 1, .inr (.inl ofn)))]) (wp' := [(out, .inl (KL, 1, .inr (.inl ofn)))]) (T := (WW a K KS st hs sc)) hP [0] rfl
    have hD9 : va_D A ((out, .inl (KL, 1, .inr (.inl ofn))) :: (WW a K KS st hs sc)) := k_subD (wp := [(out, .inl (KL, 1, .inr (.inl ofn)))]) (wp' := [(out, .inl (KL, 1, .inr (.inl ofn)))]) (T := (WW a K KS st hs sc)) hD [0] (by decide) rfl
    have hP9 : va_P D vwCl ((out, .inl (KL, 1, .inr (.inl ofn))) :: (WW a K KS st hs sc)) H := hP9
    have hD9 : va_D A ((out, .inl (KL, 1, .inr (.inl ofn))) :: (WW a K KS st hs sc)) := hD9
    have hK9 : va_K D vwCl [] s := hK.sub [] rfl
    exact W.iret (v := 1) hx hb hr (fun t ht9 hW9 => ⟨⟨1, (), rfl, by first | rfl | trivial | (simp only [if_true, if_false, reduceIte, and_self]; done) | simp_all, ⟨by rw [ht9]; exact hP9, va_K.moved hW9.alike hK9, hD9⟩⟩, hS.F ht9⟩) hS.2.2 dL_greatestSmudge_14
  have hK : va_K D vwCl [(K, .int), (KS, .object "BarcodeWand$State"), (KL, .long)] s := hK
  have hP : va_P D vwCl ((out, .inl (KL, 1, .inr (.inl ofn))) :: (WW a K KS st hs sc)) H := hP
  have hD : va_D A ((out, .inl (KL, 1, .inr (.inl ofn))) :: (WW a K KS st hs sc)) := hD
  exact hw_2.elim
set_option maxHeartbeats 4000000 in
set_option maxRecDepth 100000 in
theorem c_L_appendX1 (l : Launch) (hst : l.stackTraces = false) (D : va_G) (a : Nat → Nat) (K : ClassId) (KS : ClassId) (st : ST) (hs : HT) (sc : SCT) (ty : Nat) (bf : Nat → Int32) (cx : Int32) (out : Nat) (KL : ClassId) (ofn : Nat → Int64) (hx9 : ¬ (¬ cx < 33 ∧ cx ≤ 126)) (sz : Nat) : k_Wi (S := Unit) l D yL_append cL_append 4 (some .int) [(0, 9, 12, 13), (0, 9, 15, 31)] 7 1 6 103 [.ref (a 0), .int cx, .ref out] ((out, .inl (KL, 1, .inr (.inl ofn))) :: ((a 25), .inr (4, [.ref (a 26), .int (nI ty)])) :: ((a 26), .inl (K, 60, .inl bf)) :: (WW a K KS st hs sc)) [(K, .int), (KS, .object "BarcodeWand$State"), (KL, .long)] (fun (r : Int32) (_ : Unit) => r = (1)) (fun _ => ((out, .inl (KL, 1, .inr (.inl ofn))) :: ((a 25), .inr (4, [.ref (a 26), .int (nI ty)])) :: ((a 26), .inl (K, 60, .inl bf)) :: (WW a K KS st hs sc))) (fun _ => []) sz := by
  refine va_MetW (cc := cL_append) (maxL := 4) (ret := (some .int)) (hh := [(0, 9, 12, 13), (0, 9, 15, 31)]) (by decide) rfl ?_
  intro p e s m args below meth c s₁ B hml hv
  obtain ⟨rfl, hsz, hP, hK, hD0, hG⟩ := hv
  have hx := B.exec
  have hb := B.bytes
  have hr := B.returns
  have ht : ∀ v9 ∈ wsA, v9.before ([.ref (a 0), .int cx, .ref out] : List Value).toArray s = true := fun v9 h9 => atoms_spec (ws := Cond.codeWith yL_append cL_append 4 (some .int) [(0, 9, 12, 13), (0, 9, 15, 31)] :: wsA) B.pre v9 (List.mem_cons_of_mem _ h9)
  have htab : c.exceptionTable.toList = tableOf [(0, 9, 12, 13), (0, 9, 15, 31)] := vx_table (x := yL_append) B (atoms_spec (ws := Cond.codeWith yL_append cL_append 4 (some .int) [(0, 9, 12, 13), (0, 9, 15, 31)] :: wsA) B.pre _ List.mem_cons_self)
  have hown : s.vm.findClass RL = some m.cls := findClass_of_methodNamed B.named
  have S0 : k_C p s m ([.ref (a 0), .int cx, .ref out] : List Value).toArray c cL_append 4 RL := ⟨hx, hb, hml, hown, ht⟩
  have hlocks := B.notSynchronized
  subst hsz
  have hD := hD0.self (sz := s.heap.size)
  generalize hAe : va_A ((out, .inl (KL, 1, .inr (.inl ofn))) :: ((a 25), .inr (4, [.ref (a 26), .int (nI ty)])) :: ((a 26), .inl (K, 60, .inl bf)) :: (WW a K KS st hs sc)) s.heap.size = A at hD hG ⊢
  have hA : ∀ q : Nat, s.heap.size ≤ q → A q := fun q h => by rw [← hAe]; exact Or.inr h
  have hS : va_S A s.heap s.heap [] := va_S.rf
  have hl := lv_entry ([.ref (a 0), .int cx, .ref out]) (n := 4) (Nat.le_of_ble_eq_true rfl)
  rw [lg_entry_eq]
  generalize (lg_sl ([.ref (a 0), .int cx, .ref out]) ++ List.replicate (4 - (lg_sl ([.ref (a 0), .int cx, .ref out])).length) Slot.unset).toArray = ls at hl ⊢
  have hl : lv_has ls 4 [(0, .ref (a 0)), (1, .int cx), (2, .ref out)] := hl
  have hP : va_P D vwCl ((out, .inl (KL, 1, .inr (.inl ofn))) :: ((a 25), .inr (4, [.ref (a 26), .int (nI ty)])) :: ((a 26), .inl (K, 60, .inl bf)) :: (WW a K KS st hs sc)) s.heap := hP
  refine lv_aload_n hx hb dL_append_0 rfl (lv_at hl 2 rfl) ?_
  refine lv_iconst (v := 0) hx hb dL_append_1 (by decide) ?_
  refine lv_aload_n hx hb dL_append_2 rfl (lv_at hl 0 rfl) ?_
  refine lv_iload_n hx hb dL_append_3 rfl (lv_at hl 1 rfl) ?_
  have ct := k_cut_TT (wp := [(out, .inl (KL, 1, .inr (.inl ofn))), ((a 25), .inr (4, [.ref (a 26), .int (nI ty)])), ((a 26), .inl (K, 60, .inl bf))]) (T := (WW a K KS st hs sc)) (wc := [((a 25), .inr (4, [.ref (a 26), .int (nI ty)])), ((a 26), .inl (K, 60, .inl bf))]) (wr := [(out, .inl (KL, 1, .inr (.inl ofn)))]) (tc := [(K, .int), (KS, .object "BarcodeWand$State")]) hG hS hA hK hP hD [1, 2] [0] [0, 1] rfl rfl (by decide) (by decide) (by decide) rfl
  refine k_endXi (EX := fun E => E = "java/lang/IllegalArgumentException") (As := [.ref (a 0), .int cx]) ct (k_xrunV (As := [.int cx]) (rest := [.int 0, .ref out]) S0 Lv_L_63 rfl (ci := 7) (q0 := 2) rfl (WW_0 a K KS st hs sc) ct (c_B_appendX1 l hst D a K KS st hs sc ty bf cx (by assumption) s.heap.size) hl.1 rfl (Nat.le_of_ble_eq_true rfl) rfl dL_append_4 ⟨⟨Nat.le_of_ble_eq_true rfl, Nat.le_of_ble_eq_true rfl⟩, Nat.le_of_ble_eq_true rfl, Nat.le_of_ble_eq_true rfl⟩) rfl rfl ?_ (fun r_1 _ H locs hw_2 hP hD hK hS => ?_)
  · intro E ce q9 H locs hE hP hD hS hq9 hv9 hcl9
    try dsimp only at hE
    have hP : va_P D vwCl ((out, .inl (KL, 1, .inr (.inl ofn))) :: ((a 25), .inr (4, [.ref (a 26), .int (nI ty)])) :: ((a 26), .inl (K, 60, .inl bf)) :: (WW a K KS st hs sc)) H := hP
    have hD : va_D A ((out, .inl (KL, 1, .inr (.inl ofn))) :: ((a 25), .inr (4, [.ref (a 26), .int (nI ty)])) :: ((a 26), .inl (K, 60, .inl bf)) :: (WW a K KS st hs sc)) := hD
    subst hE
    refine vx_catch hown [] ⟨0, 9, 12, 13⟩ [⟨0, 9, 15, 31⟩] (by rw [htab]; rfl) (fun z9 h9 => absurd h9 List.not_mem_nil) (by decide) (by decide) (ht _ lc_L_13) (va_Nw.use rfl (hG.1 _ (List.mem_of_getElem? (i := 580) rfl) rfl)) hq9 hv9 hcl9 ?_
    refine lv_astore_n (lv' := [(3, .ref q9), (0, .ref (a 0)), (1, .int cx), (2, .ref out)]) hx hb dL_append_12 rfl hl (by decide) rfl (fun ls hl => ?_)
    refine lv_iconst (v := 1) hx hb dL_append_13 (by decide) ?_
    have hP9 : va_P D vwCl ((out, .inl (KL, 1, .inr (.inl ofn))) :: ((a 25), .inr (4, [.ref (a 26), .int (nI ty)])) :: ((a 26), .inl (K, 60, .inl bf)) :: (WW a K KS st hs sc)) H := k_subP (wp := [(out, .inl (KL, 1, .inr (.inl ofn))), ((a 25), .inr (4, [.ref (a 26), .int (nI ty)])), ((a 26), .inl (K, 60, .inl bf))]) (wp' := [(out, .inl (KL, 1, .inr (.inl ofn))), ((a 25), .inr (4, [.ref (a 26), .int (nI ty)])), ((a 26), .inl (K, 60, .inl bf))]) (T := (WW a K KS st hs sc)) hP [0, 1, 2] rfl
    have hD9 : va_D A ((out, .inl (KL, 1, .inr (.inl ofn))) :: ((a 25), .inr (4, [.ref (a 26), .int (nI ty)])) :: ((a 26), .inl (K, 60, .inl bf)) :: (WW a K KS st hs sc)) := k_subD (wp := [(out, .inl (KL, 1, .inr (.inl ofn))), ((a 25), .inr (4, [.ref (a 26), .int (nI ty)])), ((a 26), .inl (K, 60, .inl bf))]) (wp' := [(out, .inl (KL, 1, .inr (.inl ofn))), ((a 25), .inr (4, [.ref (a 26), .int (nI ty)])), ((a 26), .inl (K, 60, .inl bf))]) (T := (WW a K KS st hs sc)) hD [0, 1, 2] (by decide) rfl
    have hP9 : va_P D vwCl ((out, .inl (KL, 1, .inr (.inl ofn))) :: ((a 25), .inr (4, [.ref (a 26), .int (nI ty)])) :: ((a 26), .inl (K, 60, .inl bf)) :: (WW a K KS st hs sc)) H := hP9
    have hD9 : va_D A ((out, .inl (KL, 1, .inr (.inl ofn))) :: ((a 25), .inr (4, [.ref (a 26), .int (nI ty)])) :: ((a 26), .inl (K, 60, .inl bf)) :: (WW a K KS st hs sc)) := hD9
    have hK9 : va_K D vwCl [] s := hK.sub [] rfl
    exact W.iret (v := 1) hx hb hr (fun t ht9 hW9 => ⟨⟨1, (), rfl, by first | rfl | trivial | (simp only [if_true, if_false, reduceIte, and_self]; done) | simp_all, ⟨by rw [ht9]; exact hP9, va_K.moved hW9.alike hK9, hD9⟩⟩, hS.F ht9⟩) hS.2.2 dL_append_14
  have hK : va_K D vwCl [(K, .int), (KS, .object "BarcodeWand$State"), (KL, .long)] s := hK
  have hP : va_P D vwCl ((out, .inl (KL, 1, .inr (.inl ofn))) :: ((a 25), .inr (4, [.ref (a 26), .int (nI ty)])) :: ((a 26), .inl (K, 60, .inl bf)) :: (WW a K KS st hs sc)) H := hP
  have hD : va_D A ((out, .inl (KL, 1, .inr (.inl ofn))) :: ((a 25), .inr (4, [.ref (a 26), .int (nI ty)])) :: ((a 26), .inl (K, 60, .inl bf)) :: (WW a K KS st hs sc)) := hD
  exact hw_2.elim
set_option maxHeartbeats 4000000 in
set_option maxRecDepth 100000 in
theorem c_L_appendX2 (l : Launch) (hst : l.stackTraces = false) (D : va_G) (a : Nat → Nat) (K : ClassId) (KS : ClassId) (st : ST) (hs : HT) (sc : SCT) (ty : Nat) (bf : Nat → Int32) (cx : Int32) (out : Nat) (KL : ClassId) (ofn : Nat → Int64) (hx1 : ¬ cx < 33) (hx2 : cx ≤ 126) (h60 : 60 ≤ ty) (hty : ty ≤ 60) (sz : Nat) : k_Wi (S := Unit) l D yL_append cL_append 4 (some .int) [(0, 9, 12, 13), (0, 9, 15, 31)] 7 1 6 103 [.ref (a 0), .int cx, .ref out] ((out, .inl (KL, 1, .inr (.inl ofn))) :: ((a 25), .inr (4, [.ref (a 26), .int (nI ty)])) :: ((a 26), .inl (K, 60, .inl bf)) :: (WW a K KS st hs sc)) [(K, .int), (KS, .object "BarcodeWand$State"), (KL, .long)] (fun (r : Int32) (_ : Unit) => r = (2)) (fun _ => ((out, .inl (KL, 1, .inr (.inl ofn))) :: ((a 25), .inr (4, [.ref (a 26), .int (nI ty)])) :: ((a 26), .inl (K, 60, .inl bf)) :: (WW a K KS st hs sc))) (fun _ => []) sz := by
  refine va_MetW (cc := cL_append) (maxL := 4) (ret := (some .int)) (hh := [(0, 9, 12, 13), (0, 9, 15, 31)]) (by decide) rfl ?_
  intro p e s m args below meth c s₁ B hml hv
  obtain ⟨rfl, hsz, hP, hK, hD0, hG⟩ := hv
  have hx := B.exec
  have hb := B.bytes
  have hr := B.returns
  have ht : ∀ v9 ∈ wsA, v9.before ([.ref (a 0), .int cx, .ref out] : List Value).toArray s = true := fun v9 h9 => atoms_spec (ws := Cond.codeWith yL_append cL_append 4 (some .int) [(0, 9, 12, 13), (0, 9, 15, 31)] :: wsA) B.pre v9 (List.mem_cons_of_mem _ h9)
  have htab : c.exceptionTable.toList = tableOf [(0, 9, 12, 13), (0, 9, 15, 31)] := vx_table (x := yL_append) B (atoms_spec (ws := Cond.codeWith yL_append cL_append 4 (some .int) [(0, 9, 12, 13), (0, 9, 15, 31)] :: wsA) B.pre _ List.mem_cons_self)
  have hown : s.vm.findClass RL = some m.cls := findClass_of_methodNamed B.named
  have S0 : k_C p s m ([.ref (a 0), .int cx, .ref out] : List Value).toArray c cL_append 4 RL := ⟨hx, hb, hml, hown, ht⟩
  have hlocks := B.notSynchronized
  subst hsz
  have hD := hD0.self (sz := s.heap.size)
  generalize hAe : va_A ((out, .inl (KL, 1, .inr (.inl ofn))) :: ((a 25), .inr (4, [.ref (a 26), .int (nI ty)])) :: ((a 26), .inl (K, 60, .inl bf)) :: (WW a K KS st hs sc)) s.heap.size = A at hD hG ⊢
  have hA : ∀ q : Nat, s.heap.size ≤ q → A q := fun q h => by rw [← hAe]; exact Or.inr h
  have hS : va_S A s.heap s.heap [] := va_S.rf
  have hl := lv_entry ([.ref (a 0), .int cx, .ref out]) (n := 4) (Nat.le_of_ble_eq_true rfl)
  rw [lg_entry_eq]
  generalize (lg_sl ([.ref (a 0), .int cx, .ref out]) ++ List.replicate (4 - (lg_sl ([.ref (a 0), .int cx, .ref out])).length) Slot.unset).toArray = ls at hl ⊢
  have hl : lv_has ls 4 [(0, .ref (a 0)), (1, .int cx), (2, .ref out)] := hl
  have hP : va_P D vwCl ((out, .inl (KL, 1, .inr (.inl ofn))) :: ((a 25), .inr (4, [.ref (a 26), .int (nI ty)])) :: ((a 26), .inl (K, 60, .inl bf)) :: (WW a K KS st hs sc)) s.heap := hP
  refine lv_aload_n hx hb dL_append_0 rfl (lv_at hl 2 rfl) ?_
  refine lv_iconst (v := 0) hx hb dL_append_1 (by decide) ?_
  refine lv_aload_n hx hb dL_append_2 rfl (lv_at hl 0 rfl) ?_
  refine lv_iload_n hx hb dL_append_3 rfl (lv_at hl 1 rfl) ?_
  have ct := k_cut_TT (wp := [(out, .inl (KL, 1, .inr (.inl ofn))), ((a 25), .inr (4, [.ref (a 26), .int (nI ty)])), ((a 26), .inl (K, 60, .inl bf))]) (T := (WW a K KS st hs sc)) (wc := [((a 25), .inr (4, [.ref (a 26), .int (nI ty)])), ((a 26), .inl (K, 60, .inl bf))]) (wr := [(out, .inl (KL, 1, .inr (.inl ofn)))]) (tc := [(K, .int), (KS, .object "BarcodeWand$State")]) hG hS hA hK hP hD [1, 2] [0] [0, 1] rfl rfl (by decide) (by decide) (by decide) rfl
  refine k_endXi (EX := fun E => E = "java/lang/IllegalStateException") (As := [.ref (a 0), .int cx]) ct (k_xrunV (As := [.int cx]) (rest := [.int 0, .ref out]) S0 Lv_L_63 rfl (ci := 7) (q0 := 2) rfl (WW_0 a K KS st hs sc) ct (c_B_appendX2 l hst D a K KS st hs sc ty bf cx (by assumption) (by assumption) (by assumption) (by first | assumption | omega) s.heap.size) hl.1 rfl (Nat.le_of_ble_eq_true rfl) rfl dL_append_4 ⟨⟨Nat.le_of_ble_eq_true rfl, Nat.le_of_ble_eq_true rfl⟩, Nat.le_of_ble_eq_true rfl, Nat.le_of_ble_eq_true rfl⟩) rfl rfl ?_ (fun r_1 _ H locs hw_2 hP hD hK hS => ?_)
  · intro E ce q9 H locs hE hP hD hS hq9 hv9 hcl9
    try dsimp only at hE
    have hP : va_P D vwCl ((out, .inl (KL, 1, .inr (.inl ofn))) :: ((a 25), .inr (4, [.ref (a 26), .int (nI ty)])) :: ((a 26), .inl (K, 60, .inl bf)) :: (WW a K KS st hs sc)) H := hP
    have hD : va_D A ((out, .inl (KL, 1, .inr (.inl ofn))) :: ((a 25), .inr (4, [.ref (a 26), .int (nI ty)])) :: ((a 26), .inl (K, 60, .inl bf)) :: (WW a K KS st hs sc)) := hD
    subst hE
    refine vx_catch hown [⟨0, 9, 12, 13⟩] ⟨0, 9, 15, 31⟩ [] (by rw [htab]; rfl) (fun z9 h9 => by rcases List.mem_singleton.mp h9 with rfl; exact Or.inr ⟨by decide, "java/lang/IllegalArgumentException", ht _ lc_L_13, hG.2.2.2.2.1.1⟩) (by decide) (by decide) (ht _ lc_L_31) (va_Nw.use rfl (hG.1 _ (List.mem_of_getElem? (i := 647) rfl) rfl)) hq9 hv9 hcl9 ?_
    refine lv_astore_n (lv' := [(3, .ref q9), (0, .ref (a 0)), (1, .int cx), (2, .ref out)]) hx hb dL_append_15 rfl hl (by decide) rfl (fun ls hl => ?_)
    refine lv_iconst (v := 2) hx hb dL_append_16 (by decide) ?_
    have hP9 : va_P D vwCl ((out, .inl (KL, 1, .inr (.inl ofn))) :: ((a 25), .inr (4, [.ref (a 26), .int (nI ty)])) :: ((a 26), .inl (K, 60, .inl bf)) :: (WW a K KS st hs sc)) H := k_subP (wp := [(out, .inl (KL, 1, .inr (.inl ofn))), ((a 25), .inr (4, [.ref (a 26), .int (nI ty)])), ((a 26), .inl (K, 60, .inl bf))]) (wp' := [(out, .inl (KL, 1, .inr (.inl ofn))), ((a 25), .inr (4, [.ref (a 26), .int (nI ty)])), ((a 26), .inl (K, 60, .inl bf))]) (T := (WW a K KS st hs sc)) hP [0, 1, 2] rfl
    have hD9 : va_D A ((out, .inl (KL, 1, .inr (.inl ofn))) :: ((a 25), .inr (4, [.ref (a 26), .int (nI ty)])) :: ((a 26), .inl (K, 60, .inl bf)) :: (WW a K KS st hs sc)) := k_subD (wp := [(out, .inl (KL, 1, .inr (.inl ofn))), ((a 25), .inr (4, [.ref (a 26), .int (nI ty)])), ((a 26), .inl (K, 60, .inl bf))]) (wp' := [(out, .inl (KL, 1, .inr (.inl ofn))), ((a 25), .inr (4, [.ref (a 26), .int (nI ty)])), ((a 26), .inl (K, 60, .inl bf))]) (T := (WW a K KS st hs sc)) hD [0, 1, 2] (by decide) rfl
    have hP9 : va_P D vwCl ((out, .inl (KL, 1, .inr (.inl ofn))) :: ((a 25), .inr (4, [.ref (a 26), .int (nI ty)])) :: ((a 26), .inl (K, 60, .inl bf)) :: (WW a K KS st hs sc)) H := hP9
    have hD9 : va_D A ((out, .inl (KL, 1, .inr (.inl ofn))) :: ((a 25), .inr (4, [.ref (a 26), .int (nI ty)])) :: ((a 26), .inl (K, 60, .inl bf)) :: (WW a K KS st hs sc)) := hD9
    have hK9 : va_K D vwCl [] s := hK.sub [] rfl
    exact W.iret (v := 2) hx hb hr (fun t ht9 hW9 => ⟨⟨2, (), rfl, by first | rfl | trivial | (simp only [if_true, if_false, reduceIte, and_self]; done) | simp_all, ⟨by rw [ht9]; exact hP9, va_K.moved hW9.alike hK9, hD9⟩⟩, hS.F ht9⟩) hS.2.2 dL_append_17
  have hK : va_K D vwCl [(K, .int), (KS, .object "BarcodeWand$State"), (KL, .long)] s := hK
  have hP : va_P D vwCl ((out, .inl (KL, 1, .inr (.inl ofn))) :: ((a 25), .inr (4, [.ref (a 26), .int (nI ty)])) :: ((a 26), .inl (K, 60, .inl bf)) :: (WW a K KS st hs sc)) H := hP
  have hD : va_D A ((out, .inl (KL, 1, .inr (.inl ofn))) :: ((a 25), .inr (4, [.ref (a 26), .int (nI ty)])) :: ((a 26), .inl (K, 60, .inl bf)) :: (WW a K KS st hs sc)) := hD
  exact hw_2.elim
set_option maxHeartbeats 4000000 in
set_option maxRecDepth 100000 in
theorem c_L_undoX (l : Launch) (hst : l.stackTraces = false) (D : va_G) (a : Nat → Nat) (K : ClassId) (KS : ClassId) (st : ST) (hs : HT) (sc : SCT) (out : Nat) (KL : ClassId) (ofn : Nat → Int64) (hk0 : h_kp hs = 0) (sz : Nat) : k_Wi (S := Unit) l D yL_undo cL_undo 3 (some .int) [(0, 8, 11, 31)] 7 1 6 102 [.ref (a 0), .ref out] ((out, .inl (KL, 1, .inr (.inl ofn))) :: (WW a K KS st hs sc)) [(K, .int), (KS, .object "BarcodeWand$State"), (KL, .long)] (fun (r : Int32) (_ : Unit) => r = (1)) (fun _ => ((out, .inl (KL, 1, .inr (.inl ofn))) :: (WW a K KS st hs sc))) (fun _ => []) sz := by
  refine va_MetW (cc := cL_undo) (maxL := 3) (ret := (some .int)) (hh := [(0, 8, 11, 31)]) (by decide) rfl ?_
  intro p e s m args below meth c s₁ B hml hv
  obtain ⟨rfl, hsz, hP, hK, hD0, hG⟩ := hv
  have hx := B.exec
  have hb := B.bytes
  have hr := B.returns
  have ht : ∀ v9 ∈ wsA, v9.before ([.ref (a 0), .ref out] : List Value).toArray s = true := fun v9 h9 => atoms_spec (ws := Cond.codeWith yL_undo cL_undo 3 (some .int) [(0, 8, 11, 31)] :: wsA) B.pre v9 (List.mem_cons_of_mem _ h9)
  have htab : c.exceptionTable.toList = tableOf [(0, 8, 11, 31)] := vx_table (x := yL_undo) B (atoms_spec (ws := Cond.codeWith yL_undo cL_undo 3 (some .int) [(0, 8, 11, 31)] :: wsA) B.pre _ List.mem_cons_self)
  have hown : s.vm.findClass RL = some m.cls := findClass_of_methodNamed B.named
  have S0 : k_C p s m ([.ref (a 0), .ref out] : List Value).toArray c cL_undo 3 RL := ⟨hx, hb, hml, hown, ht⟩
  have hlocks := B.notSynchronized
  subst hsz
  have hD := hD0.self (sz := s.heap.size)
  generalize hAe : va_A ((out, .inl (KL, 1, .inr (.inl ofn))) :: (WW a K KS st hs sc)) s.heap.size = A at hD hG ⊢
  have hA : ∀ q : Nat, s.heap.size ≤ q → A q := fun q h => by rw [← hAe]; exact Or.inr h
  have hS : va_S A s.heap s.heap [] := va_S.rf
  have hl := lv_entry ([.ref (a 0), .ref out]) (n := 3) (Nat.le_of_ble_eq_true rfl)
  rw [lg_entry_eq]
  generalize (lg_sl ([.ref (a 0), .ref out]) ++ List.replicate (3 - (lg_sl ([.ref (a 0), .ref out])).length) Slot.unset).toArray = ls at hl ⊢
  have hl : lv_has ls 3 [(0, .ref (a 0)), (1, .ref out)] := hl
  have hP : va_P D vwCl ((out, .inl (KL, 1, .inr (.inl ofn))) :: (WW a K KS st hs sc)) s.heap := hP
  refine lv_aload_n hx hb dL_undo_0 rfl (lv_at hl 1 rfl) ?_
  refine lv_iconst (v := 0) hx hb dL_undo_1 (by decide) ?_
  refine lv_aload_n hx hb dL_undo_2 rfl (lv_at hl 0 rfl) ?_
  have ct := k_cut_TT (wp := [(out, .inl (KL, 1, .inr (.inl ofn)))]) (T := (WW a K KS st hs sc)) (wc := []) (wr := [(out, .inl (KL, 1, .inr (.inl ofn)))]) (tc := [(K, .int), (KS, .object "BarcodeWand$State")]) hG hS hA hK hP hD [] [0] [0, 1] rfl rfl (by decide) (by decide) (by decide) rfl
  refine k_endXi (EX := fun E => E = "java/lang/IllegalStateException") (As := [.ref (a 0)]) ct (k_xrunV (As := []) (rest := [.int 0, .ref out]) S0 Lv_L_70 rfl (ci := 7) (q0 := 0) rfl (WW_0 a K KS st hs sc) ct (c_B_undoX l hst D a K KS st hs sc (by assumption) s.heap.size) hl.1 rfl (Nat.le_of_ble_eq_true rfl) rfl dL_undo_3 ⟨⟨Nat.le_of_ble_eq_true rfl, Nat.le_of_ble_eq_true rfl⟩, Nat.le_of_ble_eq_true rfl, Nat.le_of_ble_eq_true rfl⟩) rfl rfl ?_ (fun r_1 _ H locs hw_2 hP hD hK hS => ?_)
  · intro E ce q9 H locs hE hP hD hS hq9 hv9 hcl9
    try dsimp only at hE
    have hP : va_P D vwCl ((out, .inl (KL, 1, .inr (.inl ofn))) :: (WW a K KS st hs sc)) H := hP
    have hD : va_D A ((out, .inl (KL, 1, .inr (.inl ofn))) :: (WW a K KS st hs sc)) := hD
    subst hE
    refine vx_catch hown [] ⟨0, 8, 11, 31⟩ [] (by rw [htab]; rfl) (fun z9 h9 => absurd h9 List.not_mem_nil) (by decide) (by decide) (ht _ lc_L_31) (va_Nw.use rfl (hG.1 _ (List.mem_of_getElem? (i := 647) rfl) rfl)) hq9 hv9 hcl9 ?_
    refine lv_astore_n (lv' := [(2, .ref q9), (0, .ref (a 0)), (1, .ref out)]) hx hb dL_undo_11 rfl hl (by decide) rfl (fun ls hl => ?_)
    refine lv_iconst (v := 1) hx hb dL_undo_12 (by decide) ?_
    have hP9 : va_P D vwCl ((out, .inl (KL, 1, .inr (.inl ofn))) :: (WW a K KS st hs sc)) H := k_subP (wp := [(out, .inl (KL, 1, .inr (.inl ofn)))]) (wp' := [(out, .inl (KL, 1, .inr (.inl ofn)))]) (T := (WW a K KS st hs sc)) hP [0] rfl
    have hD9 : va_D A ((out, .inl (KL, 1, .inr (.inl ofn))) :: (WW a K KS st hs sc)) := k_subD (wp := [(out, .inl (KL, 1, .inr (.inl ofn)))]) (wp' := [(out, .inl (KL, 1, .inr (.inl ofn)))]) (T := (WW a K KS st hs sc)) hD [0] (by decide) rfl
    have hP9 : va_P D vwCl ((out, .inl (KL, 1, .inr (.inl ofn))) :: (WW a K KS st hs sc)) H := hP9
    have hD9 : va_D A ((out, .inl (KL, 1, .inr (.inl ofn))) :: (WW a K KS st hs sc)) := hD9
    have hK9 : va_K D vwCl [] s := hK.sub [] rfl
    exact W.iret (v := 1) hx hb hr (fun t ht9 hW9 => ⟨⟨1, (), rfl, by first | rfl | trivial | (simp only [if_true, if_false, reduceIte, and_self]; done) | simp_all, ⟨by rw [ht9]; exact hP9, va_K.moved hW9.alike hK9, hD9⟩⟩, hS.F ht9⟩) hS.2.2 dL_undo_13
  have hK : va_K D vwCl [(K, .int), (KS, .object "BarcodeWand$State"), (KL, .long)] s := hK
  have hP : va_P D vwCl ((out, .inl (KL, 1, .inr (.inl ofn))) :: (WW a K KS st hs sc)) H := hP
  have hD : va_D A ((out, .inl (KL, 1, .inr (.inl ofn))) :: (WW a K KS st hs sc)) := hD
  exact hw_2.elim
set_option maxHeartbeats 4000000 in
set_option maxRecDepth 100000 in
theorem c_L_runX (l : Launch) (hst : l.stackTraces = false) (D : va_G) (a : Nat → Nat) (K : ClassId) (KS : ClassId) (st : ST) (hs : HT) (sc : SCT) (ty : Nat) (bf : Nat → Int32) (pk : Int32) (pf : Int32) (ps : Int32) (pn : Int32) (pp : Int32) (pm : Int32) (out : Nat) (KL : ClassId) (ofn : Nat → Int64) (hty : ty ≤ 60) (hm : pm = 0 ∨ pm = 1) (hco : ¬ COM bf ty g0) (sz : Nat) : k_Wi (S := Int32 × Int32 × Int32 × Int32 × Int32 × Int32) l D yL_run cL_run 3 (some .int) [(0, 8, 11, 13)] 7 1 6 131 [.ref (a 0), .ref out] ((out, .inl (KL, 1, .inr (.inl ofn))) :: ((a 25), .inr (4, [.ref (a 26), .int (nI ty)])) :: ((a 26), .inl (K, 60, .inl bf)) :: ((a 27), .inr (1, [.int pk, .int pf, .int ps, .int pn, .int pp, .int pm])) :: (WW a K KS st hs sc)) [(K, .int), (KS, .object "BarcodeWand$State"), (KL, .long)] (fun (r : Int32) (u : Int32 × Int32 × Int32 × Int32 × Int32 × Int32) => match u with | (k1, f1, s1, n1, p1, m1) => r = 1 ∧ m01 (k1, f1, s1, n1, p1, m1)) (fun u => match u with | (k1, f1, s1, n1, p1, m1) => ((out, .inl (KL, 1, .inr (.inl ofn))) :: ((a 25), .inr (4, [.ref (a 26), .int (nI ty)])) :: ((a 26), .inl (K, 60, .inl bf)) :: ((a 27), .inr (1, [.int k1, .int f1, .int s1, .int n1, .int p1, .int m1])) :: (WW a K KS st hs sc))) (fun u => match u with | (k1, f1, s1, n1, p1, m1) => []) sz := by
  refine va_MetW (cc := cL_run) (maxL := 3) (ret := (some .int)) (hh := [(0, 8, 11, 13)]) (by decide) rfl ?_
  intro p e s m args below meth c s₁ B hml hv
  obtain ⟨rfl, hsz, hP, hK, hD0, hG⟩ := hv
  have hx := B.exec
  have hb := B.bytes
  have hr := B.returns
  have ht : ∀ v9 ∈ wsA, v9.before ([.ref (a 0), .ref out] : List Value).toArray s = true := fun v9 h9 => atoms_spec (ws := Cond.codeWith yL_run cL_run 3 (some .int) [(0, 8, 11, 13)] :: wsA) B.pre v9 (List.mem_cons_of_mem _ h9)
  have htab : c.exceptionTable.toList = tableOf [(0, 8, 11, 13)] := vx_table (x := yL_run) B (atoms_spec (ws := Cond.codeWith yL_run cL_run 3 (some .int) [(0, 8, 11, 13)] :: wsA) B.pre _ List.mem_cons_self)
  have hown : s.vm.findClass RL = some m.cls := findClass_of_methodNamed B.named
  have S0 : k_C p s m ([.ref (a 0), .ref out] : List Value).toArray c cL_run 3 RL := ⟨hx, hb, hml, hown, ht⟩
  have hlocks := B.notSynchronized
  subst hsz
  have hD := hD0.self (sz := s.heap.size)
  generalize hAe : va_A ((out, .inl (KL, 1, .inr (.inl ofn))) :: ((a 25), .inr (4, [.ref (a 26), .int (nI ty)])) :: ((a 26), .inl (K, 60, .inl bf)) :: ((a 27), .inr (1, [.int pk, .int pf, .int ps, .int pn, .int pp, .int pm])) :: (WW a K KS st hs sc)) s.heap.size = A at hD hG ⊢
  have hA : ∀ q : Nat, s.heap.size ≤ q → A q := fun q h => by rw [← hAe]; exact Or.inr h
  have hS : va_S A s.heap s.heap [] := va_S.rf
  have hl := lv_entry ([.ref (a 0), .ref out]) (n := 3) (Nat.le_of_ble_eq_true rfl)
  rw [lg_entry_eq]
  generalize (lg_sl ([.ref (a 0), .ref out]) ++ List.replicate (3 - (lg_sl ([.ref (a 0), .ref out])).length) Slot.unset).toArray = ls at hl ⊢
  have hl : lv_has ls 3 [(0, .ref (a 0)), (1, .ref out)] := hl
  have hP : va_P D vwCl ((out, .inl (KL, 1, .inr (.inl ofn))) :: ((a 25), .inr (4, [.ref (a 26), .int (nI ty)])) :: ((a 26), .inl (K, 60, .inl bf)) :: ((a 27), .inr (1, [.int pk, .int pf, .int ps, .int pn, .int pp, .int pm])) :: (WW a K KS st hs sc)) s.heap := hP
  refine lv_aload_n hx hb dL_run_0 rfl (lv_at hl 1 rfl) ?_
  refine lv_iconst (v := 0) hx hb dL_run_1 (by decide) ?_
  refine lv_aload_n hx hb dL_run_2 rfl (lv_at hl 0 rfl) ?_
  have ct := k_cut_TT (wp := [(out, .inl (KL, 1, .inr (.inl ofn))), ((a 25), .inr (4, [.ref (a 26), .int (nI ty)])), ((a 26), .inl (K, 60, .inl bf)), ((a 27), .inr (1, [.int pk, .int pf, .int ps, .int pn, .int pp, .int pm]))]) (T := (WW a K KS st hs sc)) (wc := [((a 25), .inr (4, [.ref (a 26), .int (nI ty)])), ((a 26), .inl (K, 60, .inl bf)), ((a 27), .inr (1, [.int pk, .int pf, .int ps, .int pn, .int pp, .int pm]))]) (wr := [(out, .inl (KL, 1, .inr (.inl ofn)))]) (tc := [(K, .int), (KS, .object "BarcodeWand$State")]) hG hS hA hK hP hD [1, 2, 3] [0] [0, 1] rfl rfl (by decide) (by decide) (by decide) rfl
  refine k_endXEi (EX := fun E => E = "java/lang/IllegalArgumentException") (As := [.ref (a 0)]) ct (k_xrunV (As := []) (rest := [.int 0, .ref out]) S0 Lv_L_66 rfl (ci := 7) (q0 := 3) rfl (WW_0 a K KS st hs sc) ct (c_B_runX l hst D a K KS st hs sc ty bf pk pf ps pn pp pm (by first | assumption | omega) (by assumption) (by assumption) s.heap.size) hl.1 rfl (Nat.le_of_ble_eq_true rfl) rfl dL_run_3 ⟨⟨Nat.le_of_ble_eq_true rfl, Nat.le_of_ble_eq_true rfl⟩, Nat.le_of_ble_eq_true rfl, Nat.le_of_ble_eq_true rfl⟩) rfl rfl ?_
  intro E ce q9 u H locs hE hpo hP hD hS hq9 hv9 hcl9
  obtain ⟨k1v_2, f1v_3, s1v_4, n1v_5, p1v_6, m1v_7⟩ := u
  try dsimp only at hE
  have hpo : m01 (k1v_2, f1v_3, s1v_4, n1v_5, p1v_6, m1v_7) := hpo
  have hP : va_P D vwCl ((out, .inl (KL, 1, .inr (.inl ofn))) :: ((a 25), .inr (4, [.ref (a 26), .int (nI ty)])) :: ((a 26), .inl (K, 60, .inl bf)) :: ((a 27), .inr (1, [.int k1v_2, .int f1v_3, .int s1v_4, .int n1v_5, .int p1v_6, .int m1v_7])) :: (WW a K KS st hs sc)) H := hP
  have hD : va_D A ((out, .inl (KL, 1, .inr (.inl ofn))) :: ((a 25), .inr (4, [.ref (a 26), .int (nI ty)])) :: ((a 26), .inl (K, 60, .inl bf)) :: ((a 27), .inr (1, [.int k1v_2, .int f1v_3, .int s1v_4, .int n1v_5, .int p1v_6, .int m1v_7])) :: (WW a K KS st hs sc)) := hD
  subst hE
  refine vx_catch hown [] ⟨0, 8, 11, 13⟩ [] (by rw [htab]; rfl) (fun z9 h9 => absurd h9 List.not_mem_nil) (by decide) (by decide) (ht _ lc_L_13) (va_Nw.use rfl (hG.1 _ (List.mem_of_getElem? (i := 580) rfl) rfl)) hq9 hv9 hcl9 ?_
  refine lv_astore_n (lv' := [(2, .ref q9), (0, .ref (a 0)), (1, .ref out)]) hx hb dL_run_11 rfl hl (by decide) rfl (fun ls hl => ?_)
  refine lv_iconst (v := 1) hx hb dL_run_12 (by decide) ?_
  have hP9 : va_P D vwCl ((out, .inl (KL, 1, .inr (.inl ofn))) :: ((a 25), .inr (4, [.ref (a 26), .int (nI ty)])) :: ((a 26), .inl (K, 60, .inl bf)) :: ((a 27), .inr (1, [.int k1v_2, .int f1v_3, .int s1v_4, .int n1v_5, .int p1v_6, .int m1v_7])) :: (WW a K KS st hs sc)) H := k_subP (wp := [(out, .inl (KL, 1, .inr (.inl ofn))), ((a 25), .inr (4, [.ref (a 26), .int (nI ty)])), ((a 26), .inl (K, 60, .inl bf)), ((a 27), .inr (1, [.int k1v_2, .int f1v_3, .int s1v_4, .int n1v_5, .int p1v_6, .int m1v_7]))]) (wp' := [(out, .inl (KL, 1, .inr (.inl ofn))), ((a 25), .inr (4, [.ref (a 26), .int (nI ty)])), ((a 26), .inl (K, 60, .inl bf)), ((a 27), .inr (1, [.int k1v_2, .int f1v_3, .int s1v_4, .int n1v_5, .int p1v_6, .int m1v_7]))]) (T := (WW a K KS st hs sc)) hP [0, 1, 2, 3] rfl
  have hD9 : va_D A ((out, .inl (KL, 1, .inr (.inl ofn))) :: ((a 25), .inr (4, [.ref (a 26), .int (nI ty)])) :: ((a 26), .inl (K, 60, .inl bf)) :: ((a 27), .inr (1, [.int k1v_2, .int f1v_3, .int s1v_4, .int n1v_5, .int p1v_6, .int m1v_7])) :: (WW a K KS st hs sc)) := k_subD (wp := [(out, .inl (KL, 1, .inr (.inl ofn))), ((a 25), .inr (4, [.ref (a 26), .int (nI ty)])), ((a 26), .inl (K, 60, .inl bf)), ((a 27), .inr (1, [.int k1v_2, .int f1v_3, .int s1v_4, .int n1v_5, .int p1v_6, .int m1v_7]))]) (wp' := [(out, .inl (KL, 1, .inr (.inl ofn))), ((a 25), .inr (4, [.ref (a 26), .int (nI ty)])), ((a 26), .inl (K, 60, .inl bf)), ((a 27), .inr (1, [.int k1v_2, .int f1v_3, .int s1v_4, .int n1v_5, .int p1v_6, .int m1v_7]))]) (T := (WW a K KS st hs sc)) hD [0, 1, 2, 3] (by decide) rfl
  have hP9 : va_P D vwCl ((out, .inl (KL, 1, .inr (.inl ofn))) :: ((a 25), .inr (4, [.ref (a 26), .int (nI ty)])) :: ((a 26), .inl (K, 60, .inl bf)) :: ((a 27), .inr (1, [.int k1v_2, .int f1v_3, .int s1v_4, .int n1v_5, .int p1v_6, .int m1v_7])) :: (WW a K KS st hs sc)) H := hP9
  have hD9 : va_D A ((out, .inl (KL, 1, .inr (.inl ofn))) :: ((a 25), .inr (4, [.ref (a 26), .int (nI ty)])) :: ((a 26), .inl (K, 60, .inl bf)) :: ((a 27), .inr (1, [.int k1v_2, .int f1v_3, .int s1v_4, .int n1v_5, .int p1v_6, .int m1v_7])) :: (WW a K KS st hs sc)) := hD9
  have hK9 : va_K D vwCl [] s := hK.sub [] rfl
  exact W.iret (v := 1) hx hb hr (fun t ht9 hW9 => ⟨⟨1, (k1v_2, f1v_3, s1v_4, n1v_5, p1v_6, m1v_7), rfl, by exact ⟨rfl, hpo⟩, ⟨by rw [ht9]; exact hP9, va_K.moved hW9.alike hK9, hD9⟩⟩, hS.F ht9⟩) hS.2.2 dL_run_13
