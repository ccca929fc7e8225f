theorem inA_X0 : ∀ w ∈ u_ws RX0 TX0 3, w ∈ wsA := by
  show ∀ w ∈ ([u_lay RX0 TX0 0, u_lay RX0 TX0 1, u_lay RX0 TX0 2] : List Cond), w ∈ wsA
  exact List.forall_mem_cons.mpr ⟨mA 79 rfl rfl, List.forall_mem_cons.mpr ⟨mA 81 rfl rfl, List.forall_mem_cons.mpr ⟨mA 83 rfl rfl, fun _ h => absurd h List.not_mem_nil⟩⟩⟩
theorem lf_X0_14 : Cond.fieldLink RX0 14 "BarcodeWand$CodeList" "numbers" "LBarcodeWand$Row;" ∈ wsA := mA 73 rfl rfl
theorem lk_X4_size : Cond.code yX4_size cX4_size 1 (some .int) ∈ wsA := mA 226 rfl rfl
theorem ly_X4_size : k_y yX4_size 0 := ⟨by decide +kernel, by decide +kernel, by decide +kernel⟩
theorem lm_X4_size : Cond.instanceMethod yX4_size ∈ wsA := mA 224 rfl rfl
theorem le_X4_size : Cond.selects (yX4_size).cls yX4_size yX4_size ∈ wsA := mA 225 rfl rfl
set_option maxRecDepth 20000 in
theorem Lv_X0_26 : k_LV RX0 26 yX4_size cX4_size 1 (some .int) 0 := ⟨mA 342 rfl rfl, lm_X4_size, le_X4_size, li_BarcodeWand_Row, lk_X4_size, ly_X4_size⟩
set_option maxRecDepth 20000 in
theorem lk_X4_isFull : Cond.code yX4_isFull cX4_isFull 1 (some .boolean) ∈ wsA := mA 351 rfl rfl
theorem ly_X4_isFull : k_y yX4_isFull 0 := ⟨by decide +kernel, by decide +kernel, by decide +kernel⟩
set_option maxRecDepth 20000 in
theorem lm_X4_isFull : Cond.instanceMethod yX4_isFull ∈ wsA := mA 349 rfl rfl
set_option maxRecDepth 20000 in
theorem le_X4_isFull : Cond.selects (yX4_isFull).cls yX4_isFull yX4_isFull ∈ wsA := mA 350 rfl rfl
set_option maxRecDepth 20000 in
theorem Lv_X0_38 : k_LV RX0 38 yX4_isFull cX4_isFull 1 (some .boolean) 0 := ⟨mA 348 rfl rfl, lm_X4_isFull, le_X4_isFull, li_BarcodeWand_Row, lk_X4_isFull, ly_X4_isFull⟩
set_option maxRecDepth 20000 in
theorem Lv_X0_45 : k_LV RX0 45 yX4_add cX4_add 2 none 1 := ⟨mA 357 rfl rfl, lm_X4_add, le_X4_add, li_BarcodeWand_Row, lk_X4_add, ly_X4_add⟩
theorem lf_X0_20 : Cond.fieldLink RX0 20 "BarcodeWand$CodeList" "lengths" "LBarcodeWand$Row;" ∈ wsA := mA 75 rfl rfl
theorem lf_X0_23 : Cond.fieldLink RX0 23 "BarcodeWand$CodeList" "counts" "LBarcodeWand$Row;" ∈ wsA := mA 77 rfl rfl
set_option maxRecDepth 20000 in
theorem lk_X4_removeFirst : Cond.code yX4_removeFirst cX4_removeFirst 2 none ∈ wsA := mA 355 rfl rfl
theorem ly_X4_removeFirst : k_y yX4_removeFirst 0 := ⟨by decide +kernel, by decide +kernel, by decide +kernel⟩
set_option maxRecDepth 20000 in
theorem lm_X4_removeFirst : Cond.instanceMethod yX4_removeFirst ∈ wsA := mA 353 rfl rfl
set_option maxRecDepth 20000 in
theorem le_X4_removeFirst : Cond.selects (yX4_removeFirst).cls yX4_removeFirst yX4_removeFirst ∈ wsA := mA 354 rfl rfl
set_option maxRecDepth 20000 in
theorem Lv_X0_42 : k_LV RX0 42 yX4_removeFirst cX4_removeFirst 2 none 0 := ⟨mA 352 rfl rfl, lm_X4_removeFirst, le_X4_removeFirst, li_BarcodeWand_Row, lk_X4_removeFirst, ly_X4_removeFirst⟩
set_option maxRecDepth 20000 in
theorem Lv_X0_30 : k_LV RX0 30 yX4_at cX4_at 2 (some .int) 1 := ⟨mA 343 rfl rfl, lm_X4_at, le_X4_at, li_BarcodeWand_Row, lk_X4_at, ly_X4_at⟩
set_option maxRecDepth 20000 in
theorem Lv_X0_34 : k_LV RX0 34 yX4_put cX4_put 3 none 2 := ⟨mA 344 rfl rfl, lm_X4_put, le_X4_put, li_BarcodeWand_Row, lk_X4_put, ly_X4_put⟩
theorem lk_X4_copyFrom : Cond.code yX4_copyFrom cX4_copyFrom 3 none ∈ wsA := mA 253 rfl rfl
theorem ly_X4_copyFrom : k_y yX4_copyFrom 1 := ⟨by decide +kernel, by decide +kernel, by decide +kernel⟩
theorem lm_X4_copyFrom : Cond.instanceMethod yX4_copyFrom ∈ wsA := mA 251 rfl rfl
theorem le_X4_copyFrom : Cond.selects (yX4_copyFrom).cls yX4_copyFrom yX4_copyFrom ∈ wsA := mA 252 rfl rfl
theorem Lv_X0_48 : k_LV RX0 48 yX4_copyFrom cX4_copyFrom 3 none 1 := ⟨mA 271 rfl rfl, lm_X4_copyFrom, le_X4_copyFrom, li_BarcodeWand_Row, lk_X4_copyFrom, ly_X4_copyFrom⟩
theorem dX0_countReading_0 : decode cX0_countReading 0 = .ok (.iconst 0, 1) := by decide +kernel
theorem dX0_countReading_1 : decode cX0_countReading 1 = .ok (.istore_n 3, 1) := by decide +kernel
theorem dX0_countReading_2 : decode cX0_countReading 2 = .ok (.iload_n 3, 1) := by decide +kernel
theorem dX0_countReading_3 : decode cX0_countReading 3 = .ok (.aload_n 0, 1) := by decide +kernel
theorem dX0_countReading_4 : decode cX0_countReading 4 = .ok (.getfield 14, 3) := by decide +kernel
theorem dX0_countReading_7 : decode cX0_countReading 7 = .ok (.invokevirtual 26, 3) := by decide +kernel
theorem dX0_countReading_10 : decode cX0_countReading 10 = .ok (.if_icmp .ge 52, 3) := by decide +kernel
theorem dX0_countReading_13 : decode cX0_countReading 13 = .ok (.aload_n 0, 1) := by decide +kernel
theorem dX0_countReading_14 : decode cX0_countReading 14 = .ok (.getfield 14, 3) := by decide +kernel
theorem dX0_countReading_17 : decode cX0_countReading 17 = .ok (.iload_n 3, 1) := by decide +kernel
theorem dX0_countReading_18 : decode cX0_countReading 18 = .ok (.invokevirtual 30, 3) := by decide +kernel
theorem dX0_countReading_21 : decode cX0_countReading 21 = .ok (.iload_n 1, 1) := by decide +kernel
theorem dX0_countReading_22 : decode cX0_countReading 22 = .ok (.if_icmp .ne 34, 3) := by decide +kernel
theorem dX0_countReading_25 : decode cX0_countReading 25 = .ok (.aload_n 0, 1) := by decide +kernel
theorem dX0_countReading_26 : decode cX0_countReading 26 = .ok (.getfield 20, 3) := by decide +kernel
theorem dX0_countReading_29 : decode cX0_countReading 29 = .ok (.iload_n 3, 1) := by decide +kernel
theorem dX0_countReading_30 : decode cX0_countReading 30 = .ok (.invokevirtual 30, 3) := by decide +kernel
theorem dX0_countReading_33 : decode cX0_countReading 33 = .ok (.iload_n 2, 1) := by decide +kernel
theorem dX0_countReading_34 : decode cX0_countReading 34 = .ok (.if_icmp .ne 22, 3) := by decide +kernel
theorem dX0_countReading_37 : decode cX0_countReading 37 = .ok (.aload_n 0, 1) := by decide +kernel
theorem dX0_countReading_38 : decode cX0_countReading 38 = .ok (.getfield 23, 3) := by decide +kernel
theorem dX0_countReading_41 : decode cX0_countReading 41 = .ok (.iload_n 3, 1) := by decide +kernel
theorem dX0_countReading_42 : decode cX0_countReading 42 = .ok (.aload_n 0, 1) := by decide +kernel
theorem dX0_countReading_43 : decode cX0_countReading 43 = .ok (.getfield 23, 3) := by decide +kernel
theorem dX0_countReading_46 : decode cX0_countReading 46 = .ok (.iload_n 3, 1) := by decide +kernel
theorem dX0_countReading_47 : decode cX0_countReading 47 = .ok (.invokevirtual 30, 3) := by decide +kernel
theorem dX0_countReading_50 : decode cX0_countReading 50 = .ok (.iconst 1, 1) := by decide +kernel
theorem dX0_countReading_51 : decode cX0_countReading 51 = .ok (.iadd, 1) := by decide +kernel
theorem dX0_countReading_52 : decode cX0_countReading 52 = .ok (.invokevirtual 34, 3) := by decide +kernel
theorem dX0_countReading_55 : decode cX0_countReading 55 = .ok (.return_, 1) := by decide +kernel
theorem dX0_countReading_56 : decode cX0_countReading 56 = .ok (.iinc 3 1, 3) := by decide +kernel
theorem dX0_countReading_59 : decode cX0_countReading 59 = .ok (.goto (-57), 3) := by decide +kernel
theorem dX0_countReading_62 : decode cX0_countReading 62 = .ok (.aload_n 0, 1) := by decide +kernel
theorem dX0_countReading_63 : decode cX0_countReading 63 = .ok (.getfield 14, 3) := by decide +kernel
theorem dX0_countReading_66 : decode cX0_countReading 66 = .ok (.invokevirtual 38, 3) := by decide +kernel
theorem dX0_countReading_69 : decode cX0_countReading 69 = .ok (.ifCond .eq 24, 3) := by decide +kernel
theorem dX0_countReading_72 : decode cX0_countReading 72 = .ok (.aload_n 0, 1) := by decide +kernel
theorem dX0_countReading_73 : decode cX0_countReading 73 = .ok (.getfield 14, 3) := by decide +kernel
theorem dX0_countReading_76 : decode cX0_countReading 76 = .ok (.invokevirtual 42, 3) := by decide +kernel
theorem dX0_countReading_79 : decode cX0_countReading 79 = .ok (.aload_n 0, 1) := by decide +kernel
theorem dX0_countReading_80 : decode cX0_countReading 80 = .ok (.getfield 20, 3) := by decide +kernel
theorem dX0_countReading_83 : decode cX0_countReading 83 = .ok (.invokevirtual 42, 3) := by decide +kernel
theorem dX0_countReading_86 : decode cX0_countReading 86 = .ok (.aload_n 0, 1) := by decide +kernel
theorem dX0_countReading_87 : decode cX0_countReading 87 = .ok (.getfield 23, 3) := by decide +kernel
theorem dX0_countReading_90 : decode cX0_countReading 90 = .ok (.invokevirtual 42, 3) := by decide +kernel
theorem dX0_countReading_93 : decode cX0_countReading 93 = .ok (.aload_n 0, 1) := by decide +kernel
theorem dX0_countReading_94 : decode cX0_countReading 94 = .ok (.getfield 14, 3) := by decide +kernel
theorem dX0_countReading_97 : decode cX0_countReading 97 = .ok (.iload_n 1, 1) := by decide +kernel
theorem dX0_countReading_98 : decode cX0_countReading 98 = .ok (.invokevirtual 45, 3) := by decide +kernel
theorem dX0_countReading_101 : decode cX0_countReading 101 = .ok (.aload_n 0, 1) := by decide +kernel
theorem dX0_countReading_102 : decode cX0_countReading 102 = .ok (.getfield 20, 3) := by decide +kernel
theorem dX0_countReading_105 : decode cX0_countReading 105 = .ok (.iload_n 2, 1) := by decide +kernel
theorem dX0_countReading_106 : decode cX0_countReading 106 = .ok (.invokevirtual 45, 3) := by decide +kernel
theorem dX0_countReading_109 : decode cX0_countReading 109 = .ok (.aload_n 0, 1) := by decide +kernel
theorem dX0_countReading_110 : decode cX0_countReading 110 = .ok (.getfield 23, 3) := by decide +kernel
theorem dX0_countReading_113 : decode cX0_countReading 113 = .ok (.iconst 1, 1) := by decide +kernel
theorem dX0_countReading_114 : decode cX0_countReading 114 = .ok (.invokevirtual 45, 3) := by decide +kernel
theorem dX0_countReading_117 : decode cX0_countReading 117 = .ok (.return_, 1) := by decide +kernel
theorem dX0_copyFrom_0 : decode cX0_copyFrom 0 = .ok (.aload_n 0, 1) := by decide +kernel
theorem dX0_copyFrom_1 : decode cX0_copyFrom 1 = .ok (.getfield 14, 3) := by decide +kernel
theorem dX0_copyFrom_4 : decode cX0_copyFrom 4 = .ok (.aload_n 1, 1) := by decide +kernel
theorem dX0_copyFrom_5 : decode cX0_copyFrom 5 = .ok (.getfield 14, 3) := by decide +kernel
theorem dX0_copyFrom_8 : decode cX0_copyFrom 8 = .ok (.invokevirtual 48, 3) := by decide +kernel
theorem dX0_copyFrom_11 : decode cX0_copyFrom 11 = .ok (.aload_n 0, 1) := by decide +kernel
theorem dX0_copyFrom_12 : decode cX0_copyFrom 12 = .ok (.getfield 20, 3) := by decide +kernel
theorem dX0_copyFrom_15 : decode cX0_copyFrom 15 = .ok (.aload_n 1, 1) := by decide +kernel
theorem dX0_copyFrom_16 : decode cX0_copyFrom 16 = .ok (.getfield 20, 3) := by decide +kernel
theorem dX0_copyFrom_19 : decode cX0_copyFrom 19 = .ok (.invokevirtual 48, 3) := by decide +kernel
theorem dX0_copyFrom_22 : decode cX0_copyFrom 22 = .ok (.aload_n 0, 1) := by decide +kernel
theorem dX0_copyFrom_23 : decode cX0_copyFrom 23 = .ok (.getfield 23, 3) := by decide +kernel
theorem dX0_copyFrom_26 : decode cX0_copyFrom 26 = .ok (.aload_n 1, 1) := by decide +kernel
theorem dX0_copyFrom_27 : decode cX0_copyFrom 27 = .ok (.getfield 23, 3) := by decide +kernel
theorem dX0_copyFrom_30 : decode cX0_copyFrom 30 = .ok (.invokevirtual 48, 3) := by decide +kernel
theorem dX0_copyFrom_33 : decode cX0_copyFrom 33 = .ok (.return_, 1) := by decide +kernel
/-- a code is counted: once more, as a new one, or as a new one behind nine -/
def cntR (k : Nat) (f g c : Nat → Int32) (v w : Int32) (k1 : Nat) (f1 g1 c1 : Nat → Int32) : Prop :=
  (∃ i, i < k ∧ (∀ m, m < i → ¬ (f m = v ∧ g m = w)) ∧ f i = v ∧ g i = w ∧ k1 = k ∧ f1 = f ∧ g1 = g ∧ c1 = upd c i (c i + 1)) ∨
  ((∀ m, m < k → ¬ (f m = v ∧ g m = w)) ∧ k < 10 ∧ k1 = k + 1 ∧ f1 = upd f k v ∧ g1 = upd g k w ∧ c1 = upd c k 1) ∨
  ((∀ m, m < k → ¬ (f m = v ∧ g m = w)) ∧ k = 10 ∧ k1 = 10 ∧ f1 = upd (shl f 10) 9 v ∧ g1 = upd (shl g 10) 9 w ∧ c1 = upd (shl c 10) 9 1)
set_option maxHeartbeats 4000000 in
set_option maxRecDepth 100000 in
theorem c_countReading (l : Launch) (D : va_G) (li : Nat) (ln : Nat) (ll : Nat) (lc : Nat) (lnA : Nat) (k : Nat) (K : ClassId) (f : Nat → Int32) (llA : Nat) (g : Nat → Int32) (lcA : Nat) (cn : Nat → Int32) (v : Int32) (w : Int32) (hk : k ≤ 10) (sz : Nat) : k_Mv (S := Nat × (Nat → Int32) × (Nat → Int32) × (Nat → Int32)) l D yX0_countReading cX0_countReading 4 none 2 0 0 43 [.ref li, .int v, .int w] [(li, .inr (0, [.ref ln, .ref ll, .ref lc])), (ln, .inr (4, [.ref lnA, .int (nI k)])), (lnA, .inl (K, 10, .inl f)), (ll, .inr (4, [.ref llA, .int (nI k)])), (llA, .inl (K, 10, .inl g)), (lc, .inr (4, [.ref lcA, .int (nI k)])), (lcA, .inl (K, 10, .inl cn))] [(K, .int)] (fun (u : Nat × (Nat → Int32) × (Nat → Int32) × (Nat → Int32)) => match u with | (k1, f1, g1, c1) => cntR k f g cn v w k1 f1 g1 c1) (fun u => match u with | (k1, f1, g1, c1) => [(li, .inr (0, [.ref ln, .ref ll, .ref lc])), (ln, .inr (4, [.ref lnA, .int (nI k1)])), (lnA, .inl (K, 10, .inl f1)), (ll, .inr (4, [.ref llA, .int (nI k1)])), (llA, .inl (K, 10, .inl g1)), (lc, .inr (4, [.ref lcA, .int (nI k1)])), (lcA, .inl (K, 10, .inl c1))]) (fun u => match u with | (k1, f1, g1, c1) => []) sz := by
  refine Met.ofW (cc := cX0_countReading) (maxL := 4) (ret := none) (by decide) rfl ?_
  intro p e s m args below meth c s₁ B hml hv
  obtain ⟨rfl, hsz, hP, hK, hD0, hG⟩ := hv
  have hx := B.exec
  have hb := B.bytes
  have hr := B.returns
  have ht : ∀ v9 ∈ wsA, v9.before ([.ref li, .int v, .int w] : List Value).toArray s = true := fun v9 h9 => atoms_spec (ws := k_ws yX0_countReading cX0_countReading 4 none) B.pre v9 (List.mem_cons_of_mem _ h9)
  have hown : s.vm.findClass RX0 = some m.cls := findClass_of_methodNamed B.named
  have S0 : k_C p s m ([.ref li, .int v, .int w] : List Value).toArray c cX0_countReading 4 RX0 := ⟨hx, hb, hml, hown, ht⟩
  have hlocks := B.notSynchronized
  subst hsz
  have hD := hD0.self (sz := s.heap.size)
  generalize hAe : va_A [(li, .inr (0, [.ref ln, .ref ll, .ref lc])), (ln, .inr (4, [.ref lnA, .int (nI k)])), (lnA, .inl (K, 10, .inl f)), (ll, .inr (4, [.ref llA, .int (nI k)])), (llA, .inl (K, 10, .inl g)), (lc, .inr (4, [.ref lcA, .int (nI k)])), (lcA, .inl (K, 10, .inl cn))] s.heap.size = A at hD hG ⊢
  have hA : ∀ q : Nat, s.heap.size ≤ q → A q := fun q h => by rw [← hAe]; exact Or.inr h
  have hS : va_S A s.heap s.heap [] := va_S.rf
  have hl := lv_entry ([.ref li, .int v, .int w]) (n := 4) (Nat.le_of_ble_eq_true rfl)
  rw [lg_entry_eq]
  generalize (lg_sl ([.ref li, .int v, .int w]) ++ List.replicate (4 - (lg_sl ([.ref li, .int v, .int w])).length) Slot.unset).toArray = ls at hl ⊢
  have hl : lv_has ls 4 [(0, .ref li), (1, .int v), (2, .int w)] := hl
  have hP : va_P D vwCl [(li, .inr (0, [.ref ln, .ref ll, .ref lc])), (ln, .inr (4, [.ref lnA, .int (nI k)])), (lnA, .inl (K, 10, .inl f)), (ll, .inr (4, [.ref llA, .int (nI k)])), (llA, .inl (K, 10, .inl g)), (lc, .inr (4, [.ref lcA, .int (nI k)])), (lcA, .inl (K, 10, .inl cn))] s.heap := hP
  refine lv_iconst (v := 0) hx hb dX0_countReading_0 (by decide) ?_
  refine lv_istore_n (lv' := [(3, .int 0), (0, .ref li), (1, .int v), (2, .int w)]) hx hb dX0_countReading_1 rfl hl (by decide) rfl (fun ls hl => ?_)
  have hl : lv_has ls 4 [(3, .int (nI 0)), (0, .ref li), (1, .int v), (2, .int w)] := hl
  refine k_loop (ι := Nat) (fun (i : Nat) H9 locs9 ls9 => (i ≤ k) ∧ (∀ m, m < i → ¬ (f m = v ∧ g m = w)) ∧ va_P D vwCl [(li, .inr (0, [.ref ln, .ref ll, .ref lc])), (ln, .inr (4, [.ref lnA, .int (nI k)])), (lnA, .inl (K, 10, .inl f)), (ll, .inr (4, [.ref llA, .int (nI k)])), (llA, .inl (K, 10, .inl g)), (lc, .inr (4, [.ref lcA, .int (nI k)])), (lcA, .inl (K, 10, .inl cn))] H9 ∧ va_D A [(li, .inr (0, [.ref ln, .ref ll, .ref lc])), (ln, .inr (4, [.ref lnA, .int (nI k)])), (lnA, .inl (K, 10, .inl f)), (ll, .inr (4, [.ref llA, .int (nI k)])), (llA, .inl (K, 10, .inl g)), (lc, .inr (4, [.ref lcA, .int (nI k)])), (lcA, .inl (K, 10, .inl cn))] ∧ va_S A s.heap H9 locs9 ∧ lv_has ls9 4 [(3, .int (nI i)), (0, .ref li), (1, .int v), (2, .int w)]) (fun (i : Nat) => k - i) ?_ (0) ⟨(Nat.zero_le _), (fun m9 h9 => absurd h9 (Nat.not_lt_zero m9)), hP.sub [0, 1, 2, 3, 4, 5, 6] rfl, hD.sub [0, 1, 2, 3, 4, 5, 6] (by decide) rfl, hS, lv_sub hl [0, 1, 2, 3] rfl⟩
  intro x9 H locs ls hF9 ih9
  obtain ⟨i, hv9⟩ : ∃ z, z = x9 := ⟨_, rfl⟩
  subst hv9
  obtain ⟨hi, hno, hP, hD, hS, hl⟩ := hF9
  try dsimp only at ih9
  have hP : va_P D vwCl [(li, .inr (0, [.ref ln, .ref ll, .ref lc])), (ln, .inr (4, [.ref lnA, .int (nI k)])), (lnA, .inl (K, 10, .inl f)), (ll, .inr (4, [.ref llA, .int (nI k)])), (llA, .inl (K, 10, .inl g)), (lc, .inr (4, [.ref lcA, .int (nI k)])), (lcA, .inl (K, 10, .inl cn))] H := hP
  have hD : va_D A [(li, .inr (0, [.ref ln, .ref ll, .ref lc])), (ln, .inr (4, [.ref lnA, .int (nI k)])), (lnA, .inl (K, 10, .inl f)), (ll, .inr (4, [.ref llA, .int (nI k)])), (llA, .inl (K, 10, .inl g)), (lc, .inr (4, [.ref lcA, .int (nI k)])), (lcA, .inl (K, 10, .inl cn))] := hD
  have hl : lv_has ls 4 [(3, .int (nI i)), (0, .ref li), (1, .int v), (2, .int w)] := hl
  refine lv_iload_n hx hb dX0_countReading_2 rfl (lv_at hl 0 rfl) ?_
  refine lv_aload_n hx hb dX0_countReading_3 rfl (lv_at hl 1 rfl) ?_
  refine va_get (D := D) (ci := 0) (v := .ref ln) (C := RX0) (T := TX0) (N := 3) hx hb ht inA_X0 hown hK hP 0 rfl rfl 0 (by decide) (ht _ lf_X0_14) (fun _ h9 => h9) rfl dX0_countReading_4 ?_
  have ct := k_cut_of (wc := [(ln, .inr (4, [.ref lnA, .int (nI k)]))]) (wr := [(li, .inr (0, [.ref ln, .ref ll, .ref lc])), (lnA, .inl (K, 10, .inl f)), (ll, .inr (4, [.ref llA, .int (nI k)])), (llA, .inl (K, 10, .inl g)), (lc, .inr (4, [.ref lcA, .int (nI k)])), (lcA, .inl (K, 10, .inl cn))]) (tc := []) hG hS hA hK hP hD [1] [0, 2, 3, 4, 5, 6] [] rfl rfl (by decide) (by decide) (by decide) rfl
  refine k_endi (As := [.ref ln]) ct (k_runV (As := []) (rest := [.int (nI i)]) S0 Lv_X0_26 rfl (ci := 4) (q0 := 0) rfl rfl ct (c_Row_size l D ln lnA (nI k) H.size) hl.1 rfl (Nat.le_of_ble_eq_true rfl) rfl dX0_countReading_7 ⟨⟨Nat.le_of_ble_eq_true rfl, Nat.le_of_ble_eq_true rfl⟩, Nat.le_of_ble_eq_true rfl, Nat.le_of_ble_eq_true rfl⟩) rfl rfl (fun r_1 _ H locs hw_2 hP hD hK hS => ?_)
  have hK : va_K D vwCl [(K, .int)] s := hK
  have hP : va_P D vwCl [(li, .inr (0, [.ref ln, .ref ll, .ref lc])), (lnA, .inl (K, 10, .inl f)), (ll, .inr (4, [.ref llA, .int (nI k)])), (llA, .inl (K, 10, .inl g)), (lc, .inr (4, [.ref lcA, .int (nI k)])), (lcA, .inl (K, 10, .inl cn)), (ln, .inr (4, [.ref lnA, .int (nI k)]))] H := hP
  have hD : va_D A [(li, .inr (0, [.ref ln, .ref ll, .ref lc])), (lnA, .inl (K, 10, .inl f)), (ll, .inr (4, [.ref llA, .int (nI k)])), (llA, .inl (K, 10, .inl g)), (lc, .inr (4, [.ref lcA, .int (nI k)])), (lcA, .inl (K, 10, .inl cn)), (ln, .inr (4, [.ref lnA, .int (nI k)]))] := hD
  have hw_2 : r_1 = (nI k) := hw_2
  have hw_2 := hw_2.symm
  subst hw_2
  refine k_nrm (y := (nI k)) rfl ?_
  refine lv_icmp_ge (tgt := 62) hx hb dX0_countReading_10 (by decide) (fun c_3 => ?_) (fun c_3 => ?_)
  · have hc9 := c_3
    obtain rfl : k = i := by rcases Nat.lt_or_ge i k with q9 | q9; exact absurd c_3 (nI_ge q9 (by omega)); omega
    refine lv_aload_n hx hb dX0_countReading_62 rfl (lv_at hl 1 rfl) ?_
    refine va_get (D := D) (ci := 0) (v := .ref ln) (C := RX0) (T := TX0) (N := 3) hx hb ht inA_X0 hown hK hP 0 rfl rfl 0 (by decide) (ht _ lf_X0_14) (fun _ h9 => h9) rfl dX0_countReading_63 ?_
    have ct := k_cut_of (wc := [(ln, .inr (4, [.ref lnA, .int (nI k)])), (lnA, .inl (K, 10, .inl f))]) (wr := [(li, .inr (0, [.ref ln, .ref ll, .ref lc])), (ll, .inr (4, [.ref llA, .int (nI k)])), (llA, .inl (K, 10, .inl g)), (lc, .inr (4, [.ref lcA, .int (nI k)])), (lcA, .inl (K, 10, .inl cn))]) (tc := [(K, .int)]) hG hS hA hK hP hD [6, 1] [0, 2, 3, 4, 5] [0] rfl rfl (by decide) (by decide) (by decide) rfl
    refine k_endi (As := [.ref ln]) ct (k_runV (As := []) (rest := []) S0 Lv_X0_38 rfl (ci := 4) (q0 := 0) rfl rfl ct (c_Row_isFull l D ln lnA (nI k) K 10 f H.size) hl.1 rfl (Nat.le_of_ble_eq_true rfl) rfl dX0_countReading_66 ⟨⟨Nat.le_of_ble_eq_true rfl, Nat.le_of_ble_eq_true rfl⟩, Nat.le_of_ble_eq_true rfl, Nat.le_of_ble_eq_true rfl⟩) rfl rfl (fun r_4 _ H locs hw_5 hP hD hK hS => ?_)
    have hK : va_K D vwCl [(K, .int)] s := hK
    have hP : va_P D vwCl [(li, .inr (0, [.ref ln, .ref ll, .ref lc])), (ll, .inr (4, [.ref llA, .int (nI k)])), (llA, .inl (K, 10, .inl g)), (lc, .inr (4, [.ref lcA, .int (nI k)])), (lcA, .inl (K, 10, .inl cn)), (ln, .inr (4, [.ref lnA, .int (nI k)])), (lnA, .inl (K, 10, .inl f))] H := hP
    have hD : va_D A [(li, .inr (0, [.ref ln, .ref ll, .ref lc])), (ll, .inr (4, [.ref llA, .int (nI k)])), (llA, .inl (K, 10, .inl g)), (lc, .inr (4, [.ref lcA, .int (nI k)])), (lcA, .inl (K, 10, .inl cn)), (ln, .inr (4, [.ref lnA, .int (nI k)])), (lnA, .inl (K, 10, .inl f))] := hD
    have hw_5 : r_4 = (if nI 10 ≤ (nI k) then 1 else 0) := hw_5
    rcases Nat.lt_or_ge k 10 with hlt10 | hge10
    · refine k_nrm (y := 0) (by rw [hw_5]; exact if_neg (nI_ge hlt10 (by decide))) ?_
      refine lv_if_eq (tgt := 93) hx hb dX0_countReading_69 (by decide) (fun _ => ?_) (fun c9 => absurd (by decide) c9)
      refine lv_aload_n hx hb dX0_countReading_93 rfl (lv_at hl 1 rfl) ?_
      refine va_get (D := D) (ci := 0) (v := .ref ln) (C := RX0) (T := TX0) (N := 3) hx hb ht inA_X0 hown hK hP 0 rfl rfl 0 (by decide) (ht _ lf_X0_14) (fun _ h9 => h9) rfl dX0_countReading_94 ?_
      refine lv_iload_n hx hb dX0_countReading_97 rfl (lv_at hl 2 rfl) ?_
      have ct := k_cut_of (wc := [(ln, .inr (4, [.ref lnA, .int (nI k)])), (lnA, .inl (K, 10, .inl f))]) (wr := [(li, .inr (0, [.ref ln, .ref ll, .ref lc])), (ll, .inr (4, [.ref llA, .int (nI k)])), (llA, .inl (K, 10, .inl g)), (lc, .inr (4, [.ref lcA, .int (nI k)])), (lcA, .inl (K, 10, .inl cn))]) (tc := [(K, .int)]) hG hS hA hK hP hD [5, 6] [0, 1, 2, 3, 4] [0] rfl rfl (by decide) (by decide) (by decide) rfl
      refine k_endv (As := [.ref ln, .int v]) ct (k_runV (As := [.int v]) (rest := []) S0 Lv_X0_45 rfl (ci := 4) (q0 := 0) rfl rfl ct (c_Row_add l D ln lnA k K 10 f v (by first | assumption | decide) (by omega) H.size) hl.1 rfl (Nat.le_of_ble_eq_true rfl) rfl dX0_countReading_98 ⟨⟨Nat.le_of_ble_eq_true rfl, Nat.le_of_ble_eq_true rfl⟩, Nat.le_of_ble_eq_true rfl, Nat.le_of_ble_eq_true rfl⟩) rfl rfl (fun _ _ H locs hw_7 hP hD hK hS => ?_)
      have hK : va_K D vwCl [(K, .int)] s := hK
      have hP : va_P D vwCl [(li, .inr (0, [.ref ln, .ref ll, .ref lc])), (ll, .inr (4, [.ref llA, .int (nI k)])), (llA, .inl (K, 10, .inl g)), (lc, .inr (4, [.ref lcA, .int (nI k)])), (lcA, .inl (K, 10, .inl cn)), (ln, .inr (4, [.ref lnA, .int (nI (k + 1))])), (lnA, .inl (K, 10, .inl (upd f k v)))] H := hP
      have hD : va_D A [(li, .inr (0, [.ref ln, .ref ll, .ref lc])), (ll, .inr (4, [.ref llA, .int (nI k)])), (llA, .inl (K, 10, .inl g)), (lc, .inr (4, [.ref lcA, .int (nI k)])), (lcA, .inl (K, 10, .inl cn)), (ln, .inr (4, [.ref lnA, .int (nI (k + 1))])), (lnA, .inl (K, 10, .inl (upd f k v)))] := hD
      refine lv_aload_n hx hb dX0_countReading_101 rfl (lv_at hl 1 rfl) ?_
      refine va_get (D := D) (ci := 0) (v := .ref ll) (C := RX0) (T := TX0) (N := 3) hx hb ht inA_X0 hown hK hP 0 rfl rfl 1 (by decide) (ht _ lf_X0_20) (fun _ h9 => h9) rfl dX0_countReading_102 ?_
      refine lv_iload_n hx hb dX0_countReading_105 rfl (lv_at hl 3 rfl) ?_
      have ct := k_cut_of (wc := [(ll, .inr (4, [.ref llA, .int (nI k)])), (llA, .inl (K, 10, .inl g))]) (wr := [(li, .inr (0, [.ref ln, .ref ll, .ref lc])), (lc, .inr (4, [.ref lcA, .int (nI k)])), (lcA, .inl (K, 10, .inl cn)), (ln, .inr (4, [.ref lnA, .int (nI (k + 1))])), (lnA, .inl (K, 10, .inl (upd f k v)))]) (tc := [(K, .int)]) hG hS hA hK hP hD [1, 2] [0, 3, 4, 5, 6] [0] rfl rfl (by decide) (by decide) (by decide) rfl
      refine k_endv (As := [.ref ll, .int w]) ct (k_runV (As := [.int w]) (rest := []) S0 Lv_X0_45 rfl (ci := 4) (q0 := 0) rfl rfl ct (c_Row_add l D ll llA k K 10 g w (by first | assumption | decide) (by omega) H.size) hl.1 rfl (Nat.le_of_ble_eq_true rfl) rfl dX0_countReading_106 ⟨⟨Nat.le_of_ble_eq_true rfl, Nat.le_of_ble_eq_true rfl⟩, Nat.le_of_ble_eq_true rfl, Nat.le_of_ble_eq_true rfl⟩) rfl rfl (fun _ _ H locs hw_9 hP hD hK hS => ?_)
      have hK : va_K D vwCl [(K, .int)] s := hK
      have hP : va_P D vwCl [(li, .inr (0, [.ref ln, .ref ll, .ref lc])), (lc, .inr (4, [.ref lcA, .int (nI k)])), (lcA, .inl (K, 10, .inl cn)), (ln, .inr (4, [.ref lnA, .int (nI (k + 1))])), (lnA, .inl (K, 10, .inl (upd f k v))), (ll, .inr (4, [.ref llA, .int (nI (k + 1))])), (llA, .inl (K, 10, .inl (upd g k w)))] H := hP
      have hD : va_D A [(li, .inr (0, [.ref ln, .ref ll, .ref lc])), (lc, .inr (4, [.ref lcA, .int (nI k)])), (lcA, .inl (K, 10, .inl cn)), (ln, .inr (4, [.ref lnA, .int (nI (k + 1))])), (lnA, .inl (K, 10, .inl (upd f k v))), (ll, .inr (4, [.ref llA, .int (nI (k + 1))])), (llA, .inl (K, 10, .inl (upd g k w)))] := hD
      refine lv_aload_n hx hb dX0_countReading_109 rfl (lv_at hl 1 rfl) ?_
      refine va_get (D := D) (ci := 0) (v := .ref lc) (C := RX0) (T := TX0) (N := 3) hx hb ht inA_X0 hown hK hP 0 rfl rfl 2 (by decide) (ht _ lf_X0_23) (fun _ h9 => h9) rfl dX0_countReading_110 ?_
      refine lv_iconst (v := 1) hx hb dX0_countReading_113 (by decide) ?_
      have ct := k_cut_of (wc := [(lc, .inr (4, [.ref lcA, .int (nI k)])), (lcA, .inl (K, 10, .inl cn))]) (wr := [(li, .inr (0, [.ref ln, .ref ll, .ref lc])), (ln, .inr (4, [.ref lnA, .int (nI (k + 1))])), (lnA, .inl (K, 10, .inl (upd f k v))), (ll, .inr (4, [.ref llA, .int (nI (k + 1))])), (llA, .inl (K, 10, .inl (upd g k w)))]) (tc := [(K, .int)]) hG hS hA hK hP hD [1, 2] [0, 3, 4, 5, 6] [0] rfl rfl (by decide) (by decide) (by decide) rfl
      refine k_endv (As := [.ref lc, .int 1]) ct (k_runV (As := [.int 1]) (rest := []) S0 Lv_X0_45 rfl (ci := 4) (q0 := 0) rfl rfl ct (c_Row_add l D lc lcA k K 10 cn 1 (by first | assumption | decide) (by omega) H.size) hl.1 rfl (Nat.le_of_ble_eq_true rfl) rfl dX0_countReading_114 ⟨⟨Nat.le_of_ble_eq_true rfl, Nat.le_of_ble_eq_true rfl⟩, Nat.le_of_ble_eq_true rfl, Nat.le_of_ble_eq_true rfl⟩) rfl rfl (fun _ _ H locs hw_11 hP hD hK hS => ?_)
      have hK : va_K D vwCl [(K, .int)] s := hK
      have hP : va_P D vwCl [(li, .inr (0, [.ref ln, .ref ll, .ref lc])), (ln, .inr (4, [.ref lnA, .int (nI (k + 1))])), (lnA, .inl (K, 10, .inl (upd f k v))), (ll, .inr (4, [.ref llA, .int (nI (k + 1))])), (llA, .inl (K, 10, .inl (upd g k w))), (lc, .inr (4, [.ref lcA, .int (nI (k + 1))])), (lcA, .inl (K, 10, .inl (upd cn k 1)))] H := hP
      have hD : va_D A [(li, .inr (0, [.ref ln, .ref ll, .ref lc])), (ln, .inr (4, [.ref lnA, .int (nI (k + 1))])), (lnA, .inl (K, 10, .inl (upd f k v))), (ll, .inr (4, [.ref llA, .int (nI (k + 1))])), (llA, .inl (K, 10, .inl (upd g k w))), (lc, .inr (4, [.ref lcA, .int (nI (k + 1))])), (lcA, .inl (K, 10, .inl (upd cn k 1)))] := hD
      have hP9 : va_P D vwCl [(li, .inr (0, [.ref ln, .ref ll, .ref lc])), (ln, .inr (4, [.ref lnA, .int (nI (k + 1))])), (lnA, .inl (K, 10, .inl (upd f k v))), (ll, .inr (4, [.ref llA, .int (nI (k + 1))])), (llA, .inl (K, 10, .inl (upd g k w))), (lc, .inr (4, [.ref lcA, .int (nI (k + 1))])), (lcA, .inl (K, 10, .inl (upd cn k 1)))] H := hP.sub [0, 1, 2, 3, 4, 5, 6] rfl
      have hD9 : va_D A [(li, .inr (0, [.ref ln, .ref ll, .ref lc])), (ln, .inr (4, [.ref lnA, .int (nI (k + 1))])), (lnA, .inl (K, 10, .inl (upd f k v))), (ll, .inr (4, [.ref llA, .int (nI (k + 1))])), (llA, .inl (K, 10, .inl (upd g k w))), (lc, .inr (4, [.ref lcA, .int (nI (k + 1))])), (lcA, .inl (K, 10, .inl (upd cn k 1)))] := hD.sub [0, 1, 2, 3, 4, 5, 6] (by decide) rfl
      have hK9 : va_K D vwCl [] s := hK.sub [] rfl
      exact W.vret hx hb hr (fun t ht9 hW9 => ⟨⟨((k + 1), (upd f k v), (upd g k w), (upd cn k 1)), rfl, by exact Or.inr (Or.inl ⟨hno, hlt10, rfl, rfl, rfl, rfl⟩), ⟨by rw [ht9]; exact hP9, va_K.moved hW9.alike hK9, hD9⟩⟩, hS.F ht9⟩) hS.2.2 dX0_countReading_117
    · have hk10 : k = 10 := by omega
      refine k_nrm (y := 1) (by rw [hw_5]; exact if_pos (nI_le hge10 (by omega))) ?_
      refine lv_if_eq (tgt := 93) hx hb dX0_countReading_69 (by decide) (fun c9 => absurd c9 (by decide)) (fun _ => ?_)
      refine lv_aload_n hx hb dX0_countReading_72 rfl (lv_at hl 1 rfl) ?_
      refine va_get (D := D) (ci := 0) (v := .ref ln) (C := RX0) (T := TX0) (N := 3) hx hb ht inA_X0 hown hK hP 0 rfl rfl 0 (by decide) (ht _ lf_X0_14) (fun _ h9 => h9) rfl dX0_countReading_73 ?_
      have ct := k_cut_of (wc := [(ln, .inr (4, [.ref lnA, .int (nI k)])), (lnA, .inl (K, 10, .inl f))]) (wr := [(li, .inr (0, [.ref ln, .ref ll, .ref lc])), (ll, .inr (4, [.ref llA, .int (nI k)])), (llA, .inl (K, 10, .inl g)), (lc, .inr (4, [.ref lcA, .int (nI k)])), (lcA, .inl (K, 10, .inl cn))]) (tc := [(K, .int)]) hG hS hA hK hP hD [5, 6] [0, 1, 2, 3, 4] [0] rfl rfl (by decide) (by decide) (by decide) rfl
      refine k_endv (As := [.ref ln]) ct (k_runV (As := []) (rest := []) S0 Lv_X0_42 rfl (ci := 4) (q0 := 0) rfl rfl ct (c_Row_removeFirst l D ln lnA k K 10 f (by first | assumption | decide) (by omega) (by omega) H.size) hl.1 rfl (Nat.le_of_ble_eq_true rfl) rfl dX0_countReading_76 ⟨⟨Nat.le_of_ble_eq_true rfl, Nat.le_of_ble_eq_true rfl⟩, Nat.le_of_ble_eq_true rfl, Nat.le_of_ble_eq_true rfl⟩) rfl rfl (fun _ _ H locs hw_13 hP hD hK hS => ?_)
      have hK : va_K D vwCl [(K, .int)] s := hK
      have hP : va_P D vwCl [(li, .inr (0, [.ref ln, .ref ll, .ref lc])), (ll, .inr (4, [.ref llA, .int (nI k)])), (llA, .inl (K, 10, .inl g)), (lc, .inr (4, [.ref lcA, .int (nI k)])), (lcA, .inl (K, 10, .inl cn)), (ln, .inr (4, [.ref lnA, .int (nI (k - 1))])), (lnA, .inl (K, 10, .inl (shl f k)))] H := hP
      have hD : va_D A [(li, .inr (0, [.ref ln, .ref ll, .ref lc])), (ll, .inr (4, [.ref llA, .int (nI k)])), (llA, .inl (K, 10, .inl g)), (lc, .inr (4, [.ref lcA, .int (nI k)])), (lcA, .inl (K, 10, .inl cn)), (ln, .inr (4, [.ref lnA, .int (nI (k - 1))])), (lnA, .inl (K, 10, .inl (shl f k)))] := hD
      refine lv_aload_n hx hb dX0_countReading_79 rfl (lv_at hl 1 rfl) ?_
      refine va_get (D := D) (ci := 0) (v := .ref ll) (C := RX0) (T := TX0) (N := 3) hx hb ht inA_X0 hown hK hP 0 rfl rfl 1 (by decide) (ht _ lf_X0_20) (fun _ h9 => h9) rfl dX0_countReading_80 ?_
      have ct := k_cut_of (wc := [(ll, .inr (4, [.ref llA, .int (nI k)])), (llA, .inl (K, 10, .inl g))]) (wr := [(li, .inr (0, [.ref ln, .ref ll, .ref lc])), (lc, .inr (4, [.ref lcA, .int (nI k)])), (lcA, .inl (K, 10, .inl cn)), (ln, .inr (4, [.ref lnA, .int (nI (k - 1))])), (lnA, .inl (K, 10, .inl (shl f k)))]) (tc := [(K, .int)]) hG hS hA hK hP hD [1, 2] [0, 3, 4, 5, 6] [0] rfl rfl (by decide) (by decide) (by decide) rfl
      refine k_endv (As := [.ref ll]) ct (k_runV (As := []) (rest := []) S0 Lv_X0_42 rfl (ci := 4) (q0 := 0) rfl rfl ct (c_Row_removeFirst l D ll llA k K 10 g (by first | assumption | decide) (by omega) (by omega) H.size) hl.1 rfl (Nat.le_of_ble_eq_true rfl) rfl dX0_countReading_83 ⟨⟨Nat.le_of_ble_eq_true rfl, Nat.le_of_ble_eq_true rfl⟩, Nat.le_of_ble_eq_true rfl, Nat.le_of_ble_eq_true rfl⟩) rfl rfl (fun _ _ H locs hw_15 hP hD hK hS => ?_)
      have hK : va_K D vwCl [(K, .int)] s := hK
      have hP : va_P D vwCl [(li, .inr (0, [.ref ln, .ref ll, .ref lc])), (lc, .inr (4, [.ref lcA, .int (nI k)])), (lcA, .inl (K, 10, .inl cn)), (ln, .inr (4, [.ref lnA, .int (nI (k - 1))])), (lnA, .inl (K, 10, .inl (shl f k))), (ll, .inr (4, [.ref llA, .int (nI (k - 1))])), (llA, .inl (K, 10, .inl (shl g k)))] H := hP
      have hD : va_D A [(li, .inr (0, [.ref ln, .ref ll, .ref lc])), (lc, .inr (4, [.ref lcA, .int (nI k)])), (lcA, .inl (K, 10, .inl cn)), (ln, .inr (4, [.ref lnA, .int (nI (k - 1))])), (lnA, .inl (K, 10, .inl (shl f k))), (ll, .inr (4, [.ref llA, .int (nI (k - 1))])), (llA, .inl (K, 10, .inl (shl g k)))] := hD
      refine lv_aload_n hx hb dX0_countReading_86 rfl (lv_at hl 1 rfl) ?_
      refine va_get (D := D) (ci := 0) (v := .ref lc) (C := RX0) (T := TX0) (N := 3) hx hb ht inA_X0 hown hK hP 0 rfl rfl 2 (by decide) (ht _ lf_X0_23) (fun _ h9 => h9) rfl dX0_countReading_87 ?_
      have ct := k_cut_of (wc := [(lc, .inr (4, [.ref lcA, .int (nI k)])), (lcA, .inl (K, 10, .inl cn))]) (wr := [(li, .inr (0, [.ref ln, .ref ll, .ref lc])), (ln, .inr (4, [.ref lnA, .int (nI (k - 1))])), (lnA, .inl (K, 10, .inl (shl f k))), (ll, .inr (4, [.ref llA, .int (nI (k - 1))])), (llA, .inl (K, 10, .inl (shl g k)))]) (tc := [(K, .int)]) hG hS hA hK hP hD [1, 2] [0, 3, 4, 5, 6] [0] rfl rfl (by decide) (by decide) (by decide) rfl
      refine k_endv (As := [.ref lc]) ct (k_runV (As := []) (rest := []) S0 Lv_X0_42 rfl (ci := 4) (q0 := 0) rfl rfl ct (c_Row_removeFirst l D lc lcA k K 10 cn (by first | assumption | decide) (by omega) (by omega) H.size) hl.1 rfl (Nat.le_of_ble_eq_true rfl) rfl dX0_countReading_90 ⟨⟨Nat.le_of_ble_eq_true rfl, Nat.le_of_ble_eq_true rfl⟩, Nat.le_of_ble_eq_true rfl, Nat.le_of_ble_eq_true rfl⟩) rfl rfl (fun _ _ H locs hw_17 hP hD hK hS => ?_)
      have hK : va_K D vwCl [(K, .int)] s := hK
      have hP : va_P D vwCl [(li, .inr (0, [.ref ln, .ref ll, .ref lc])), (ln, .inr (4, [.ref lnA, .int (nI (k - 1))])), (lnA, .inl (K, 10, .inl (shl f k))), (ll, .inr (4, [.ref llA, .int (nI (k - 1))])), (llA, .inl (K, 10, .inl (shl g k))), (lc, .inr (4, [.ref lcA, .int (nI (k - 1))])), (lcA, .inl (K, 10, .inl (shl cn k)))] H := hP
      have hD : va_D A [(li, .inr (0, [.ref ln, .ref ll, .ref lc])), (ln, .inr (4, [.ref lnA, .int (nI (k - 1))])), (lnA, .inl (K, 10, .inl (shl f k))), (ll, .inr (4, [.ref llA, .int (nI (k - 1))])), (llA, .inl (K, 10, .inl (shl g k))), (lc, .inr (4, [.ref lcA, .int (nI (k - 1))])), (lcA, .inl (K, 10, .inl (shl cn k)))] := hD
      have hf_18 : ((nI (k - 1)) : Int32) = (nI 9) := by rw [hk10]
      have hP : va_P D vwCl [(li, .inr (0, [.ref ln, .ref ll, .ref lc])), (ln, .inr (4, [.ref lnA, .int (nI 9)])), (lnA, .inl (K, 10, .inl (shl f k))), (ll, .inr (4, [.ref llA, .int (nI (k - 1))])), (llA, .inl (K, 10, .inl (shl g k))), (lc, .inr (4, [.ref lcA, .int (nI (k - 1))])), (lcA, .inl (K, 10, .inl (shl cn k)))] H := (congrArg (fun z9 : Int32 => va_P D vwCl [(li, .inr (0, [.ref ln, .ref ll, .ref lc])), (ln, .inr (4, [.ref lnA, .int z9])), (lnA, .inl (K, 10, .inl (shl f k))), (ll, .inr (4, [.ref llA, .int (nI (k - 1))])), (llA, .inl (K, 10, .inl (shl g k))), (lc, .inr (4, [.ref lcA, .int (nI (k - 1))])), (lcA, .inl (K, 10, .inl (shl cn k)))] H) hf_18).mp hP
      have hD : va_D A [(li, .inr (0, [.ref ln, .ref ll, .ref lc])), (ln, .inr (4, [.ref lnA, .int (nI 9)])), (lnA, .inl (K, 10, .inl (shl f k))), (ll, .inr (4, [.ref llA, .int (nI (k - 1))])), (llA, .inl (K, 10, .inl (shl g k))), (lc, .inr (4, [.ref lcA, .int (nI (k - 1))])), (lcA, .inl (K, 10, .inl (shl cn k)))] := (congrArg (fun z9 : Int32 => va_D A [(li, .inr (0, [.ref ln, .ref ll, .ref lc])), (ln, .inr (4, [.ref lnA, .int z9])), (lnA, .inl (K, 10, .inl (shl f k))), (ll, .inr (4, [.ref llA, .int (nI (k - 1))])), (llA, .inl (K, 10, .inl (shl g k))), (lc, .inr (4, [.ref lcA, .int (nI (k - 1))])), (lcA, .inl (K, 10, .inl (shl cn k)))]) hf_18).mp hD
      have hf_19 : ((shl f k) : Nat → Int32) = (shl f 10) := by rw [hk10]
      have hP : va_P D vwCl [(li, .inr (0, [.ref ln, .ref ll, .ref lc])), (ln, .inr (4, [.ref lnA, .int (nI 9)])), (lnA, .inl (K, 10, .inl (shl f 10))), (ll, .inr (4, [.ref llA, .int (nI (k - 1))])), (llA, .inl (K, 10, .inl (shl g k))), (lc, .inr (4, [.ref lcA, .int (nI (k - 1))])), (lcA, .inl (K, 10, .inl (shl cn k)))] H := (congrArg (fun z9 : Nat → Int32 => va_P D vwCl [(li, .inr (0, [.ref ln, .ref ll, .ref lc])), (ln, .inr (4, [.ref lnA, .int (nI 9)])), (lnA, .inl (K, 10, .inl z9)), (ll, .inr (4, [.ref llA, .int (nI (k - 1))])), (llA, .inl (K, 10, .inl (shl g k))), (lc, .inr (4, [.ref lcA, .int (nI (k - 1))])), (lcA, .inl (K, 10, .inl (shl cn k)))] H) hf_19).mp hP
      have hD : va_D A [(li, .inr (0, [.ref ln, .ref ll, .ref lc])), (ln, .inr (4, [.ref lnA, .int (nI 9)])), (lnA, .inl (K, 10, .inl (shl f 10))), (ll, .inr (4, [.ref llA, .int (nI (k - 1))])), (llA, .inl (K, 10, .inl (shl g k))), (lc, .inr (4, [.ref lcA, .int (nI (k - 1))])), (lcA, .inl (K, 10, .inl (shl cn k)))] := (congrArg (fun z9 : Nat → Int32 => va_D A [(li, .inr (0, [.ref ln, .ref ll, .ref lc])), (ln, .inr (4, [.ref lnA, .int (nI 9)])), (lnA, .inl (K, 10, .inl z9)), (ll, .inr (4, [.ref llA, .int (nI (k - 1))])), (llA, .inl (K, 10, .inl (shl g k))), (lc, .inr (4, [.ref lcA, .int (nI (k - 1))])), (lcA, .inl (K, 10, .inl (shl cn k)))]) hf_19).mp hD
      have hf_20 : ((nI (k - 1)) : Int32) = (nI 9) := by rw [hk10]
      have hP : va_P D vwCl [(li, .inr (0, [.ref ln, .ref ll, .ref lc])), (ln, .inr (4, [.ref lnA, .int (nI 9)])), (lnA, .inl (K, 10, .inl (shl f 10))), (ll, .inr (4, [.ref llA, .int (nI 9)])), (llA, .inl (K, 10, .inl (shl g k))), (lc, .inr (4, [.ref lcA, .int (nI (k - 1))])), (lcA, .inl (K, 10, .inl (shl cn k)))] H := (congrArg (fun z9 : Int32 => va_P D vwCl [(li, .inr (0, [.ref ln, .ref ll, .ref lc])), (ln, .inr (4, [.ref lnA, .int (nI 9)])), (lnA, .inl (K, 10, .inl (shl f 10))), (ll, .inr (4, [.ref llA, .int z9])), (llA, .inl (K, 10, .inl (shl g k))), (lc, .inr (4, [.ref lcA, .int (nI (k - 1))])), (lcA, .inl (K, 10, .inl (shl cn k)))] H) hf_20).mp hP
      have hD : va_D A [(li, .inr (0, [.ref ln, .ref ll, .ref lc])), (ln, .inr (4, [.ref lnA, .int (nI 9)])), (lnA, .inl (K, 10, .inl (shl f 10))), (ll, .inr (4, [.ref llA, .int (nI 9)])), (llA, .inl (K, 10, .inl (shl g k))), (lc, .inr (4, [.ref lcA, .int (nI (k - 1))])), (lcA, .inl (K, 10, .inl (shl cn k)))] := (congrArg (fun z9 : Int32 => va_D A [(li, .inr (0, [.ref ln, .ref ll, .ref lc])), (ln, .inr (4, [.ref lnA, .int (nI 9)])), (lnA, .inl (K, 10, .inl (shl f 10))), (ll, .inr (4, [.ref llA, .int z9])), (llA, .inl (K, 10, .inl (shl g k))), (lc, .inr (4, [.ref lcA, .int (nI (k - 1))])), (lcA, .inl (K, 10, .inl (shl cn k)))]) hf_20).mp hD
      have hf_21 : ((shl g k) : Nat → Int32) = (shl g 10) := by rw [hk10]
      have hP : va_P D vwCl [(li, .inr (0, [.ref ln, .ref ll, .ref lc])), (ln, .inr (4, [.ref lnA, .int (nI 9)])), (lnA, .inl (K, 10, .inl (shl f 10))), (ll, .inr (4, [.ref llA, .int (nI 9)])), (llA, .inl (K, 10, .inl (shl g 10))), (lc, .inr (4, [.ref lcA, .int (nI (k - 1))])), (lcA, .inl (K, 10, .inl (shl cn k)))] H := (congrArg (fun z9 : Nat → Int32 => va_P D vwCl [(li, .inr (0, [.ref ln, .ref ll, .ref lc])), (ln, .inr (4, [.ref lnA, .int (nI 9)])), (lnA, .inl (K, 10, .inl (shl f 10))), (ll, .inr (4, [.ref llA, .int (nI 9)])), (llA, .inl (K, 10, .inl z9)), (lc, .inr (4, [.ref lcA, .int (nI (k - 1))])), (lcA, .inl (K, 10, .inl (shl cn k)))] H) hf_21).mp hP
      have hD : va_D A [(li, .inr (0, [.ref ln, .ref ll, .ref lc])), (ln, .inr (4, [.ref lnA, .int (nI 9)])), (lnA, .inl (K, 10, .inl (shl f 10))), (ll, .inr (4, [.ref llA, .int (nI 9)])), (llA, .inl (K, 10, .inl (shl g 10))), (lc, .inr (4, [.ref lcA, .int (nI (k - 1))])), (lcA, .inl (K, 10, .inl (shl cn k)))] := (congrArg (fun z9 : Nat → Int32 => va_D A [(li, .inr (0, [.ref ln, .ref ll, .ref lc])), (ln, .inr (4, [.ref lnA, .int (nI 9)])), (lnA, .inl (K, 10, .inl (shl f 10))), (ll, .inr (4, [.ref llA, .int (nI 9)])), (llA, .inl (K, 10, .inl z9)), (lc, .inr (4, [.ref lcA, .int (nI (k - 1))])), (lcA, .inl (K, 10, .inl (shl cn k)))]) hf_21).mp hD
      have hf_22 : ((nI (k - 1)) : Int32) = (nI 9) := by rw [hk10]
      have hP : va_P D vwCl [(li, .inr (0, [.ref ln, .ref ll, .ref lc])), (ln, .inr (4, [.ref lnA, .int (nI 9)])), (lnA, .inl (K, 10, .inl (shl f 10))), (ll, .inr (4, [.ref llA, .int (nI 9)])), (llA, .inl (K, 10, .inl (shl g 10))), (lc, .inr (4, [.ref lcA, .int (nI 9)])), (lcA, .inl (K, 10, .inl (shl cn k)))] H := (congrArg (fun z9 : Int32 => va_P D vwCl [(li, .inr (0, [.ref ln, .ref ll, .ref lc])), (ln, .inr (4, [.ref lnA, .int (nI 9)])), (lnA, .inl (K, 10, .inl (shl f 10))), (ll, .inr (4, [.ref llA, .int (nI 9)])), (llA, .inl (K, 10, .inl (shl g 10))), (lc, .inr (4, [.ref lcA, .int z9])), (lcA, .inl (K, 10, .inl (shl cn k)))] H) hf_22).mp hP
      have hD : va_D A [(li, .inr (0, [.ref ln, .ref ll, .ref lc])), (ln, .inr (4, [.ref lnA, .int (nI 9)])), (lnA, .inl (K, 10, .inl (shl f 10))), (ll, .inr (4, [.ref llA, .int (nI 9)])), (llA, .inl (K, 10, .inl (shl g 10))), (lc, .inr (4, [.ref lcA, .int (nI 9)])), (lcA, .inl (K, 10, .inl (shl cn k)))] := (congrArg (fun z9 : Int32 => va_D A [(li, .inr (0, [.ref ln, .ref ll, .ref lc])), (ln, .inr (4, [.ref lnA, .int (nI 9)])), (lnA, .inl (K, 10, .inl (shl f 10))), (ll, .inr (4, [.ref llA, .int (nI 9)])), (llA, .inl (K, 10, .inl (shl g 10))), (lc, .inr (4, [.ref lcA, .int z9])), (lcA, .inl (K, 10, .inl (shl cn k)))]) hf_22).mp hD
      have hf_23 : ((shl cn k) : Nat → Int32) = (shl cn 10) := by rw [hk10]
      have hP : va_P D vwCl [(li, .inr (0, [.ref ln, .ref ll, .ref lc])), (ln, .inr (4, [.ref lnA, .int (nI 9)])), (lnA, .inl (K, 10, .inl (shl f 10))), (ll, .inr (4, [.ref llA, .int (nI 9)])), (llA, .inl (K, 10, .inl (shl g 10))), (lc, .inr (4, [.ref lcA, .int (nI 9)])), (lcA, .inl (K, 10, .inl (shl cn 10)))] H := (congrArg (fun z9 : Nat → Int32 => va_P D vwCl [(li, .inr (0, [.ref ln, .ref ll, .ref lc])), (ln, .inr (4, [.ref lnA, .int (nI 9)])), (lnA, .inl (K, 10, .inl (shl f 10))), (ll, .inr (4, [.ref llA, .int (nI 9)])), (llA, .inl (K, 10, .inl (shl g 10))), (lc, .inr (4, [.ref lcA, .int (nI 9)])), (lcA, .inl (K, 10, .inl z9))] H) hf_23).mp hP
      have hD : va_D A [(li, .inr (0, [.ref ln, .ref ll, .ref lc])), (ln, .inr (4, [.ref lnA, .int (nI 9)])), (lnA, .inl (K, 10, .inl (shl f 10))), (ll, .inr (4, [.ref llA, .int (nI 9)])), (llA, .inl (K, 10, .inl (shl g 10))), (lc, .inr (4, [.ref lcA, .int (nI 9)])), (lcA, .inl (K, 10, .inl (shl cn 10)))] := (congrArg (fun z9 : Nat → Int32 => va_D A [(li, .inr (0, [.ref ln, .ref ll, .ref lc])), (ln, .inr (4, [.ref lnA, .int (nI 9)])), (lnA, .inl (K, 10, .inl (shl f 10))), (ll, .inr (4, [.ref llA, .int (nI 9)])), (llA, .inl (K, 10, .inl (shl g 10))), (lc, .inr (4, [.ref lcA, .int (nI 9)])), (lcA, .inl (K, 10, .inl z9))]) hf_23).mp hD
      refine lv_aload_n hx hb dX0_countReading_93 rfl (lv_at hl 1 rfl) ?_
      refine va_get (D := D) (ci := 0) (v := .ref ln) (C := RX0) (T := TX0) (N := 3) hx hb ht inA_X0 hown hK hP 0 rfl rfl 0 (by decide) (ht _ lf_X0_14) (fun _ h9 => h9) rfl dX0_countReading_94 ?_
      refine lv_iload_n hx hb dX0_countReading_97 rfl (lv_at hl 2 rfl) ?_
      have ct := k_cut_of (wc := [(ln, .inr (4, [.ref lnA, .int (nI 9)])), (lnA, .inl (K, 10, .inl (shl f 10)))]) (wr := [(li, .inr (0, [.ref ln, .ref ll, .ref lc])), (ll, .inr (4, [.ref llA, .int (nI 9)])), (llA, .inl (K, 10, .inl (shl g 10))), (lc, .inr (4, [.ref lcA, .int (nI 9)])), (lcA, .inl (K, 10, .inl (shl cn 10)))]) (tc := [(K, .int)]) hG hS hA hK hP hD [1, 2] [0, 3, 4, 5, 6] [0] rfl rfl (by decide) (by decide) (by decide) rfl
      refine k_endv (As := [.ref ln, .int v]) ct (k_runV (As := [.int v]) (rest := []) S0 Lv_X0_45 rfl (ci := 4) (q0 := 0) rfl rfl ct (c_Row_add l D ln lnA 9 K 10 (shl f 10) v (by first | assumption | decide) (by omega) H.size) hl.1 rfl (Nat.le_of_ble_eq_true rfl) rfl dX0_countReading_98 ⟨⟨Nat.le_of_ble_eq_true rfl, Nat.le_of_ble_eq_true rfl⟩, Nat.le_of_ble_eq_true rfl, Nat.le_of_ble_eq_true rfl⟩) rfl rfl (fun _ _ H locs hw_25 hP hD hK hS => ?_)
      have hK : va_K D vwCl [(K, .int)] s := hK
      have hP : va_P D vwCl [(li, .inr (0, [.ref ln, .ref ll, .ref lc])), (ll, .inr (4, [.ref llA, .int (nI 9)])), (llA, .inl (K, 10, .inl (shl g 10))), (lc, .inr (4, [.ref lcA, .int (nI 9)])), (lcA, .inl (K, 10, .inl (shl cn 10))), (ln, .inr (4, [.ref lnA, .int (nI (9 + 1))])), (lnA, .inl (K, 10, .inl (upd (shl f 10) 9 v)))] H := hP
      have hD : va_D A [(li, .inr (0, [.ref ln, .ref ll, .ref lc])), (ll, .inr (4, [.ref llA, .int (nI 9)])), (llA, .inl (K, 10, .inl (shl g 10))), (lc, .inr (4, [.ref lcA, .int (nI 9)])), (lcA, .inl (K, 10, .inl (shl cn 10))), (ln, .inr (4, [.ref lnA, .int (nI (9 + 1))])), (lnA, .inl (K, 10, .inl (upd (shl f 10) 9 v)))] := hD
      refine lv_aload_n hx hb dX0_countReading_101 rfl (lv_at hl 1 rfl) ?_
      refine va_get (D := D) (ci := 0) (v := .ref ll) (C := RX0) (T := TX0) (N := 3) hx hb ht inA_X0 hown hK hP 0 rfl rfl 1 (by decide) (ht _ lf_X0_20) (fun _ h9 => h9) rfl dX0_countReading_102 ?_
      refine lv_iload_n hx hb dX0_countReading_105 rfl (lv_at hl 3 rfl) ?_
      have ct := k_cut_of (wc := [(ll, .inr (4, [.ref llA, .int (nI 9)])), (llA, .inl (K, 10, .inl (shl g 10)))]) (wr := [(li, .inr (0, [.ref ln, .ref ll, .ref lc])), (lc, .inr (4, [.ref lcA, .int (nI 9)])), (lcA, .inl (K, 10, .inl (shl cn 10))), (ln, .inr (4, [.ref lnA, .int (nI (9 + 1))])), (lnA, .inl (K, 10, .inl (upd (shl f 10) 9 v)))]) (tc := [(K, .int)]) hG hS hA hK hP hD [1, 2] [0, 3, 4, 5, 6] [0] rfl rfl (by decide) (by decide) (by decide) rfl
      refine k_endv (As := [.ref ll, .int w]) ct (k_runV (As := [.int w]) (rest := []) S0 Lv_X0_45 rfl (ci := 4) (q0 := 0) rfl rfl ct (c_Row_add l D ll llA 9 K 10 (shl g 10) w (by first | assumption | decide) (by omega) H.size) hl.1 rfl (Nat.le_of_ble_eq_true rfl) rfl dX0_countReading_106 ⟨⟨Nat.le_of_ble_eq_true rfl, Nat.le_of_ble_eq_true rfl⟩, Nat.le_of_ble_eq_true rfl, Nat.le_of_ble_eq_true rfl⟩) rfl rfl (fun _ _ H locs hw_27 hP hD hK hS => ?_)
      have hK : va_K D vwCl [(K, .int)] s := hK
      have hP : va_P D vwCl [(li, .inr (0, [.ref ln, .ref ll, .ref lc])), (lc, .inr (4, [.ref lcA, .int (nI 9)])), (lcA, .inl (K, 10, .inl (shl cn 10))), (ln, .inr (4, [.ref lnA, .int (nI (9 + 1))])), (lnA, .inl (K, 10, .inl (upd (shl f 10) 9 v))), (ll, .inr (4, [.ref llA, .int (nI (9 + 1))])), (llA, .inl (K, 10, .inl (upd (shl g 10) 9 w)))] H := hP
      have hD : va_D A [(li, .inr (0, [.ref ln, .ref ll, .ref lc])), (lc, .inr (4, [.ref lcA, .int (nI 9)])), (lcA, .inl (K, 10, .inl (shl cn 10))), (ln, .inr (4, [.ref lnA, .int (nI (9 + 1))])), (lnA, .inl (K, 10, .inl (upd (shl f 10) 9 v))), (ll, .inr (4, [.ref llA, .int (nI (9 + 1))])), (llA, .inl (K, 10, .inl (upd (shl g 10) 9 w)))] := hD
      refine lv_aload_n hx hb dX0_countReading_109 rfl (lv_at hl 1 rfl) ?_
      refine va_get (D := D) (ci := 0) (v := .ref lc) (C := RX0) (T := TX0) (N := 3) hx hb ht inA_X0 hown hK hP 0 rfl rfl 2 (by decide) (ht _ lf_X0_23) (fun _ h9 => h9) rfl dX0_countReading_110 ?_
      refine lv_iconst (v := 1) hx hb dX0_countReading_113 (by decide) ?_
      have ct := k_cut_of (wc := [(lc, .inr (4, [.ref lcA, .int (nI 9)])), (lcA, .inl (K, 10, .inl (shl cn 10)))]) (wr := [(li, .inr (0, [.ref ln, .ref ll, .ref lc])), (ln, .inr (4, [.ref lnA, .int (nI (9 + 1))])), (lnA, .inl (K, 10, .inl (upd (shl f 10) 9 v))), (ll, .inr (4, [.ref llA, .int (nI (9 + 1))])), (llA, .inl (K, 10, .inl (upd (shl g 10) 9 w)))]) (tc := [(K, .int)]) hG hS hA hK hP hD [1, 2] [0, 3, 4, 5, 6] [0] rfl rfl (by decide) (by decide) (by decide) rfl
      refine k_endv (As := [.ref lc, .int 1]) ct (k_runV (As := [.int 1]) (rest := []) S0 Lv_X0_45 rfl (ci := 4) (q0 := 0) rfl rfl ct (c_Row_add l D lc lcA 9 K 10 (shl cn 10) 1 (by first | assumption | decide) (by omega) H.size) hl.1 rfl (Nat.le_of_ble_eq_true rfl) rfl dX0_countReading_114 ⟨⟨Nat.le_of_ble_eq_true rfl, Nat.le_of_ble_eq_true rfl⟩, Nat.le_of_ble_eq_true rfl, Nat.le_of_ble_eq_true rfl⟩) rfl rfl (fun _ _ H locs hw_29 hP hD hK hS => ?_)
      have hK : va_K D vwCl [(K, .int)] s := hK
      have hP : va_P D vwCl [(li, .inr (0, [.ref ln, .ref ll, .ref lc])), (ln, .inr (4, [.ref lnA, .int (nI (9 + 1))])), (lnA, .inl (K, 10, .inl (upd (shl f 10) 9 v))), (ll, .inr (4, [.ref llA, .int (nI (9 + 1))])), (llA, .inl (K, 10, .inl (upd (shl g 10) 9 w))), (lc, .inr (4, [.ref lcA, .int (nI (9 + 1))])), (lcA, .inl (K, 10, .inl (upd (shl cn 10) 9 1)))] H := hP
      have hD : va_D A [(li, .inr (0, [.ref ln, .ref ll, .ref lc])), (ln, .inr (4, [.ref lnA, .int (nI (9 + 1))])), (lnA, .inl (K, 10, .inl (upd (shl f 10) 9 v))), (ll, .inr (4, [.ref llA, .int (nI (9 + 1))])), (llA, .inl (K, 10, .inl (upd (shl g 10) 9 w))), (lc, .inr (4, [.ref lcA, .int (nI (9 + 1))])), (lcA, .inl (K, 10, .inl (upd (shl cn 10) 9 1)))] := hD
      have hP9 : va_P D vwCl [(li, .inr (0, [.ref ln, .ref ll, .ref lc])), (ln, .inr (4, [.ref lnA, .int (nI (9 + 1))])), (lnA, .inl (K, 10, .inl (upd (shl f 10) 9 v))), (ll, .inr (4, [.ref llA, .int (nI (9 + 1))])), (llA, .inl (K, 10, .inl (upd (shl g 10) 9 w))), (lc, .inr (4, [.ref lcA, .int (nI (9 + 1))])), (lcA, .inl (K, 10, .inl (upd (shl cn 10) 9 1)))] H := hP.sub [0, 1, 2, 3, 4, 5, 6] rfl
      have hD9 : va_D A [(li, .inr (0, [.ref ln, .ref ll, .ref lc])), (ln, .inr (4, [.ref lnA, .int (nI (9 + 1))])), (lnA, .inl (K, 10, .inl (upd (shl f 10) 9 v))), (ll, .inr (4, [.ref llA, .int (nI (9 + 1))])), (llA, .inl (K, 10, .inl (upd (shl g 10) 9 w))), (lc, .inr (4, [.ref lcA, .int (nI (9 + 1))])), (lcA, .inl (K, 10, .inl (upd (shl cn 10) 9 1)))] := hD.sub [0, 1, 2, 3, 4, 5, 6] (by decide) rfl
      have hK9 : va_K D vwCl [] s := hK.sub [] rfl
      exact W.vret hx hb hr (fun t ht9 hW9 => ⟨⟨((9 + 1), (upd (shl f 10) 9 v), (upd (shl g 10) 9 w), (upd (shl cn 10) 9 1)), rfl, by exact Or.inr (Or.inr ⟨hno, hk10, rfl, rfl, rfl, rfl⟩), ⟨by rw [ht9]; exact hP9, va_K.moved hW9.alike hK9, hD9⟩⟩, hS.F ht9⟩) hS.2.2 dX0_countReading_117
  · have hc9 := c_3
    have hik : i + 1 ≤ k := by rcases Nat.lt_or_ge i k with q9 | q9; exact q9; exact absurd (nI_le q9 (by omega)) c_3
    refine lv_aload_n hx hb dX0_countReading_13 rfl (lv_at hl 1 rfl) ?_
    refine va_get (D := D) (ci := 0) (v := .ref ln) (C := RX0) (T := TX0) (N := 3) hx hb ht inA_X0 hown hK hP 0 rfl rfl 0 (by decide) (ht _ lf_X0_14) (fun _ h9 => h9) rfl dX0_countReading_14 ?_
    refine lv_iload_n hx hb dX0_countReading_17 rfl (lv_at hl 0 rfl) ?_
    have ct := k_cut_of (wc := [(ln, .inr (4, [.ref lnA, .int (nI k)])), (lnA, .inl (K, 10, .inl f))]) (wr := [(li, .inr (0, [.ref ln, .ref ll, .ref lc])), (ll, .inr (4, [.ref llA, .int (nI k)])), (llA, .inl (K, 10, .inl g)), (lc, .inr (4, [.ref lcA, .int (nI k)])), (lcA, .inl (K, 10, .inl cn))]) (tc := [(K, .int)]) hG hS hA hK hP hD [6, 1] [0, 2, 3, 4, 5] [0] rfl rfl (by decide) (by decide) (by decide) rfl
    refine k_endi (As := [.ref ln, .int (nI i)]) ct (k_runV (As := [.int (nI i)]) (rest := []) S0 Lv_X0_30 rfl (ci := 4) (q0 := 0) rfl rfl ct (c_Row_at l D ln lnA (nI k) K 10 f (nI i) (by first | assumption | decide) H.size) hl.1 rfl (Nat.le_of_ble_eq_true rfl) rfl dX0_countReading_18 ⟨⟨Nat.le_of_ble_eq_true rfl, Nat.le_of_ble_eq_true rfl⟩, Nat.le_of_ble_eq_true rfl, Nat.le_of_ble_eq_true rfl⟩) rfl rfl (fun r_30 _ H locs hw_31 hP hD hK hS => ?_)
    have hK : va_K D vwCl [(K, .int)] s := hK
    have hP : va_P D vwCl [(li, .inr (0, [.ref ln, .ref ll, .ref lc])), (ll, .inr (4, [.ref llA, .int (nI k)])), (llA, .inl (K, 10, .inl g)), (lc, .inr (4, [.ref lcA, .int (nI k)])), (lcA, .inl (K, 10, .inl cn)), (ln, .inr (4, [.ref lnA, .int (nI k)])), (lnA, .inl (K, 10, .inl f))] H := hP
    have hD : va_D A [(li, .inr (0, [.ref ln, .ref ll, .ref lc])), (ll, .inr (4, [.ref llA, .int (nI k)])), (llA, .inl (K, 10, .inl g)), (lc, .inr (4, [.ref lcA, .int (nI k)])), (lcA, .inl (K, 10, .inl cn)), (ln, .inr (4, [.ref lnA, .int (nI k)])), (lnA, .inl (K, 10, .inl f))] := hD
    have hw_31 : r_30 = (rowAt 10 (nI k) f (nI i)) := hw_31
    have hw_31 := hw_31.symm
    subst hw_31
    refine k_nrm (y := (rowAt 10 (nI k) f (nI i))) rfl ?_
    refine k_nrm (y := (f i)) (rowAt_lt (by omega) hk (by decide)) ?_
    refine lv_iload_n hx hb dX0_countReading_21 rfl (lv_at hl 2 rfl) ?_
    refine lv_icmp_ne (tgt := 56) hx hb dX0_countReading_22 (by decide) (fun c_32 => ?_) (fun c_32 => ?_)
    · have hc9 := c_32
      obtain ⟨x_33, ex_33⟩ : ∃ z : Int32, z = (nI i) + 1 := ⟨_, rfl⟩
      refine lv_iinc (v := x_33) (lv' := [(3, .int x_33), (0, .ref li), (1, .int v), (2, .int w)]) hx hb dX0_countReading_56 hl (k := 0) rfl (by rw [ex_33]; rfl) (by decide) rfl (fun ls hl => ?_)
      refine lv_goto (tgt := 2) hx hb dX0_countReading_59 (by decide) ?_
      have he9 : x_33 = (nI (i + 1)) := by rw [ex_33]; exact nI_1 i
      rw [he9] at hl
      have hl : lv_has ls 4 [(3, .int (nI (i + 1))), (0, .ref li), (1, .int v), (2, .int w)] := hl
      exact ih9 (i + 1) H locs ls (by omega) ⟨hik, (lt_s hno (fun q9 => c_32 q9.1)), hP.sub [0, 5, 6, 1, 2, 3, 4] rfl, hD.sub [0, 5, 6, 1, 2, 3, 4] (by decide) rfl, hS, lv_sub hl [0, 1, 2, 3] rfl⟩
    · have hc9 := c_32
      refine lv_aload_n hx hb dX0_countReading_25 rfl (lv_at hl 1 rfl) ?_
      refine va_get (D := D) (ci := 0) (v := .ref ll) (C := RX0) (T := TX0) (N := 3) hx hb ht inA_X0 hown hK hP 0 rfl rfl 1 (by decide) (ht _ lf_X0_20) (fun _ h9 => h9) rfl dX0_countReading_26 ?_
      refine lv_iload_n hx hb dX0_countReading_29 rfl (lv_at hl 0 rfl) ?_
      have ct := k_cut_of (wc := [(ll, .inr (4, [.ref llA, .int (nI k)])), (llA, .inl (K, 10, .inl g))]) (wr := [(li, .inr (0, [.ref ln, .ref ll, .ref lc])), (lc, .inr (4, [.ref lcA, .int (nI k)])), (lcA, .inl (K, 10, .inl cn)), (ln, .inr (4, [.ref lnA, .int (nI k)])), (lnA, .inl (K, 10, .inl f))]) (tc := [(K, .int)]) hG hS hA hK hP hD [1, 2] [0, 3, 4, 5, 6] [0] rfl rfl (by decide) (by decide) (by decide) rfl
      refine k_endi (As := [.ref ll, .int (nI i)]) ct (k_runV (As := [.int (nI i)]) (rest := []) S0 Lv_X0_30 rfl (ci := 4) (q0 := 0) rfl rfl ct (c_Row_at l D ll llA (nI k) K 10 g (nI i) (by first | assumption | decide) H.size) hl.1 rfl (Nat.le_of_ble_eq_true rfl) rfl dX0_countReading_30 ⟨⟨Nat.le_of_ble_eq_true rfl, Nat.le_of_ble_eq_true rfl⟩, Nat.le_of_ble_eq_true rfl, Nat.le_of_ble_eq_true rfl⟩) rfl rfl (fun r_34 _ H locs hw_35 hP hD hK hS => ?_)
      have hK : va_K D vwCl [(K, .int)] s := hK
      have hP : va_P D vwCl [(li, .inr (0, [.ref ln, .ref ll, .ref lc])), (lc, .inr (4, [.ref lcA, .int (nI k)])), (lcA, .inl (K, 10, .inl cn)), (ln, .inr (4, [.ref lnA, .int (nI k)])), (lnA, .inl (K, 10, .inl f)), (ll, .inr (4, [.ref llA, .int (nI k)])), (llA, .inl (K, 10, .inl g))] H := hP
      have hD : va_D A [(li, .inr (0, [.ref ln, .ref ll, .ref lc])), (lc, .inr (4, [.ref lcA, .int (nI k)])), (lcA, .inl (K, 10, .inl cn)), (ln, .inr (4, [.ref lnA, .int (nI k)])), (lnA, .inl (K, 10, .inl f)), (ll, .inr (4, [.ref llA, .int (nI k)])), (llA, .inl (K, 10, .inl g))] := hD
      have hw_35 : r_34 = (rowAt 10 (nI k) g (nI i)) := hw_35
      have hw_35 := hw_35.symm
      subst hw_35
      refine k_nrm (y := (rowAt 10 (nI k) g (nI i))) rfl ?_
      refine k_nrm (y := (g i)) (rowAt_lt (by omega) hk (by decide)) ?_
      refine lv_iload_n hx hb dX0_countReading_33 rfl (lv_at hl 3 rfl) ?_
      refine lv_icmp_ne (tgt := 56) hx hb dX0_countReading_34 (by decide) (fun c_36 => ?_) (fun c_36 => ?_)
      · have hc9 := c_36
        obtain ⟨x_37, ex_37⟩ : ∃ z : Int32, z = (nI i) + 1 := ⟨_, rfl⟩
        refine lv_iinc (v := x_37) (lv' := [(3, .int x_37), (0, .ref li), (1, .int v), (2, .int w)]) hx hb dX0_countReading_56 hl (k := 0) rfl (by rw [ex_37]; rfl) (by decide) rfl (fun ls hl => ?_)
        refine lv_goto (tgt := 2) hx hb dX0_countReading_59 (by decide) ?_
        have he9 : x_37 = (nI (i + 1)) := by rw [ex_37]; exact nI_1 i
        rw [he9] at hl
        have hl : lv_has ls 4 [(3, .int (nI (i + 1))), (0, .ref li), (1, .int v), (2, .int w)] := hl
        exact ih9 (i + 1) H locs ls (by omega) ⟨hik, (lt_s hno (fun q9 => c_36 q9.2)), hP.sub [0, 3, 4, 5, 6, 1, 2] rfl, hD.sub [0, 3, 4, 5, 6, 1, 2] (by decide) rfl, hS, lv_sub hl [0, 1, 2, 3] rfl⟩
      · have hc9 := c_36
        refine lv_aload_n hx hb dX0_countReading_37 rfl (lv_at hl 1 rfl) ?_
        refine va_get (D := D) (ci := 0) (v := .ref lc) (C := RX0) (T := TX0) (N := 3) hx hb ht inA_X0 hown hK hP 0 rfl rfl 2 (by decide) (ht _ lf_X0_23) (fun _ h9 => h9) rfl dX0_countReading_38 ?_
        refine lv_iload_n hx hb dX0_countReading_41 rfl (lv_at hl 0 rfl) ?_
        refine lv_aload_n hx hb dX0_countReading_42 rfl (lv_at hl 1 rfl) ?_
        refine va_get (D := D) (ci := 0) (v := .ref lc) (C := RX0) (T := TX0) (N := 3) hx hb ht inA_X0 hown hK hP 0 rfl rfl 2 (by decide) (ht _ lf_X0_23) (fun _ h9 => h9) rfl dX0_countReading_43 ?_
        refine lv_iload_n hx hb dX0_countReading_46 rfl (lv_at hl 0 rfl) ?_
        have ct := k_cut_of (wc := [(lc, .inr (4, [.ref lcA, .int (nI k)])), (lcA, .inl (K, 10, .inl cn))]) (wr := [(li, .inr (0, [.ref ln, .ref ll, .ref lc])), (ln, .inr (4, [.ref lnA, .int (nI k)])), (lnA, .inl (K, 10, .inl f)), (ll, .inr (4, [.ref llA, .int (nI k)])), (llA, .inl (K, 10, .inl g))]) (tc := [(K, .int)]) hG hS hA hK hP hD [1, 2] [0, 3, 4, 5, 6] [0] rfl rfl (by decide) (by decide) (by decide) rfl
        refine k_endi (As := [.ref lc, .int (nI i)]) ct (k_runV (As := [.int (nI i)]) (rest := [.int (nI i), .ref lc]) S0 Lv_X0_30 rfl (ci := 4) (q0 := 0) rfl rfl ct (c_Row_at l D lc lcA (nI k) K 10 cn (nI i) (by first | assumption | decide) H.size) hl.1 rfl (Nat.le_of_ble_eq_true rfl) rfl dX0_countReading_47 ⟨⟨Nat.le_of_ble_eq_true rfl, Nat.le_of_ble_eq_true rfl⟩, Nat.le_of_ble_eq_true rfl, Nat.le_of_ble_eq_true rfl⟩) rfl rfl (fun r_38 _ H locs hw_39 hP hD hK hS => ?_)
        have hK : va_K D vwCl [(K, .int)] s := hK
        have hP : va_P D vwCl [(li, .inr (0, [.ref ln, .ref ll, .ref lc])), (ln, .inr (4, [.ref lnA, .int (nI k)])), (lnA, .inl (K, 10, .inl f)), (ll, .inr (4, [.ref llA, .int (nI k)])), (llA, .inl (K, 10, .inl g)), (lc, .inr (4, [.ref lcA, .int (nI k)])), (lcA, .inl (K, 10, .inl cn))] H := hP
        have hD : va_D A [(li, .inr (0, [.ref ln, .ref ll, .ref lc])), (ln, .inr (4, [.ref lnA, .int (nI k)])), (lnA, .inl (K, 10, .inl f)), (ll, .inr (4, [.ref llA, .int (nI k)])), (llA, .inl (K, 10, .inl g)), (lc, .inr (4, [.ref lcA, .int (nI k)])), (lcA, .inl (K, 10, .inl cn))] := hD
        have hw_39 : r_38 = (rowAt 10 (nI k) cn (nI i)) := hw_39
        have hw_39 := hw_39.symm
        subst hw_39
        refine k_nrm (y := (rowAt 10 (nI k) cn (nI i))) rfl ?_
        refine k_nrm (y := (cn i)) (rowAt_lt (by omega) hk (by decide)) ?_
        refine lv_iconst (v := 1) hx hb dX0_countReading_50 (by decide) ?_
        refine lv_iadd hx hb dX0_countReading_51 ?_
        refine k_nrm (y := (cn i + 1)) (rfl) ?_
        have ct := k_cut_of (wc := [(lc, .inr (4, [.ref lcA, .int (nI k)])), (lcA, .inl (K, 10, .inl cn))]) (wr := [(li, .inr (0, [.ref ln, .ref ll, .ref lc])), (ln, .inr (4, [.ref lnA, .int (nI k)])), (lnA, .inl (K, 10, .inl f)), (ll, .inr (4, [.ref llA, .int (nI k)])), (llA, .inl (K, 10, .inl g))]) (tc := [(K, .int)]) hG hS hA hK hP hD [5, 6] [0, 1, 2, 3, 4] [0] rfl rfl (by decide) (by decide) (by decide) rfl
        refine k_endv (As := [.ref lc, .int (nI i), .int (cn i + 1)]) ct (k_runV (As := [.int (nI i), .int (cn i + 1)]) (rest := []) S0 Lv_X0_34 rfl (ci := 4) (q0 := 0) rfl rfl ct (c_Row_put l D lc lcA (nI k) K 10 cn (nI i) (cn i + 1) (by first | assumption | decide) H.size) hl.1 rfl (Nat.le_of_ble_eq_true rfl) rfl dX0_countReading_52 ⟨⟨Nat.le_of_ble_eq_true rfl, Nat.le_of_ble_eq_true rfl⟩, Nat.le_of_ble_eq_true rfl, Nat.le_of_ble_eq_true rfl⟩) rfl rfl (fun _ _ H locs hw_41 hP hD hK hS => ?_)
        have hK : va_K D vwCl [(K, .int)] s := hK
        have hP : va_P D vwCl [(li, .inr (0, [.ref ln, .ref ll, .ref lc])), (ln, .inr (4, [.ref lnA, .int (nI k)])), (lnA, .inl (K, 10, .inl f)), (ll, .inr (4, [.ref llA, .int (nI k)])), (llA, .inl (K, 10, .inl g)), (lc, .inr (4, [.ref lcA, .int (nI k)])), (lcA, .inl (K, 10, .inl (rowPut 10 (nI k) cn (nI i) (cn i + 1))))] H := hP
        have hD : va_D A [(li, .inr (0, [.ref ln, .ref ll, .ref lc])), (ln, .inr (4, [.ref lnA, .int (nI k)])), (lnA, .inl (K, 10, .inl f)), (ll, .inr (4, [.ref llA, .int (nI k)])), (llA, .inl (K, 10, .inl g)), (lc, .inr (4, [.ref lcA, .int (nI k)])), (lcA, .inl (K, 10, .inl (rowPut 10 (nI k) cn (nI i) (cn i + 1))))] := hD
        have hf_42 : ((rowPut 10 (nI k) cn (nI i) (cn i + 1)) : Nat → Int32) = (upd cn i (cn i + 1)) := rowPut_lt (by omega) hk (by decide)
        have hP : va_P D vwCl [(li, .inr (0, [.ref ln, .ref ll, .ref lc])), (ln, .inr (4, [.ref lnA, .int (nI k)])), (lnA, .inl (K, 10, .inl f)), (ll, .inr (4, [.ref llA, .int (nI k)])), (llA, .inl (K, 10, .inl g)), (lc, .inr (4, [.ref lcA, .int (nI k)])), (lcA, .inl (K, 10, .inl (upd cn i (cn i + 1))))] H := (congrArg (fun z9 : Nat → Int32 => va_P D vwCl [(li, .inr (0, [.ref ln, .ref ll, .ref lc])), (ln, .inr (4, [.ref lnA, .int (nI k)])), (lnA, .inl (K, 10, .inl f)), (ll, .inr (4, [.ref llA, .int (nI k)])), (llA, .inl (K, 10, .inl g)), (lc, .inr (4, [.ref lcA, .int (nI k)])), (lcA, .inl (K, 10, .inl z9))] H) hf_42).mp hP
        have hD : va_D A [(li, .inr (0, [.ref ln, .ref ll, .ref lc])), (ln, .inr (4, [.ref lnA, .int (nI k)])), (lnA, .inl (K, 10, .inl f)), (ll, .inr (4, [.ref llA, .int (nI k)])), (llA, .inl (K, 10, .inl g)), (lc, .inr (4, [.ref lcA, .int (nI k)])), (lcA, .inl (K, 10, .inl (upd cn i (cn i + 1))))] := (congrArg (fun z9 : Nat → Int32 => va_D A [(li, .inr (0, [.ref ln, .ref ll, .ref lc])), (ln, .inr (4, [.ref lnA, .int (nI k)])), (lnA, .inl (K, 10, .inl f)), (ll, .inr (4, [.ref llA, .int (nI k)])), (llA, .inl (K, 10, .inl g)), (lc, .inr (4, [.ref lcA, .int (nI k)])), (lcA, .inl (K, 10, .inl z9))]) hf_42).mp hD
        have hP9 : va_P D vwCl [(li, .inr (0, [.ref ln, .ref ll, .ref lc])), (ln, .inr (4, [.ref lnA, .int (nI k)])), (lnA, .inl (K, 10, .inl f)), (ll, .inr (4, [.ref llA, .int (nI k)])), (llA, .inl (K, 10, .inl g)), (lc, .inr (4, [.ref lcA, .int (nI k)])), (lcA, .inl (K, 10, .inl (upd cn i (cn i + 1))))] H := hP.sub [0, 1, 2, 3, 4, 5, 6] rfl
        have hD9 : va_D A [(li, .inr (0, [.ref ln, .ref ll, .ref lc])), (ln, .inr (4, [.ref lnA, .int (nI k)])), (lnA, .inl (K, 10, .inl f)), (ll, .inr (4, [.ref llA, .int (nI k)])), (llA, .inl (K, 10, .inl g)), (lc, .inr (4, [.ref lcA, .int (nI k)])), (lcA, .inl (K, 10, .inl (upd cn i (cn i + 1))))] := hD.sub [0, 1, 2, 3, 4, 5, 6] (by decide) rfl
        have hK9 : va_K D vwCl [] s := hK.sub [] rfl
        exact W.vret hx hb hr (fun t ht9 hW9 => ⟨⟨(k, f, g, (upd cn i (cn i + 1))), rfl, by exact Or.inl ⟨i, hik, hno, c_32, c_36, rfl, rfl, rfl, rfl⟩, ⟨by rw [ht9]; exact hP9, va_K.moved hW9.alike hK9, hD9⟩⟩, hS.F ht9⟩) hS.2.2 dX0_countReading_55
set_option maxHeartbeats 4000000 in
set_option maxRecDepth 100000 in
theorem c_CodeList_copy (l : Launch) (D : va_G) (li : Nat) (ln : Nat) (ll : Nat) (lc : Nat) (lnA : Nat) (lnN : Int32) (K : ClassId) (f : Nat → Int32) (llA : Nat) (llN : Int32) (g : Nat → Int32) (lcA : Nat) (lcN : Int32) (cn : Nat → Int32) (mi : Nat) (mn : Nat) (ml : Nat) (mc : Nat) (mnA : Nat) (k2 : Nat) (f2 : Nat → Int32) (mlA : Nat) (g2 : Nat → Int32) (mcA : Nat) (c2 : Nat → Int32) (hk2 : k2 ≤ 10) (sz : Nat) : k_Mv (S := Unit) l D yX0_copyFrom cX0_copyFrom 2 none 2 0 0 43 [.ref li, .ref mi] [(li, .inr (0, [.ref ln, .ref ll, .ref lc])), (ln, .inr (4, [.ref lnA, .int lnN])), (lnA, .inl (K, 10, .inl f)), (ll, .inr (4, [.ref llA, .int llN])), (llA, .inl (K, 10, .inl g)), (lc, .inr (4, [.ref lcA, .int lcN])), (lcA, .inl (K, 10, .inl cn)), (mi, .inr (0, [.ref mn, .ref ml, .ref mc])), (mn, .inr (4, [.ref mnA, .int (nI k2)])), (mnA, .inl (K, 10, .inl f2)), (ml, .inr (4, [.ref mlA, .int (nI k2)])), (mlA, .inl (K, 10, .inl g2)), (mc, .inr (4, [.ref mcA, .int (nI k2)])), (mcA, .inl (K, 10, .inl c2))] [(K, .int)] (fun (_ : Unit) => True) (fun _ => [(li, .inr (0, [.ref ln, .ref ll, .ref lc])), (ln, .inr (4, [.ref lnA, .int (nI k2)])), (lnA, .inl (K, 10, .inl (cpy f2 f k2))), (ll, .inr (4, [.ref llA, .int (nI k2)])), (llA, .inl (K, 10, .inl (cpy g2 g k2))), (lc, .inr (4, [.ref lcA, .int (nI k2)])), (lcA, .inl (K, 10, .inl (cpy c2 cn k2))), (mi, .inr (0, [.ref mn, .ref ml, .ref mc])), (mn, .inr (4, [.ref mnA, .int (nI k2)])), (mnA, .inl (K, 10, .inl f2)), (ml, .inr (4, [.ref mlA, .int (nI k2)])), (mlA, .inl (K, 10, .inl g2)), (mc, .inr (4, [.ref mcA, .int (nI k2)])), (mcA, .inl (K, 10, .inl c2))]) (fun _ => []) sz := by
  refine Met.ofW (cc := cX0_copyFrom) (maxL := 2) (ret := none) (by decide) rfl ?_
  intro p e s m args below meth c s₁ B hml hv
  obtain ⟨rfl, hsz, hP, hK, hD0, hG⟩ := hv
  have hx := B.exec
  have hb := B.bytes
  have hr := B.returns
  have ht : ∀ v9 ∈ wsA, v9.before ([.ref li, .ref mi] : List Value).toArray s = true := fun v9 h9 => atoms_spec (ws := k_ws yX0_copyFrom cX0_copyFrom 2 none) B.pre v9 (List.mem_cons_of_mem _ h9)
  have hown : s.vm.findClass RX0 = some m.cls := findClass_of_methodNamed B.named
  have S0 : k_C p s m ([.ref li, .ref mi] : List Value).toArray c cX0_copyFrom 2 RX0 := ⟨hx, hb, hml, hown, ht⟩
  have hlocks := B.notSynchronized
  subst hsz
  have hD := hD0.self (sz := s.heap.size)
  generalize hAe : va_A [(li, .inr (0, [.ref ln, .ref ll, .ref lc])), (ln, .inr (4, [.ref lnA, .int lnN])), (lnA, .inl (K, 10, .inl f)), (ll, .inr (4, [.ref llA, .int llN])), (llA, .inl (K, 10, .inl g)), (lc, .inr (4, [.ref lcA, .int lcN])), (lcA, .inl (K, 10, .inl cn)), (mi, .inr (0, [.ref mn, .ref ml, .ref mc])), (mn, .inr (4, [.ref mnA, .int (nI k2)])), (mnA, .inl (K, 10, .inl f2)), (ml, .inr (4, [.ref mlA, .int (nI k2)])), (mlA, .inl (K, 10, .inl g2)), (mc, .inr (4, [.ref mcA, .int (nI k2)])), (mcA, .inl (K, 10, .inl c2))] s.heap.size = A at hD hG ⊢
  have hA : ∀ q : Nat, s.heap.size ≤ q → A q := fun q h => by rw [← hAe]; exact Or.inr h
  have hS : va_S A s.heap s.heap [] := va_S.rf
  have hl := lv_entry ([.ref li, .ref mi]) (n := 2) (Nat.le_of_ble_eq_true rfl)
  rw [lg_entry_eq]
  generalize (lg_sl ([.ref li, .ref mi]) ++ List.replicate (2 - (lg_sl ([.ref li, .ref mi])).length) Slot.unset).toArray = ls at hl ⊢
  have hl : lv_has ls 2 [(0, .ref li), (1, .ref mi)] := hl
  have hP : va_P D vwCl [(li, .inr (0, [.ref ln, .ref ll, .ref lc])), (ln, .inr (4, [.ref lnA, .int lnN])), (lnA, .inl (K, 10, .inl f)), (ll, .inr (4, [.ref llA, .int llN])), (llA, .inl (K, 10, .inl g)), (lc, .inr (4, [.ref lcA, .int lcN])), (lcA, .inl (K, 10, .inl cn)), (mi, .inr (0, [.ref mn, .ref ml, .ref mc])), (mn, .inr (4, [.ref mnA, .int (nI k2)])), (mnA, .inl (K, 10, .inl f2)), (ml, .inr (4, [.ref mlA, .int (nI k2)])), (mlA, .inl (K, 10, .inl g2)), (mc, .inr (4, [.ref mcA, .int (nI k2)])), (mcA, .inl (K, 10, .inl c2))] s.heap := hP
  refine lv_aload_n hx hb dX0_copyFrom_0 rfl (lv_at hl 0 rfl) ?_
  refine va_get (D := D) (ci := 0) (v := .ref ln) (C := RX0) (T := TX0) (N := 3) hx hb ht inA_X0 hown hK hP 0 rfl rfl 0 (by decide) (ht _ lf_X0_14) (fun _ h9 => h9) rfl dX0_copyFrom_1 ?_
  refine lv_aload_n hx hb dX0_copyFrom_4 rfl (lv_at hl 1 rfl) ?_
  refine va_get (D := D) (ci := 0) (v := .ref mn) (C := RX0) (T := TX0) (N := 3) hx hb ht inA_X0 hown hK hP 7 rfl rfl 0 (by decide) (ht _ lf_X0_14) (fun _ h9 => h9) rfl dX0_copyFrom_5 ?_
  have ct := k_cut_of (wc := [(ln, .inr (4, [.ref lnA, .int lnN])), (lnA, .inl (K, 10, .inl f)), (mn, .inr (4, [.ref mnA, .int (nI k2)])), (mnA, .inl (K, 10, .inl f2))]) (wr := [(li, .inr (0, [.ref ln, .ref ll, .ref lc])), (ll, .inr (4, [.ref llA, .int llN])), (llA, .inl (K, 10, .inl g)), (lc, .inr (4, [.ref lcA, .int lcN])), (lcA, .inl (K, 10, .inl cn)), (mi, .inr (0, [.ref mn, .ref ml, .ref mc])), (ml, .inr (4, [.ref mlA, .int (nI k2)])), (mlA, .inl (K, 10, .inl g2)), (mc, .inr (4, [.ref mcA, .int (nI k2)])), (mcA, .inl (K, 10, .inl c2))]) (tc := [(K, .int)]) hG hS hA hK hP hD [1, 2, 8, 9] [0, 3, 4, 5, 6, 7, 10, 11, 12, 13] [0] rfl rfl (by decide) (by decide) (by decide) rfl
  refine k_endv (As := [.ref ln, .ref mn]) ct (k_runV (As := [.ref mn]) (rest := []) S0 Lv_X0_48 rfl (ci := 4) (q0 := 0) rfl rfl ct (c_Row_copyFrom l D ln lnA lnN K 10 f mn mnA k2 10 f2 (by first | assumption | decide) (by first | assumption | decide) (by omega) (by omega) s.heap.size) hl.1 rfl (Nat.le_of_ble_eq_true rfl) rfl dX0_copyFrom_8 ⟨⟨Nat.le_of_ble_eq_true rfl, Nat.le_of_ble_eq_true rfl⟩, Nat.le_of_ble_eq_true rfl, Nat.le_of_ble_eq_true rfl⟩) rfl rfl (fun _ _ H locs hw_2 hP hD hK hS => ?_)
  have hK : va_K D vwCl [(K, .int)] s := hK
  have hP : va_P D vwCl [(li, .inr (0, [.ref ln, .ref ll, .ref lc])), (ll, .inr (4, [.ref llA, .int llN])), (llA, .inl (K, 10, .inl g)), (lc, .inr (4, [.ref lcA, .int lcN])), (lcA, .inl (K, 10, .inl cn)), (mi, .inr (0, [.ref mn, .ref ml, .ref mc])), (ml, .inr (4, [.ref mlA, .int (nI k2)])), (mlA, .inl (K, 10, .inl g2)), (mc, .inr (4, [.ref mcA, .int (nI k2)])), (mcA, .inl (K, 10, .inl c2)), (ln, .inr (4, [.ref lnA, .int (nI k2)])), (lnA, .inl (K, 10, .inl (cpy f2 f k2))), (mn, .inr (4, [.ref mnA, .int (nI k2)])), (mnA, .inl (K, 10, .inl f2))] H := hP
  have hD : va_D A [(li, .inr (0, [.ref ln, .ref ll, .ref lc])), (ll, .inr (4, [.ref llA, .int llN])), (llA, .inl (K, 10, .inl g)), (lc, .inr (4, [.ref lcA, .int lcN])), (lcA, .inl (K, 10, .inl cn)), (mi, .inr (0, [.ref mn, .ref ml, .ref mc])), (ml, .inr (4, [.ref mlA, .int (nI k2)])), (mlA, .inl (K, 10, .inl g2)), (mc, .inr (4, [.ref mcA, .int (nI k2)])), (mcA, .inl (K, 10, .inl c2)), (ln, .inr (4, [.ref lnA, .int (nI k2)])), (lnA, .inl (K, 10, .inl (cpy f2 f k2))), (mn, .inr (4, [.ref mnA, .int (nI k2)])), (mnA, .inl (K, 10, .inl f2))] := hD
  refine lv_aload_n hx hb dX0_copyFrom_11 rfl (lv_at hl 0 rfl) ?_
  refine va_get (D := D) (ci := 0) (v := .ref ll) (C := RX0) (T := TX0) (N := 3) hx hb ht inA_X0 hown hK hP 0 rfl rfl 1 (by decide) (ht _ lf_X0_20) (fun _ h9 => h9) rfl dX0_copyFrom_12 ?_
  refine lv_aload_n hx hb dX0_copyFrom_15 rfl (lv_at hl 1 rfl) ?_
  refine va_get (D := D) (ci := 0) (v := .ref ml) (C := RX0) (T := TX0) (N := 3) hx hb ht inA_X0 hown hK hP 5 rfl rfl 1 (by decide) (ht _ lf_X0_20) (fun _ h9 => h9) rfl dX0_copyFrom_16 ?_
  have ct := k_cut_of (wc := [(ll, .inr (4, [.ref llA, .int llN])), (llA, .inl (K, 10, .inl g)), (ml, .inr (4, [.ref mlA, .int (nI k2)])), (mlA, .inl (K, 10, .inl g2))]) (wr := [(li, .inr (0, [.ref ln, .ref ll, .ref lc])), (lc, .inr (4, [.ref lcA, .int lcN])), (lcA, .inl (K, 10, .inl cn)), (mi, .inr (0, [.ref mn, .ref ml, .ref mc])), (mc, .inr (4, [.ref mcA, .int (nI k2)])), (mcA, .inl (K, 10, .inl c2)), (ln, .inr (4, [.ref lnA, .int (nI k2)])), (lnA, .inl (K, 10, .inl (cpy f2 f k2))), (mn, .inr (4, [.ref mnA, .int (nI k2)])), (mnA, .inl (K, 10, .inl f2))]) (tc := [(K, .int)]) hG hS hA hK hP hD [1, 2, 6, 7] [0, 3, 4, 5, 8, 9, 10, 11, 12, 13] [0] rfl rfl (by decide) (by decide) (by decide) rfl
  refine k_endv (As := [.ref ll, .ref ml]) ct (k_runV (As := [.ref ml]) (rest := []) S0 Lv_X0_48 rfl (ci := 4) (q0 := 0) rfl rfl ct (c_Row_copyFrom l D ll llA llN K 10 g ml mlA k2 10 g2 (by first | assumption | decide) (by first | assumption | decide) (by omega) (by omega) H.size) hl.1 rfl (Nat.le_of_ble_eq_true rfl) rfl dX0_copyFrom_19 ⟨⟨Nat.le_of_ble_eq_true rfl, Nat.le_of_ble_eq_true rfl⟩, Nat.le_of_ble_eq_true rfl, Nat.le_of_ble_eq_true rfl⟩) rfl rfl (fun _ _ H locs hw_4 hP hD hK hS => ?_)
  have hK : va_K D vwCl [(K, .int)] s := hK
  have hP : va_P D vwCl [(li, .inr (0, [.ref ln, .ref ll, .ref lc])), (lc, .inr (4, [.ref lcA, .int lcN])), (lcA, .inl (K, 10, .inl cn)), (mi, .inr (0, [.ref mn, .ref ml, .ref mc])), (mc, .inr (4, [.ref mcA, .int (nI k2)])), (mcA, .inl (K, 10, .inl c2)), (ln, .inr (4, [.ref lnA, .int (nI k2)])), (lnA, .inl (K, 10, .inl (cpy f2 f k2))), (mn, .inr (4, [.ref mnA, .int (nI k2)])), (mnA, .inl (K, 10, .inl f2)), (ll, .inr (4, [.ref llA, .int (nI k2)])), (llA, .inl (K, 10, .inl (cpy g2 g k2))), (ml, .inr (4, [.ref mlA, .int (nI k2)])), (mlA, .inl (K, 10, .inl g2))] H := hP
  have hD : va_D A [(li, .inr (0, [.ref ln, .ref ll, .ref lc])), (lc, .inr (4, [.ref lcA, .int lcN])), (lcA, .inl (K, 10, .inl cn)), (mi, .inr (0, [.ref mn, .ref ml, .ref mc])), (mc, .inr (4, [.ref mcA, .int (nI k2)])), (mcA, .inl (K, 10, .inl c2)), (ln, .inr (4, [.ref lnA, .int (nI k2)])), (lnA, .inl (K, 10, .inl (cpy f2 f k2))), (mn, .inr (4, [.ref mnA, .int (nI k2)])), (mnA, .inl (K, 10, .inl f2)), (ll, .inr (4, [.ref llA, .int (nI k2)])), (llA, .inl (K, 10, .inl (cpy g2 g k2))), (ml, .inr (4, [.ref mlA, .int (nI k2)])), (mlA, .inl (K, 10, .inl g2))] := hD
  refine lv_aload_n hx hb dX0_copyFrom_22 rfl (lv_at hl 0 rfl) ?_
  refine va_get (D := D) (ci := 0) (v := .ref lc) (C := RX0) (T := TX0) (N := 3) hx hb ht inA_X0 hown hK hP 0 rfl rfl 2 (by decide) (ht _ lf_X0_23) (fun _ h9 => h9) rfl dX0_copyFrom_23 ?_
  refine lv_aload_n hx hb dX0_copyFrom_26 rfl (lv_at hl 1 rfl) ?_
  refine va_get (D := D) (ci := 0) (v := .ref mc) (C := RX0) (T := TX0) (N := 3) hx hb ht inA_X0 hown hK hP 3 rfl rfl 2 (by decide) (ht _ lf_X0_23) (fun _ h9 => h9) rfl dX0_copyFrom_27 ?_
  have ct := k_cut_of (wc := [(lc, .inr (4, [.ref lcA, .int lcN])), (lcA, .inl (K, 10, .inl cn)), (mc, .inr (4, [.ref mcA, .int (nI k2)])), (mcA, .inl (K, 10, .inl c2))]) (wr := [(li, .inr (0, [.ref ln, .ref ll, .ref lc])), (mi, .inr (0, [.ref mn, .ref ml, .ref mc])), (ln, .inr (4, [.ref lnA, .int (nI k2)])), (lnA, .inl (K, 10, .inl (cpy f2 f k2))), (mn, .inr (4, [.ref mnA, .int (nI k2)])), (mnA, .inl (K, 10, .inl f2)), (ll, .inr (4, [.ref llA, .int (nI k2)])), (llA, .inl (K, 10, .inl (cpy g2 g k2))), (ml, .inr (4, [.ref mlA, .int (nI k2)])), (mlA, .inl (K, 10, .inl g2))]) (tc := [(K, .int)]) hG hS hA hK hP hD [1, 2, 4, 5] [0, 3, 6, 7, 8, 9, 10, 11, 12, 13] [0] rfl rfl (by decide) (by decide) (by decide) rfl
  refine k_endv (As := [.ref lc, .ref mc]) ct (k_runV (As := [.ref mc]) (rest := []) S0 Lv_X0_48 rfl (ci := 4) (q0 := 0) rfl rfl ct (c_Row_copyFrom l D lc lcA lcN K 10 cn mc mcA k2 10 c2 (by first | assumption | decide) (by first | assumption | decide) (by omega) (by omega) H.size) hl.1 rfl (Nat.le_of_ble_eq_true rfl) rfl dX0_copyFrom_30 ⟨⟨Nat.le_of_ble_eq_true rfl, Nat.le_of_ble_eq_true rfl⟩, Nat.le_of_ble_eq_true rfl, Nat.le_of_ble_eq_true rfl⟩) rfl rfl (fun _ _ H locs hw_6 hP hD hK hS => ?_)
  have hK : va_K D vwCl [(K, .int)] s := hK
  have hP : va_P D vwCl [(li, .inr (0, [.ref ln, .ref ll, .ref lc])), (mi, .inr (0, [.ref mn, .ref ml, .ref mc])), (ln, .inr (4, [.ref lnA, .int (nI k2)])), (lnA, .inl (K, 10, .inl (cpy f2 f k2))), (mn, .inr (4, [.ref mnA, .int (nI k2)])), (mnA, .inl (K, 10, .inl f2)), (ll, .inr (4, [.ref llA, .int (nI k2)])), (llA, .inl (K, 10, .inl (cpy g2 g k2))), (ml, .inr (4, [.ref mlA, .int (nI k2)])), (mlA, .inl (K, 10, .inl g2)), (lc, .inr (4, [.ref lcA, .int (nI k2)])), (lcA, .inl (K, 10, .inl (cpy c2 cn k2))), (mc, .inr (4, [.ref mcA, .int (nI k2)])), (mcA, .inl (K, 10, .inl c2))] H := hP
  have hD : va_D A [(li, .inr (0, [.ref ln, .ref ll, .ref lc])), (mi, .inr (0, [.ref mn, .ref ml, .ref mc])), (ln, .inr (4, [.ref lnA, .int (nI k2)])), (lnA, .inl (K, 10, .inl (cpy f2 f k2))), (mn, .inr (4, [.ref mnA, .int (nI k2)])), (mnA, .inl (K, 10, .inl f2)), (ll, .inr (4, [.ref llA, .int (nI k2)])), (llA, .inl (K, 10, .inl (cpy g2 g k2))), (ml, .inr (4, [.ref mlA, .int (nI k2)])), (mlA, .inl (K, 10, .inl g2)), (lc, .inr (4, [.ref lcA, .int (nI k2)])), (lcA, .inl (K, 10, .inl (cpy c2 cn k2))), (mc, .inr (4, [.ref mcA, .int (nI k2)])), (mcA, .inl (K, 10, .inl c2))] := hD
  have hP9 : va_P D vwCl [(li, .inr (0, [.ref ln, .ref ll, .ref lc])), (ln, .inr (4, [.ref lnA, .int (nI k2)])), (lnA, .inl (K, 10, .inl (cpy f2 f k2))), (ll, .inr (4, [.ref llA, .int (nI k2)])), (llA, .inl (K, 10, .inl (cpy g2 g k2))), (lc, .inr (4, [.ref lcA, .int (nI k2)])), (lcA, .inl (K, 10, .inl (cpy c2 cn k2))), (mi, .inr (0, [.ref mn, .ref ml, .ref mc])), (mn, .inr (4, [.ref mnA, .int (nI k2)])), (mnA, .inl (K, 10, .inl f2)), (ml, .inr (4, [.ref mlA, .int (nI k2)])), (mlA, .inl (K, 10, .inl g2)), (mc, .inr (4, [.ref mcA, .int (nI k2)])), (mcA, .inl (K, 10, .inl c2))] H := hP.sub [0, 2, 3, 6, 7, 10, 11, 1, 4, 5, 8, 9, 12, 13] rfl
  have hD9 : va_D A [(li, .inr (0, [.ref ln, .ref ll, .ref lc])), (ln, .inr (4, [.ref lnA, .int (nI k2)])), (lnA, .inl (K, 10, .inl (cpy f2 f k2))), (ll, .inr (4, [.ref llA, .int (nI k2)])), (llA, .inl (K, 10, .inl (cpy g2 g k2))), (lc, .inr (4, [.ref lcA, .int (nI k2)])), (lcA, .inl (K, 10, .inl (cpy c2 cn k2))), (mi, .inr (0, [.ref mn, .ref ml, .ref mc])), (mn, .inr (4, [.ref mnA, .int (nI k2)])), (mnA, .inl (K, 10, .inl f2)), (ml, .inr (4, [.ref mlA, .int (nI k2)])), (mlA, .inl (K, 10, .inl g2)), (mc, .inr (4, [.ref mcA, .int (nI k2)])), (mcA, .inl (K, 10, .inl c2))] := hD.sub [0, 2, 3, 6, 7, 10, 11, 1, 4, 5, 8, 9, 12, 13] (by decide) rfl
  have hK9 : va_K D vwCl [] s := hK.sub [] rfl
  exact W.vret hx hb hr (fun t ht9 hW9 => ⟨⟨(), rfl, by first | rfl | trivial | (simp only [if_true, if_false, reduceIte, and_self]; done) | simp_all, ⟨by rw [ht9]; exact hP9, va_K.moved hW9.alike hK9, hD9⟩⟩, hS.F ht9⟩) hS.2.2 dX0_copyFrom_33
