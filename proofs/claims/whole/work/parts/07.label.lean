theorem inA_X2 : ∀ w ∈ u_ws RX2 TX2 2, w ∈ wsA := by
  show ∀ w ∈ ([u_lay RX2 TX2 0, u_lay RX2 TX2 1] : List Cond), w ∈ wsA
  exact List.forall_mem_cons.mpr ⟨mA 58 rfl rfl, List.forall_mem_cons.mpr ⟨mA 60 rfl rfl, fun _ h => absurd h List.not_mem_nil⟩⟩
theorem lf_X2_20 : Cond.fieldLink RX2 20 "BarcodeWand$Label" "smudges" "LBarcodeWand$Row;" ∈ wsA := mA 56 rfl rfl
theorem Lv_X2_23 : k_LV RX2 23 yX4_size cX4_size 1 (some .int) 0 := ⟨mA 223 rfl rfl, lm_X4_size, le_X4_size, li_BarcodeWand_Row, lk_X4_size, ly_X4_size⟩
theorem li_BarcodeWand_Label : Cond.initialized "BarcodeWand$Label" ∈ wsA := mA 3 rfl rfl
theorem lk_X2_size : Cond.code yX2_size cX2_size 1 (some .int) ∈ wsA := mA 222 rfl rfl
theorem ly_X2_size : k_y yX2_size 0 := ⟨by decide +kernel, by decide +kernel, by decide +kernel⟩
theorem lm_X2_size : Cond.instanceMethod yX2_size ∈ wsA := mA 220 rfl rfl
theorem le_X2_size : Cond.selects (yX2_size).cls yX2_size yX2_size ∈ wsA := mA 221 rfl rfl
set_option maxRecDepth 20000 in
theorem Lv_X2_38 : k_LV RX2 38 yX2_size cX2_size 1 (some .int) 0 := ⟨mA 469 rfl rfl, lm_X2_size, le_X2_size, li_BarcodeWand_Label, lk_X2_size, ly_X2_size⟩
theorem lf_X2_14 : Cond.fieldLink RX2 14 "BarcodeWand$Label" "digits" "LBarcodeWand$Row;" ∈ wsA := mA 54 rfl rfl
set_option maxRecDepth 20000 in
theorem Lv_X2_39 : k_LV RX2 39 yX4_at cX4_at 2 (some .int) 1 := ⟨mA 470 rfl rfl, lm_X4_at, le_X4_at, li_BarcodeWand_Row, lk_X4_at, ly_X4_at⟩
set_option maxRecDepth 20000 in
theorem ln_X2_43 : Cond.fieldLinkNest RX2 43 "BarcodeWand" "WIDTHS" "[I" "BarcodeWand" ∈ tables_1 := List.mem_of_getElem? (i := 471) rfl
set_option maxRecDepth 20000 in
theorem lM_X2_47 : Cond.methodLink RX2 47 Lib.Math.max.name ∈ wsA := mA 561 rfl rfl
set_option maxRecDepth 20000 in
theorem lk_X2_widthOf : Cond.code yX2_widthOf cX2_widthOf 5 (some .int) ∈ wsA := mA 468 rfl rfl
theorem ly_X2_widthOf : k_y yX2_widthOf 1 := ⟨by decide +kernel, by decide +kernel, by decide +kernel⟩
set_option maxRecDepth 20000 in
theorem lm_X2_widthOf : Cond.instanceMethod yX2_widthOf ∈ wsA := mA 466 rfl rfl
set_option maxRecDepth 20000 in
theorem le_X2_widthOf : Cond.selects (yX2_widthOf).cls yX2_widthOf yX2_widthOf ∈ wsA := mA 467 rfl rfl
set_option maxRecDepth 20000 in
theorem Lv_X2_53 : k_LV RX2 53 yX2_widthOf cX2_widthOf 5 (some .int) 1 := ⟨mA 562 rfl rfl, lm_X2_widthOf, le_X2_widthOf, li_BarcodeWand_Label, lk_X2_widthOf, ly_X2_widthOf⟩
set_option maxRecDepth 20000 in
theorem Lv_X2_56 : k_LV RX2 56 yX4_clear cX4_clear 1 none 0 := ⟨mA 556 rfl rfl, lm_X4_clear, le_X4_clear, li_BarcodeWand_Row, lk_X4_clear, ly_X4_clear⟩
set_option maxRecDepth 20000 in
theorem lk_X2_timeOf : Cond.code yX2_timeOf cX2_timeOf 8 (some .int) ∈ wsA := mA 560 rfl rfl
theorem ly_X2_timeOf : k_y yX2_timeOf 4 := ⟨by decide +kernel, by decide +kernel, by decide +kernel⟩
set_option maxRecDepth 20000 in
theorem lm_X2_timeOf : Cond.instanceMethod yX2_timeOf ∈ wsA := mA 558 rfl rfl
set_option maxRecDepth 20000 in
theorem le_X2_timeOf : Cond.selects (yX2_timeOf).cls yX2_timeOf yX2_timeOf ∈ wsA := mA 559 rfl rfl
set_option maxRecDepth 20000 in
theorem Lv_X2_59 : k_LV RX2 59 yX2_timeOf cX2_timeOf 8 (some .int) 4 := ⟨mA 557 rfl rfl, lm_X2_timeOf, le_X2_timeOf, li_BarcodeWand_Label, lk_X2_timeOf, ly_X2_timeOf⟩
set_option maxRecDepth 20000 in
theorem Lv_X2_63 : k_LV RX2 63 yX4_add cX4_add 2 none 1 := ⟨mA 563 rfl rfl, lm_X4_add, le_X4_add, li_BarcodeWand_Row, lk_X4_add, ly_X4_add⟩
theorem Lv_X2_66 : k_LV RX2 66 yX4_copyFrom cX4_copyFrom 3 none 1 := ⟨mA 250 rfl rfl, lm_X4_copyFrom, le_X4_copyFrom, li_BarcodeWand_Row, lk_X4_copyFrom, ly_X4_copyFrom⟩
theorem dX2_size_0 : decode cX2_size 0 = .ok (.aload_n 0, 1) := by decide +kernel
theorem dX2_size_1 : decode cX2_size 1 = .ok (.getfield 20, 3) := by decide +kernel
theorem dX2_size_4 : decode cX2_size 4 = .ok (.invokevirtual 23, 3) := by decide +kernel
theorem dX2_size_7 : decode cX2_size 7 = .ok (.ireturn, 1) := by decide +kernel
theorem dX2_widthOf_0 : decode cX2_widthOf 0 = .ok (.iload_n 1, 1) := by decide +kernel
theorem dX2_widthOf_1 : decode cX2_widthOf 1 = .ok (.iconst 3, 1) := by decide +kernel
theorem dX2_widthOf_2 : decode cX2_widthOf 2 = .ok (.if_icmp .lt 13, 3) := by decide +kernel
theorem dX2_widthOf_5 : decode cX2_widthOf 5 = .ok (.iload_n 1, 1) := by decide +kernel
theorem dX2_widthOf_6 : decode cX2_widthOf 6 = .ok (.aload_n 0, 1) := by decide +kernel
theorem dX2_widthOf_7 : decode cX2_widthOf 7 = .ok (.invokevirtual 38, 3) := by decide +kernel
theorem dX2_widthOf_10 : decode cX2_widthOf 10 = .ok (.iconst 2, 1) := by decide +kernel
theorem dX2_widthOf_11 : decode cX2_widthOf 11 = .ok (.isub, 1) := by decide +kernel
theorem dX2_widthOf_12 : decode cX2_widthOf 12 = .ok (.if_icmp .ne 5, 3) := by decide +kernel
theorem dX2_widthOf_15 : decode cX2_widthOf 15 = .ok (.iconst 1, 1) := by decide +kernel
theorem dX2_widthOf_16 : decode cX2_widthOf 16 = .ok (.ireturn, 1) := by decide +kernel
theorem dX2_widthOf_17 : decode cX2_widthOf 17 = .ok (.iload_n 1, 1) := by decide +kernel
theorem dX2_widthOf_18 : decode cX2_widthOf 18 = .ok (.aload_n 0, 1) := by decide +kernel
theorem dX2_widthOf_19 : decode cX2_widthOf 19 = .ok (.invokevirtual 38, 3) := by decide +kernel
theorem dX2_widthOf_22 : decode cX2_widthOf 22 = .ok (.iconst 1, 1) := by decide +kernel
theorem dX2_widthOf_23 : decode cX2_widthOf 23 = .ok (.isub, 1) := by decide +kernel
theorem dX2_widthOf_24 : decode cX2_widthOf 24 = .ok (.if_icmp .lt 5, 3) := by decide +kernel
theorem dX2_widthOf_27 : decode cX2_widthOf 27 = .ok (.iconst 2, 1) := by decide +kernel
theorem dX2_widthOf_28 : decode cX2_widthOf 28 = .ok (.ireturn, 1) := by decide +kernel
theorem dX2_widthOf_29 : decode cX2_widthOf 29 = .ok (.iload_n 1, 1) := by decide +kernel
theorem dX2_widthOf_30 : decode cX2_widthOf 30 = .ok (.iconst 3, 1) := by decide +kernel
theorem dX2_widthOf_31 : decode cX2_widthOf 31 = .ok (.isub, 1) := by decide +kernel
theorem dX2_widthOf_32 : decode cX2_widthOf 32 = .ok (.istore_n 2, 1) := by decide +kernel
theorem dX2_widthOf_33 : decode cX2_widthOf 33 = .ok (.aload_n 0, 1) := by decide +kernel
theorem dX2_widthOf_34 : decode cX2_widthOf 34 = .ok (.getfield 14, 3) := by decide +kernel
theorem dX2_widthOf_37 : decode cX2_widthOf 37 = .ok (.iload_n 2, 1) := by decide +kernel
theorem dX2_widthOf_38 : decode cX2_widthOf 38 = .ok (.iconst 4, 1) := by decide +kernel
theorem dX2_widthOf_39 : decode cX2_widthOf 39 = .ok (.idiv, 1) := by decide +kernel
theorem dX2_widthOf_40 : decode cX2_widthOf 40 = .ok (.invokevirtual 39, 3) := by decide +kernel
theorem dX2_widthOf_43 : decode cX2_widthOf 43 = .ok (.istore_n 3, 1) := by decide +kernel
theorem dX2_widthOf_44 : decode cX2_widthOf 44 = .ok (.iconst 4, 1) := by decide +kernel
theorem dX2_widthOf_45 : decode cX2_widthOf 45 = .ok (.iload_n 3, 1) := by decide +kernel
theorem dX2_widthOf_46 : decode cX2_widthOf 46 = .ok (.imul, 1) := by decide +kernel
theorem dX2_widthOf_47 : decode cX2_widthOf 47 = .ok (.iload_n 2, 1) := by decide +kernel
theorem dX2_widthOf_48 : decode cX2_widthOf 48 = .ok (.iconst 4, 1) := by decide +kernel
theorem dX2_widthOf_49 : decode cX2_widthOf 49 = .ok (.irem, 1) := by decide +kernel
theorem dX2_widthOf_50 : decode cX2_widthOf 50 = .ok (.iadd, 1) := by decide +kernel
theorem dX2_widthOf_51 : decode cX2_widthOf 51 = .ok (.istore 4, 2) := by decide +kernel
theorem dX2_widthOf_53 : decode cX2_widthOf 53 = .ok (.iload 4, 2) := by decide +kernel
theorem dX2_widthOf_55 : decode cX2_widthOf 55 = .ok (.ifCond .lt 21, 3) := by decide +kernel
theorem dX2_widthOf_58 : decode cX2_widthOf 58 = .ok (.iload 4, 2) := by decide +kernel
theorem dX2_widthOf_60 : decode cX2_widthOf 60 = .ok (.getstatic 43, 3) := by decide +kernel
theorem dX2_widthOf_63 : decode cX2_widthOf 63 = .ok (.arraylength, 1) := by decide +kernel
theorem dX2_widthOf_64 : decode cX2_widthOf 64 = .ok (.if_icmp .ge 12, 3) := by decide +kernel
theorem dX2_widthOf_67 : decode cX2_widthOf 67 = .ok (.getstatic 43, 3) := by decide +kernel
theorem dX2_widthOf_70 : decode cX2_widthOf 70 = .ok (.iload 4, 2) := by decide +kernel
theorem dX2_widthOf_72 : decode cX2_widthOf 72 = .ok (.iaload, 1) := by decide +kernel
theorem dX2_widthOf_73 : decode cX2_widthOf 73 = .ok (.goto 4, 3) := by decide +kernel
theorem dX2_widthOf_76 : decode cX2_widthOf 76 = .ok (.iconst 0, 1) := by decide +kernel
theorem dX2_widthOf_77 : decode cX2_widthOf 77 = .ok (.ireturn, 1) := by decide +kernel
theorem dX2_timeOf_0 : decode cX2_timeOf 0 = .ok (.aload_n 0, 1) := by decide +kernel
theorem dX2_timeOf_1 : decode cX2_timeOf 1 = .ok (.invokevirtual 38, 3) := by decide +kernel
theorem dX2_timeOf_4 : decode cX2_timeOf 4 = .ok (.iconst 1, 1) := by decide +kernel
theorem dX2_timeOf_5 : decode cX2_timeOf 5 = .ok (.isub, 1) := by decide +kernel
theorem dX2_timeOf_6 : decode cX2_timeOf 6 = .ok (.iconst 1, 1) := by decide +kernel
theorem dX2_timeOf_7 : decode cX2_timeOf 7 = .ok (.invokestatic 47, 3) := by decide +kernel
theorem dX2_timeOf_10 : decode cX2_timeOf 10 = .ok (.istore 5, 2) := by decide +kernel
theorem dX2_timeOf_12 : decode cX2_timeOf 12 = .ok (.bipush 10, 2) := by decide +kernel
theorem dX2_timeOf_14 : decode cX2_timeOf 14 = .ok (.aload_n 0, 1) := by decide +kernel
theorem dX2_timeOf_15 : decode cX2_timeOf 15 = .ok (.iload_n 1, 1) := by decide +kernel
theorem dX2_timeOf_16 : decode cX2_timeOf 16 = .ok (.invokevirtual 53, 3) := by decide +kernel
theorem dX2_timeOf_19 : decode cX2_timeOf 19 = .ok (.imul, 1) := by decide +kernel
theorem dX2_timeOf_20 : decode cX2_timeOf 20 = .ok (.iload_n 2, 1) := by decide +kernel
theorem dX2_timeOf_21 : decode cX2_timeOf 21 = .ok (.iadd, 1) := by decide +kernel
theorem dX2_timeOf_22 : decode cX2_timeOf 22 = .ok (.istore 6, 2) := by decide +kernel
theorem dX2_timeOf_24 : decode cX2_timeOf 24 = .ok (.iload_n 3, 1) := by decide +kernel
theorem dX2_timeOf_25 : decode cX2_timeOf 25 = .ok (.iload 5, 2) := by decide +kernel
theorem dX2_timeOf_27 : decode cX2_timeOf 27 = .ok (.iload_n 1, 1) := by decide +kernel
theorem dX2_timeOf_28 : decode cX2_timeOf 28 = .ok (.isub, 1) := by decide +kernel
theorem dX2_timeOf_29 : decode cX2_timeOf 29 = .ok (.imul, 1) := by decide +kernel
theorem dX2_timeOf_30 : decode cX2_timeOf 30 = .ok (.iload 4, 2) := by decide +kernel
theorem dX2_timeOf_32 : decode cX2_timeOf 32 = .ok (.iload_n 1, 1) := by decide +kernel
theorem dX2_timeOf_33 : decode cX2_timeOf 33 = .ok (.imul, 1) := by decide +kernel
theorem dX2_timeOf_34 : decode cX2_timeOf 34 = .ok (.iadd, 1) := by decide +kernel
theorem dX2_timeOf_35 : decode cX2_timeOf 35 = .ok (.istore 7, 2) := by decide +kernel
theorem dX2_timeOf_37 : decode cX2_timeOf 37 = .ok (.iload 6, 2) := by decide +kernel
theorem dX2_timeOf_39 : decode cX2_timeOf 39 = .ok (.iload 7, 2) := by decide +kernel
theorem dX2_timeOf_41 : decode cX2_timeOf 41 = .ok (.imul, 1) := by decide +kernel
theorem dX2_timeOf_42 : decode cX2_timeOf 42 = .ok (.bipush 10, 2) := by decide +kernel
theorem dX2_timeOf_44 : decode cX2_timeOf 44 = .ok (.iload 5, 2) := by decide +kernel
theorem dX2_timeOf_46 : decode cX2_timeOf 46 = .ok (.imul, 1) := by decide +kernel
theorem dX2_timeOf_47 : decode cX2_timeOf 47 = .ok (.idiv, 1) := by decide +kernel
theorem dX2_timeOf_48 : decode cX2_timeOf 48 = .ok (.iconst 1, 1) := by decide +kernel
theorem dX2_timeOf_49 : decode cX2_timeOf 49 = .ok (.invokestatic 47, 3) := by decide +kernel
theorem dX2_timeOf_52 : decode cX2_timeOf 52 = .ok (.ireturn, 1) := by decide +kernel
theorem dX2_drawInto_0 : decode cX2_drawInto 0 = .ok (.aload_n 1, 1) := by decide +kernel
theorem dX2_drawInto_1 : decode cX2_drawInto 1 = .ok (.invokevirtual 56, 3) := by decide +kernel
theorem dX2_drawInto_4 : decode cX2_drawInto 4 = .ok (.iconst 0, 1) := by decide +kernel
theorem dX2_drawInto_5 : decode cX2_drawInto 5 = .ok (.istore 5, 2) := by decide +kernel
theorem dX2_drawInto_7 : decode cX2_drawInto 7 = .ok (.iload 5, 2) := by decide +kernel
theorem dX2_drawInto_9 : decode cX2_drawInto 9 = .ok (.aload_n 0, 1) := by decide +kernel
theorem dX2_drawInto_10 : decode cX2_drawInto 10 = .ok (.invokevirtual 38, 3) := by decide +kernel
theorem dX2_drawInto_13 : decode cX2_drawInto 13 = .ok (.if_icmp .ge 51, 3) := by decide +kernel
theorem dX2_drawInto_16 : decode cX2_drawInto 16 = .ok (.iload 4, 2) := by decide +kernel
theorem dX2_drawInto_18 : decode cX2_drawInto 18 = .ok (.ifCond .eq 15, 3) := by decide +kernel
theorem dX2_drawInto_21 : decode cX2_drawInto 21 = .ok (.aload_n 0, 1) := by decide +kernel
theorem dX2_drawInto_22 : decode cX2_drawInto 22 = .ok (.invokevirtual 38, 3) := by decide +kernel
theorem dX2_drawInto_25 : decode cX2_drawInto 25 = .ok (.iconst 1, 1) := by decide +kernel
theorem dX2_drawInto_26 : decode cX2_drawInto 26 = .ok (.isub, 1) := by decide +kernel
theorem dX2_drawInto_27 : decode cX2_drawInto 27 = .ok (.iload 5, 2) := by decide +kernel
theorem dX2_drawInto_29 : decode cX2_drawInto 29 = .ok (.isub, 1) := by decide +kernel
theorem dX2_drawInto_30 : decode cX2_drawInto 30 = .ok (.goto 5, 3) := by decide +kernel
theorem dX2_drawInto_33 : decode cX2_drawInto 33 = .ok (.iload 5, 2) := by decide +kernel
theorem dX2_drawInto_35 : decode cX2_drawInto 35 = .ok (.istore 6, 2) := by decide +kernel
theorem dX2_drawInto_37 : decode cX2_drawInto 37 = .ok (.aload_n 1, 1) := by decide +kernel
theorem dX2_drawInto_38 : decode cX2_drawInto 38 = .ok (.aload_n 0, 1) := by decide +kernel
theorem dX2_drawInto_39 : decode cX2_drawInto 39 = .ok (.iload 6, 2) := by decide +kernel
theorem dX2_drawInto_41 : decode cX2_drawInto 41 = .ok (.aload_n 0, 1) := by decide +kernel
theorem dX2_drawInto_42 : decode cX2_drawInto 42 = .ok (.getfield 20, 3) := by decide +kernel
theorem dX2_drawInto_45 : decode cX2_drawInto 45 = .ok (.iload 6, 2) := by decide +kernel
theorem dX2_drawInto_47 : decode cX2_drawInto 47 = .ok (.invokevirtual 39, 3) := by decide +kernel
theorem dX2_drawInto_50 : decode cX2_drawInto 50 = .ok (.iload_n 2, 1) := by decide +kernel
theorem dX2_drawInto_51 : decode cX2_drawInto 51 = .ok (.iload_n 3, 1) := by decide +kernel
theorem dX2_drawInto_52 : decode cX2_drawInto 52 = .ok (.invokevirtual 59, 3) := by decide +kernel
theorem dX2_drawInto_55 : decode cX2_drawInto 55 = .ok (.invokevirtual 63, 3) := by decide +kernel
theorem dX2_drawInto_58 : decode cX2_drawInto 58 = .ok (.iinc 5 1, 3) := by decide +kernel
theorem dX2_drawInto_61 : decode cX2_drawInto 61 = .ok (.goto (-54), 3) := by decide +kernel
theorem dX2_drawInto_64 : decode cX2_drawInto 64 = .ok (.return_, 1) := by decide +kernel
theorem dX2_copyFrom_0 : decode cX2_copyFrom 0 = .ok (.aload_n 0, 1) := by decide +kernel
theorem dX2_copyFrom_1 : decode cX2_copyFrom 1 = .ok (.getfield 14, 3) := by decide +kernel
theorem dX2_copyFrom_4 : decode cX2_copyFrom 4 = .ok (.aload_n 1, 1) := by decide +kernel
theorem dX2_copyFrom_5 : decode cX2_copyFrom 5 = .ok (.getfield 14, 3) := by decide +kernel
theorem dX2_copyFrom_8 : decode cX2_copyFrom 8 = .ok (.invokevirtual 66, 3) := by decide +kernel
theorem dX2_copyFrom_11 : decode cX2_copyFrom 11 = .ok (.aload_n 0, 1) := by decide +kernel
theorem dX2_copyFrom_12 : decode cX2_copyFrom 12 = .ok (.getfield 20, 3) := by decide +kernel
theorem dX2_copyFrom_15 : decode cX2_copyFrom 15 = .ok (.aload_n 1, 1) := by decide +kernel
theorem dX2_copyFrom_16 : decode cX2_copyFrom 16 = .ok (.getfield 20, 3) := by decide +kernel
theorem dX2_copyFrom_19 : decode cX2_copyFrom 19 = .ok (.invokevirtual 66, 3) := by decide +kernel
theorem dX2_copyFrom_22 : decode cX2_copyFrom 22 = .ok (.return_, 1) := by decide +kernel
/-- the place in the table of a label's element -/
def plF (nd : Nat) (df : Nat → Int32) (e : Int32) : Int32 := 4 * rowAt 9 (nI nd) df ((e - 3) / 4) + ((e - 3) - (e - 3) / 4 * 4)
def widF (nd : Nat) (df : Nat → Int32) (n e : Int32) : Int32 := if e < 3 then 1 else if e = n - 2 then 1 else if e < n - 1 then (if plF nd df e < 0 then 0 else if 40 ≤ plF nd df e then 0 else wdt (plF nd df e).toNatClampNeg) else 2
def mx1 (x : Int32) : Int32 := if x < 1 then 1 else x
def timF (nd : Nat) (df : Nat → Int32) (n e z l r : Int32) : Int32 := mx1 ((10 * widF nd df n e + z) * (l * (mx1 (n - 1) - e) + r * e) / (10 * mx1 (n - 1)))
theorem ten_ne : ∀ n, n ≤ 41 → ¬ 10 * mx1 (nI n - 1) = 0 := by decide +kernel
/-- the element that is drawn as the j-th -/
def elF (n b : Int32) (j : Nat) : Int32 := if b = 0 then nI j else n - 1 - nI j
def drwF (nd : Nat) (df : Nat → Int32) (ns : Nat) (zf : Nat → Int32) (l r b : Int32) (j : Nat) : Int32 := timF nd df (nI ns) (elF (nI ns) b j) (rowAt 41 (nI ns) zf (elF (nI ns) b j)) l r
set_option maxHeartbeats 4000000 in
set_option maxRecDepth 100000 in
theorem c_Label_size (l : Launch) (D : va_G) (la : Nat) (ld : Nat) (lz : Nat) (lzA : Nat) (ns : Nat) (sz : Nat) : k_Mi (S := Unit) l D yX2_size cX2_size 1 (some .int) 1 0 0 20 [.ref la] [(la, .inr (2, [.ref ld, .ref lz])), (lz, .inr (4, [.ref lzA, .int (nI ns)]))] [] (fun (r : Int32) (_ : Unit) => r = (nI ns)) (fun _ => [(la, .inr (2, [.ref ld, .ref lz])), (lz, .inr (4, [.ref lzA, .int (nI ns)]))]) (fun _ => []) sz := by
  refine Met.ofW (cc := cX2_size) (maxL := 1) (ret := (some .int)) (by decide) rfl ?_
  intro p e s m args below meth c s₁ B hml hv
  obtain ⟨rfl, hsz, hP, hK, hD0, hG⟩ := hv
  have hx := B.exec
  have hb := B.bytes
  have hr := B.returns
  have ht : ∀ v9 ∈ wsA, v9.before ([.ref la] : List Value).toArray s = true := fun v9 h9 => atoms_spec (ws := k_ws yX2_size cX2_size 1 (some .int)) B.pre v9 (List.mem_cons_of_mem _ h9)
  have hown : s.vm.findClass RX2 = some m.cls := findClass_of_methodNamed B.named
  have S0 : k_C p s m ([.ref la] : List Value).toArray c cX2_size 1 RX2 := ⟨hx, hb, hml, hown, ht⟩
  have hlocks := B.notSynchronized
  subst hsz
  have hD := hD0.self (sz := s.heap.size)
  generalize hAe : va_A [(la, .inr (2, [.ref ld, .ref lz])), (lz, .inr (4, [.ref lzA, .int (nI ns)]))] s.heap.size = A at hD hG ⊢
  have hA : ∀ q : Nat, s.heap.size ≤ q → A q := fun q h => by rw [← hAe]; exact Or.inr h
  have hS : va_S A s.heap s.heap [] := va_S.rf
  have hl := lv_entry ([.ref la]) (n := 1) (Nat.le_of_ble_eq_true rfl)
  rw [lg_entry_eq]
  generalize (lg_sl ([.ref la]) ++ List.replicate (1 - (lg_sl ([.ref la])).length) Slot.unset).toArray = ls at hl ⊢
  have hl : lv_has ls 1 [(0, .ref la)] := hl
  have hP : va_P D vwCl [(la, .inr (2, [.ref ld, .ref lz])), (lz, .inr (4, [.ref lzA, .int (nI ns)]))] s.heap := hP
  refine lv_aload_n hx hb dX2_size_0 rfl (lv_at hl 0 rfl) ?_
  refine va_get (D := D) (ci := 2) (v := .ref lz) (C := RX2) (T := TX2) (N := 2) hx hb ht inA_X2 hown hK hP 0 rfl rfl 1 (by decide) (ht _ lf_X2_20) (fun _ h9 => h9) rfl dX2_size_1 ?_
  have ct := k_cut_of (wc := [(lz, .inr (4, [.ref lzA, .int (nI ns)]))]) (wr := [(la, .inr (2, [.ref ld, .ref lz]))]) (tc := []) hG hS hA hK hP hD [1] [0] [] rfl rfl (by decide) (by decide) (by decide) rfl
  refine k_endi (As := [.ref lz]) ct (k_runV (As := []) (rest := []) S0 Lv_X2_23 rfl (ci := 4) (q0 := 0) rfl rfl ct (c_Row_size l D lz lzA (nI ns) s.heap.size) hl.1 rfl (Nat.le_of_ble_eq_true rfl) rfl dX2_size_4 ⟨⟨Nat.le_of_ble_eq_true rfl, Nat.le_of_ble_eq_true rfl⟩, Nat.le_of_ble_eq_true rfl, Nat.le_of_ble_eq_true rfl⟩) rfl rfl (fun r_1 _ H locs hw_2 hP hD hK hS => ?_)
  have hK : va_K D vwCl [] s := hK
  have hP : va_P D vwCl [(la, .inr (2, [.ref ld, .ref lz])), (lz, .inr (4, [.ref lzA, .int (nI ns)]))] H := hP
  have hD : va_D A [(la, .inr (2, [.ref ld, .ref lz])), (lz, .inr (4, [.ref lzA, .int (nI ns)]))] := hD
  have hw_2 : r_1 = (nI ns) := hw_2
  have hw_2 := hw_2.symm
  subst hw_2
  refine k_nrm (y := (nI ns)) rfl ?_
  have hP9 : va_P D vwCl [(la, .inr (2, [.ref ld, .ref lz])), (lz, .inr (4, [.ref lzA, .int (nI ns)]))] H := hP.sub [0, 1] rfl
  have hD9 : va_D A [(la, .inr (2, [.ref ld, .ref lz])), (lz, .inr (4, [.ref lzA, .int (nI ns)]))] := hD.sub [0, 1] (by decide) rfl
  have hK9 : va_K D vwCl [] s := hK.sub [] rfl
  exact W.iret (v := (nI ns)) hx hb hr (fun t ht9 hW9 => ⟨⟨(nI ns), (), rfl, by first | rfl | trivial | (simp only [if_true, if_false, reduceIte, and_self]; done) | simp_all, ⟨by rw [ht9]; exact hP9, va_K.moved hW9.alike hK9, hD9⟩⟩, hS.F ht9⟩) hS.2.2 dX2_size_7
set_option maxHeartbeats 4000000 in
set_option maxRecDepth 100000 in
theorem c_widthOf (l : Launch) (D : va_G) (la : Nat) (ld : Nat) (lz : Nat) (ldA : Nat) (nd : Nat) (K : ClassId) (df : Nat → Int32) (lzA : Nat) (ns : Nat) (x : Int32) (sz : Nat) : k_Mi (S := Unit) l D yX2_widthOf cX2_widthOf 5 (some .int) 2 0 0 40 [.ref la, .int x] [(la, .inr (2, [.ref ld, .ref lz])), (ld, .inr (4, [.ref ldA, .int (nI nd)])), (ldA, .inl (K, 9, .inl df)), (lz, .inr (4, [.ref lzA, .int (nI ns)]))] [(K, .int)] (fun (r : Int32) (_ : Unit) => r = (widF nd df (nI ns) x)) (fun _ => [(la, .inr (2, [.ref ld, .ref lz])), (ld, .inr (4, [.ref ldA, .int (nI nd)])), (ldA, .inl (K, 9, .inl df)), (lz, .inr (4, [.ref lzA, .int (nI ns)]))]) (fun _ => []) sz := by
  refine Met.ofW (cc := cX2_widthOf) (maxL := 5) (ret := (some .int)) (by decide) rfl ?_
  intro p e s m args below meth c s₁ B hml hv
  obtain ⟨rfl, hsz, hP, hK, hD0, hG⟩ := hv
  have hx := B.exec
  have hb := B.bytes
  have hr := B.returns
  have ht : ∀ v9 ∈ wsA, v9.before ([.ref la, .int x] : List Value).toArray s = true := fun v9 h9 => atoms_spec (ws := k_ws yX2_widthOf cX2_widthOf 5 (some .int)) B.pre v9 (List.mem_cons_of_mem _ h9)
  have hown : s.vm.findClass RX2 = some m.cls := findClass_of_methodNamed B.named
  have S0 : k_C p s m ([.ref la, .int x] : List Value).toArray c cX2_widthOf 5 RX2 := ⟨hx, hb, hml, hown, ht⟩
  have hlocks := B.notSynchronized
  subst hsz
  have hD := hD0.self (sz := s.heap.size)
  generalize hAe : va_A [(la, .inr (2, [.ref ld, .ref lz])), (ld, .inr (4, [.ref ldA, .int (nI nd)])), (ldA, .inl (K, 9, .inl df)), (lz, .inr (4, [.ref lzA, .int (nI ns)]))] s.heap.size = A at hD hG ⊢
  have hA : ∀ q : Nat, s.heap.size ≤ q → A q := fun q h => by rw [← hAe]; exact Or.inr h
  have hS : va_S A s.heap s.heap [] := va_S.rf
  have hl := lv_entry ([.ref la, .int x]) (n := 5) (Nat.le_of_ble_eq_true rfl)
  rw [lg_entry_eq]
  generalize (lg_sl ([.ref la, .int x]) ++ List.replicate (5 - (lg_sl ([.ref la, .int x])).length) Slot.unset).toArray = ls at hl ⊢
  have hl : lv_has ls 5 [(0, .ref la), (1, .int x)] := hl
  have hP : va_P D vwCl [(la, .inr (2, [.ref ld, .ref lz])), (ld, .inr (4, [.ref ldA, .int (nI nd)])), (ldA, .inl (K, 9, .inl df)), (lz, .inr (4, [.ref lzA, .int (nI ns)]))] s.heap := hP
  refine lv_iload_n hx hb dX2_widthOf_0 rfl (lv_at hl 1 rfl) ?_
  refine lv_iconst (v := 3) hx hb dX2_widthOf_1 (by decide) ?_
  refine lv_icmp_lt (tgt := 15) hx hb dX2_widthOf_2 (by decide) (fun c_1 => ?_) (fun c_1 => ?_)
  · have hc9 := c_1
    refine lv_iconst (v := 1) hx hb dX2_widthOf_15 (by decide) ?_
    have hP9 : va_P D vwCl [(la, .inr (2, [.ref ld, .ref lz])), (ld, .inr (4, [.ref ldA, .int (nI nd)])), (ldA, .inl (K, 9, .inl df)), (lz, .inr (4, [.ref lzA, .int (nI ns)]))] s.heap := hP.sub [0, 1, 2, 3] rfl
    have hD9 : va_D A [(la, .inr (2, [.ref ld, .ref lz])), (ld, .inr (4, [.ref ldA, .int (nI nd)])), (ldA, .inl (K, 9, .inl df)), (lz, .inr (4, [.ref lzA, .int (nI ns)]))] := hD.sub [0, 1, 2, 3] (by decide) rfl
    have hK9 : va_K D vwCl [] s := hK.sub [] rfl
    exact W.iret (v := 1) hx hb hr (fun t ht9 hW9 => ⟨⟨1, (), rfl, by (unfold widF; rw [if_pos c_1]), ⟨by rw [ht9]; exact hP9, va_K.moved hW9.alike hK9, hD9⟩⟩, hS.F ht9⟩) hS.2.2 dX2_widthOf_16
  · have hc9 := c_1
    refine lv_iload_n hx hb dX2_widthOf_5 rfl (lv_at hl 1 rfl) ?_
    refine lv_aload_n hx hb dX2_widthOf_6 rfl (lv_at hl 0 rfl) ?_
    have ct := k_cut_of (wc := [(la, .inr (2, [.ref ld, .ref lz])), (lz, .inr (4, [.ref lzA, .int (nI ns)]))]) (wr := [(ld, .inr (4, [.ref ldA, .int (nI nd)])), (ldA, .inl (K, 9, .inl df))]) (tc := []) hG hS hA hK hP hD [0, 3] [1, 2] [] rfl rfl (by decide) (by decide) (by decide) rfl
    refine k_endi (As := [.ref la]) ct (k_runV (As := []) (rest := [.int x]) S0 Lv_X2_38 rfl (ci := 2) (q0 := 0) rfl rfl ct (c_Label_size l D la ld lz lzA ns s.heap.size) hl.1 rfl (Nat.le_of_ble_eq_true rfl) rfl dX2_widthOf_7 ⟨⟨Nat.le_of_ble_eq_true rfl, Nat.le_of_ble_eq_true rfl⟩, Nat.le_of_ble_eq_true rfl, Nat.le_of_ble_eq_true rfl⟩) rfl rfl (fun r_2 _ H locs hw_3 hP hD hK hS => ?_)
    have hK : va_K D vwCl [(K, .int)] s := hK
    have hP : va_P D vwCl [(ld, .inr (4, [.ref ldA, .int (nI nd)])), (ldA, .inl (K, 9, .inl df)), (la, .inr (2, [.ref ld, .ref lz])), (lz, .inr (4, [.ref lzA, .int (nI ns)]))] H := hP
    have hD : va_D A [(ld, .inr (4, [.ref ldA, .int (nI nd)])), (ldA, .inl (K, 9, .inl df)), (la, .inr (2, [.ref ld, .ref lz])), (lz, .inr (4, [.ref lzA, .int (nI ns)]))] := hD
    have hw_3 : r_2 = (nI ns) := hw_3
    have hw_3 := hw_3.symm
    subst hw_3
    refine k_nrm (y := (nI ns)) rfl ?_
    refine lv_iconst (v := 2) hx hb dX2_widthOf_10 (by decide) ?_
    refine lv_isub hx hb dX2_widthOf_11 ?_
    refine k_nrm (y := (nI ns - 2)) (rfl) ?_
    refine lv_icmp_ne (tgt := 17) hx hb dX2_widthOf_12 (by decide) (fun c_4 => ?_) (fun c_4 => ?_)
    · have hc9 := c_4
      refine lv_iload_n hx hb dX2_widthOf_17 rfl (lv_at hl 1 rfl) ?_
      refine lv_aload_n hx hb dX2_widthOf_18 rfl (lv_at hl 0 rfl) ?_
      have ct := k_cut_of (wc := [(la, .inr (2, [.ref ld, .ref lz])), (lz, .inr (4, [.ref lzA, .int (nI ns)]))]) (wr := [(ld, .inr (4, [.ref ldA, .int (nI nd)])), (ldA, .inl (K, 9, .inl df))]) (tc := []) hG hS hA hK hP hD [2, 3] [0, 1] [] rfl rfl (by decide) (by decide) (by decide) rfl
      refine k_endi (As := [.ref la]) ct (k_runV (As := []) (rest := [.int x]) S0 Lv_X2_38 rfl (ci := 2) (q0 := 0) rfl rfl ct (c_Label_size l D la ld lz lzA ns H.size) hl.1 rfl (Nat.le_of_ble_eq_true rfl) rfl dX2_widthOf_19 ⟨⟨Nat.le_of_ble_eq_true rfl, Nat.le_of_ble_eq_true rfl⟩, Nat.le_of_ble_eq_true rfl, Nat.le_of_ble_eq_true rfl⟩) rfl rfl (fun r_5 _ H locs hw_6 hP hD hK hS => ?_)
      have hK : va_K D vwCl [(K, .int)] s := hK
      have hP : va_P D vwCl [(ld, .inr (4, [.ref ldA, .int (nI nd)])), (ldA, .inl (K, 9, .inl df)), (la, .inr (2, [.ref ld, .ref lz])), (lz, .inr (4, [.ref lzA, .int (nI ns)]))] H := hP
      have hD : va_D A [(ld, .inr (4, [.ref ldA, .int (nI nd)])), (ldA, .inl (K, 9, .inl df)), (la, .inr (2, [.ref ld, .ref lz])), (lz, .inr (4, [.ref lzA, .int (nI ns)]))] := hD
      have hw_6 : r_5 = (nI ns) := hw_6
      have hw_6 := hw_6.symm
      subst hw_6
      refine k_nrm (y := (nI ns)) rfl ?_
      refine lv_iconst (v := 1) hx hb dX2_widthOf_22 (by decide) ?_
      refine lv_isub hx hb dX2_widthOf_23 ?_
      refine k_nrm (y := (nI ns - 1)) (rfl) ?_
      refine lv_icmp_lt (tgt := 29) hx hb dX2_widthOf_24 (by decide) (fun c_7 => ?_) (fun c_7 => ?_)
      · have hc9 := c_7
        refine lv_iload_n hx hb dX2_widthOf_29 rfl (lv_at hl 1 rfl) ?_
        refine lv_iconst (v := 3) hx hb dX2_widthOf_30 (by decide) ?_
        refine lv_isub hx hb dX2_widthOf_31 ?_
        refine k_nrm (y := (x - 3)) (rfl) ?_
        refine lv_istore_n (lv' := [(2, .int (x - 3)), (0, .ref la), (1, .int x)]) hx hb dX2_widthOf_32 rfl hl (by decide) rfl (fun ls hl => ?_)
        refine lv_aload_n hx hb dX2_widthOf_33 rfl (lv_at hl 1 rfl) ?_
        refine va_get (D := D) (ci := 2) (v := .ref ld) (C := RX2) (T := TX2) (N := 2) hx hb ht inA_X2 hown hK hP 2 rfl rfl 0 (by decide) (ht _ lf_X2_14) (fun _ h9 => h9) rfl dX2_widthOf_34 ?_
        refine lv_iload_n hx hb dX2_widthOf_37 rfl (lv_at hl 0 rfl) ?_
        refine lv_iconst (v := 4) hx hb dX2_widthOf_38 (by decide) ?_
        refine lv_idiv hx hb dX2_widthOf_39 (by decide) ?_
        refine k_nrm (y := ((x - 3) / 4)) (rfl) ?_
        have ct := k_cut_of (wc := [(ld, .inr (4, [.ref ldA, .int (nI nd)])), (ldA, .inl (K, 9, .inl df))]) (wr := [(la, .inr (2, [.ref ld, .ref lz])), (lz, .inr (4, [.ref lzA, .int (nI ns)]))]) (tc := [(K, .int)]) hG hS hA hK hP hD [0, 1] [2, 3] [0] rfl rfl (by decide) (by decide) (by decide) rfl
        refine k_endi (As := [.ref ld, .int ((x - 3) / 4)]) ct (k_runV (As := [.int ((x - 3) / 4)]) (rest := []) S0 Lv_X2_39 rfl (ci := 4) (q0 := 0) rfl rfl ct (c_Row_at l D ld ldA (nI nd) K 9 df ((x - 3) / 4) (by first | assumption | decide) H.size) hl.1 rfl (Nat.le_of_ble_eq_true rfl) rfl dX2_widthOf_40 ⟨⟨Nat.le_of_ble_eq_true rfl, Nat.le_of_ble_eq_true rfl⟩, Nat.le_of_ble_eq_true rfl, Nat.le_of_ble_eq_true rfl⟩) rfl rfl (fun r_8 _ H locs hw_9 hP hD hK hS => ?_)
        have hK : va_K D vwCl [(K, .int)] s := hK
        have hP : va_P D vwCl [(la, .inr (2, [.ref ld, .ref lz])), (lz, .inr (4, [.ref lzA, .int (nI ns)])), (ld, .inr (4, [.ref ldA, .int (nI nd)])), (ldA, .inl (K, 9, .inl df))] H := hP
        have hD : va_D A [(la, .inr (2, [.ref ld, .ref lz])), (lz, .inr (4, [.ref lzA, .int (nI ns)])), (ld, .inr (4, [.ref ldA, .int (nI nd)])), (ldA, .inl (K, 9, .inl df))] := hD
        have hw_9 : r_8 = (rowAt 9 (nI nd) df ((x - 3) / 4)) := hw_9
        have hw_9 := hw_9.symm
        subst hw_9
        refine k_nrm (y := (rowAt 9 (nI nd) df ((x - 3) / 4))) rfl ?_
        refine lv_istore_n (lv' := [(3, .int (rowAt 9 (nI nd) df ((x - 3) / 4))), (2, .int (x - 3)), (0, .ref la), (1, .int x)]) hx hb dX2_widthOf_43 rfl hl (by decide) rfl (fun ls hl => ?_)
        refine lv_iconst (v := 4) hx hb dX2_widthOf_44 (by decide) ?_
        refine lv_iload_n hx hb dX2_widthOf_45 rfl (lv_at hl 0 rfl) ?_
        refine lv_imul hx hb dX2_widthOf_46 ?_
        refine k_nrm (y := (4 * rowAt 9 (nI nd) df ((x - 3) / 4))) (rfl) ?_
        refine lv_iload_n hx hb dX2_widthOf_47 rfl (lv_at hl 1 rfl) ?_
        refine lv_iconst (v := 4) hx hb dX2_widthOf_48 (by decide) ?_
        refine lv_irem hx hb dX2_widthOf_49 (by decide) ?_
        refine k_nrm (y := ((x - 3) - (x - 3) / 4 * 4)) (rfl) ?_
        refine lv_iadd hx hb dX2_widthOf_50 ?_
        refine k_nrm (y := (plF nd df x)) (rfl) ?_
        refine lv_istore (lv' := [(4, .int (plF nd df x)), (3, .int (rowAt 9 (nI nd) df ((x - 3) / 4))), (2, .int (x - 3)), (0, .ref la), (1, .int x)]) hx hb dX2_widthOf_51 hl (by decide) rfl (fun ls hl => ?_)
        refine lv_iload hx hb dX2_widthOf_53 (lv_at hl 0 rfl) ?_
        refine lv_if_lt (tgt := 76) hx hb dX2_widthOf_55 (by decide) (fun c_10 => ?_) (fun c_10 => ?_)
        · have hc9 := c_10
          refine lv_iconst (v := 0) hx hb dX2_widthOf_76 (by decide) ?_
          have hP9 : va_P D vwCl [(la, .inr (2, [.ref ld, .ref lz])), (ld, .inr (4, [.ref ldA, .int (nI nd)])), (ldA, .inl (K, 9, .inl df)), (lz, .inr (4, [.ref lzA, .int (nI ns)]))] H := hP.sub [0, 2, 3, 1] rfl
          have hD9 : va_D A [(la, .inr (2, [.ref ld, .ref lz])), (ld, .inr (4, [.ref ldA, .int (nI nd)])), (ldA, .inl (K, 9, .inl df)), (lz, .inr (4, [.ref lzA, .int (nI ns)]))] := hD.sub [0, 2, 3, 1] (by decide) rfl
          have hK9 : va_K D vwCl [] s := hK.sub [] rfl
          exact W.iret (v := 0) hx hb hr (fun t ht9 hW9 => ⟨⟨0, (), rfl, by first | rfl | trivial | (simp only [widF, c_1, c_4, c_7, c_10, if_true, if_false, reduceIte, and_self]; done) | simp_all, ⟨by rw [ht9]; exact hP9, va_K.moved hW9.alike hK9, hD9⟩⟩, hS.F ht9⟩) hS.2.2 dX2_widthOf_77
        · have hc9 := c_10
          refine lv_iload hx hb dX2_widthOf_58 (lv_at hl 0 rfl) ?_
          obtain ⟨tw9, hZ9, hT9⟩ := hG.2.2.2.2.2.2
          refine va_getsN hx hb hZ9 hS hown (va_Nw.use (A := _) rfl (hG.1 _ ln_X2_43 rfl)) (fun _ h9 => h9) dX2_widthOf_60 ?_
          refine va_tlen (v := 40) hx hb hT9 hS (by decide) dX2_widthOf_63 ?_
          refine lv_icmp_ge (tgt := 76) hx hb dX2_widthOf_64 (by decide) (fun c_11 => ?_) (fun c_11 => ?_)
          · have hc9 := c_11
            refine lv_iconst (v := 0) hx hb dX2_widthOf_76 (by decide) ?_
            have hP9 : va_P D vwCl [(la, .inr (2, [.ref ld, .ref lz])), (ld, .inr (4, [.ref ldA, .int (nI nd)])), (ldA, .inl (K, 9, .inl df)), (lz, .inr (4, [.ref lzA, .int (nI ns)]))] H := hP.sub [0, 2, 3, 1] rfl
            have hD9 : va_D A [(la, .inr (2, [.ref ld, .ref lz])), (ld, .inr (4, [.ref ldA, .int (nI nd)])), (ldA, .inl (K, 9, .inl df)), (lz, .inr (4, [.ref lzA, .int (nI ns)]))] := hD.sub [0, 2, 3, 1] (by decide) rfl
            have hK9 : va_K D vwCl [] s := hK.sub [] rfl
            exact W.iret (v := 0) hx hb hr (fun t ht9 hW9 => ⟨⟨0, (), rfl, by first | rfl | trivial | (simp only [widF, c_1, c_4, c_7, c_10, c_11, if_true, if_false, reduceIte, and_self]; done) | simp_all, ⟨by rw [ht9]; exact hP9, va_K.moved hW9.alike hK9, hD9⟩⟩, hS.F ht9⟩) hS.2.2 dX2_widthOf_77
          · have hc9 := c_11
            obtain ⟨tw9, hZ9, hT9⟩ := hG.2.2.2.2.2.2
            refine va_getsN hx hb hZ9 hS hown (va_Nw.use (A := _) rfl (hG.1 _ ln_X2_43 rfl)) (fun _ h9 => h9) dX2_widthOf_67 ?_
            refine lv_iload hx hb dX2_widthOf_70 (lv_at hl 0 rfl) ?_
            refine va_ti hx hb hT9 hS (vp_in_row (cap := 40) (by decide) c_10 c_11) (v := .int (wdt (plF nd df x).toNatClampNeg)) rfl dX2_widthOf_72 ?_
            refine lv_goto (tgt := 77) hx hb dX2_widthOf_73 (by decide) ?_
            have hP9 : va_P D vwCl [(la, .inr (2, [.ref ld, .ref lz])), (ld, .inr (4, [.ref ldA, .int (nI nd)])), (ldA, .inl (K, 9, .inl df)), (lz, .inr (4, [.ref lzA, .int (nI ns)]))] H := hP.sub [0, 2, 3, 1] rfl
            have hD9 : va_D A [(la, .inr (2, [.ref ld, .ref lz])), (ld, .inr (4, [.ref ldA, .int (nI nd)])), (ldA, .inl (K, 9, .inl df)), (lz, .inr (4, [.ref lzA, .int (nI ns)]))] := hD.sub [0, 2, 3, 1] (by decide) rfl
            have hK9 : va_K D vwCl [] s := hK.sub [] rfl
            exact W.iret (v := wdt (plF nd df x).toNatClampNeg) hx hb hr (fun t ht9 hW9 => ⟨⟨wdt (plF nd df x).toNatClampNeg, (), rfl, by first | rfl | trivial | (simp only [widF, c_1, c_4, c_7, c_10, c_11, if_true, if_false, reduceIte, and_self]; done) | simp_all, ⟨by rw [ht9]; exact hP9, va_K.moved hW9.alike hK9, hD9⟩⟩, hS.F ht9⟩) hS.2.2 dX2_widthOf_77
      · have hc9 := c_7
        refine lv_iconst (v := 2) hx hb dX2_widthOf_27 (by decide) ?_
        have hP9 : va_P D vwCl [(la, .inr (2, [.ref ld, .ref lz])), (ld, .inr (4, [.ref ldA, .int (nI nd)])), (ldA, .inl (K, 9, .inl df)), (lz, .inr (4, [.ref lzA, .int (nI ns)]))] H := hP.sub [2, 0, 1, 3] rfl
        have hD9 : va_D A [(la, .inr (2, [.ref ld, .ref lz])), (ld, .inr (4, [.ref ldA, .int (nI nd)])), (ldA, .inl (K, 9, .inl df)), (lz, .inr (4, [.ref lzA, .int (nI ns)]))] := hD.sub [2, 0, 1, 3] (by decide) rfl
        have hK9 : va_K D vwCl [] s := hK.sub [] rfl
        exact W.iret (v := 2) hx hb hr (fun t ht9 hW9 => ⟨⟨2, (), rfl, by first | rfl | trivial | (simp only [widF, c_1, c_4, c_7, if_true, if_false, reduceIte, and_self]; done) | simp_all, ⟨by rw [ht9]; exact hP9, va_K.moved hW9.alike hK9, hD9⟩⟩, hS.F ht9⟩) hS.2.2 dX2_widthOf_28
    · have hc9 := c_4
      refine lv_iconst (v := 1) hx hb dX2_widthOf_15 (by decide) ?_
      have hP9 : va_P D vwCl [(la, .inr (2, [.ref ld, .ref lz])), (ld, .inr (4, [.ref ldA, .int (nI nd)])), (ldA, .inl (K, 9, .inl df)), (lz, .inr (4, [.ref lzA, .int (nI ns)]))] H := hP.sub [2, 0, 1, 3] rfl
      have hD9 : va_D A [(la, .inr (2, [.ref ld, .ref lz])), (ld, .inr (4, [.ref ldA, .int (nI nd)])), (ldA, .inl (K, 9, .inl df)), (lz, .inr (4, [.ref lzA, .int (nI ns)]))] := hD.sub [2, 0, 1, 3] (by decide) rfl
      have hK9 : va_K D vwCl [] s := hK.sub [] rfl
      exact W.iret (v := 1) hx hb hr (fun t ht9 hW9 => ⟨⟨1, (), rfl, by (unfold widF; rw [if_neg c_1, if_pos c_4]), ⟨by rw [ht9]; exact hP9, va_K.moved hW9.alike hK9, hD9⟩⟩, hS.F ht9⟩) hS.2.2 dX2_widthOf_16
set_option maxHeartbeats 4000000 in
set_option maxRecDepth 100000 in
theorem c_timeOf (l : Launch) (D : va_G) (la : Nat) (ld : Nat) (lz : Nat) (ldA : Nat) (nd : Nat) (K : ClassId) (df : Nat → Int32) (lzA : Nat) (ns : Nat) (x : Int32) (z : Int32) (lf : Int32) (rt : Int32) (hns : ns ≤ 41) (sz : Nat) : k_Mi (S := Unit) l D yX2_timeOf cX2_timeOf 8 (some .int) 3 0 0 64 [.ref la, .int x, .int z, .int lf, .int rt] [(la, .inr (2, [.ref ld, .ref lz])), (ld, .inr (4, [.ref ldA, .int (nI nd)])), (ldA, .inl (K, 9, .inl df)), (lz, .inr (4, [.ref lzA, .int (nI ns)]))] [(K, .int)] (fun (r : Int32) (_ : Unit) => r = (timF nd df (nI ns) x z lf rt)) (fun _ => [(la, .inr (2, [.ref ld, .ref lz])), (ld, .inr (4, [.ref ldA, .int (nI nd)])), (ldA, .inl (K, 9, .inl df)), (lz, .inr (4, [.ref lzA, .int (nI ns)]))]) (fun _ => []) sz := by
  refine Met.ofW (cc := cX2_timeOf) (maxL := 8) (ret := (some .int)) (by decide) rfl ?_
  intro p e s m args below meth c s₁ B hml hv
  obtain ⟨rfl, hsz, hP, hK, hD0, hG⟩ := hv
  have hx := B.exec
  have hb := B.bytes
  have hr := B.returns
  have ht : ∀ v9 ∈ wsA, v9.before ([.ref la, .int x, .int z, .int lf, .int rt] : List Value).toArray s = true := fun v9 h9 => atoms_spec (ws := k_ws yX2_timeOf cX2_timeOf 8 (some .int)) B.pre v9 (List.mem_cons_of_mem _ h9)
  have hown : s.vm.findClass RX2 = some m.cls := findClass_of_methodNamed B.named
  have S0 : k_C p s m ([.ref la, .int x, .int z, .int lf, .int rt] : List Value).toArray c cX2_timeOf 8 RX2 := ⟨hx, hb, hml, hown, ht⟩
  have hlocks := B.notSynchronized
  subst hsz
  have hD := hD0.self (sz := s.heap.size)
  generalize hAe : va_A [(la, .inr (2, [.ref ld, .ref lz])), (ld, .inr (4, [.ref ldA, .int (nI nd)])), (ldA, .inl (K, 9, .inl df)), (lz, .inr (4, [.ref lzA, .int (nI ns)]))] s.heap.size = A at hD hG ⊢
  have hA : ∀ q : Nat, s.heap.size ≤ q → A q := fun q h => by rw [← hAe]; exact Or.inr h
  have hS : va_S A s.heap s.heap [] := va_S.rf
  have hl := lv_entry ([.ref la, .int x, .int z, .int lf, .int rt]) (n := 8) (Nat.le_of_ble_eq_true rfl)
  rw [lg_entry_eq]
  generalize (lg_sl ([.ref la, .int x, .int z, .int lf, .int rt]) ++ List.replicate (8 - (lg_sl ([.ref la, .int x, .int z, .int lf, .int rt])).length) Slot.unset).toArray = ls at hl ⊢
  have hl : lv_has ls 8 [(0, .ref la), (1, .int x), (2, .int z), (3, .int lf), (4, .int rt)] := hl
  have hP : va_P D vwCl [(la, .inr (2, [.ref ld, .ref lz])), (ld, .inr (4, [.ref ldA, .int (nI nd)])), (ldA, .inl (K, 9, .inl df)), (lz, .inr (4, [.ref lzA, .int (nI ns)]))] s.heap := hP
  refine lv_aload_n hx hb dX2_timeOf_0 rfl (lv_at hl 0 rfl) ?_
  have ct := k_cut_of (wc := [(la, .inr (2, [.ref ld, .ref lz])), (lz, .inr (4, [.ref lzA, .int (nI ns)]))]) (wr := [(ld, .inr (4, [.ref ldA, .int (nI nd)])), (ldA, .inl (K, 9, .inl df))]) (tc := []) hG hS hA hK hP hD [0, 3] [1, 2] [] rfl rfl (by decide) (by decide) (by decide) rfl
  refine k_endi (As := [.ref la]) ct (k_runV (As := []) (rest := []) S0 Lv_X2_38 rfl (ci := 2) (q0 := 0) rfl rfl ct (c_Label_size l D la ld lz lzA ns s.heap.size) hl.1 rfl (Nat.le_of_ble_eq_true rfl) rfl dX2_timeOf_1 ⟨⟨Nat.le_of_ble_eq_true rfl, Nat.le_of_ble_eq_true rfl⟩, Nat.le_of_ble_eq_true rfl, Nat.le_of_ble_eq_true rfl⟩) rfl rfl (fun r_1 _ H locs hw_2 hP hD hK hS => ?_)
  have hK : va_K D vwCl [(K, .int)] s := hK
  have hP : va_P D vwCl [(ld, .inr (4, [.ref ldA, .int (nI nd)])), (ldA, .inl (K, 9, .inl df)), (la, .inr (2, [.ref ld, .ref lz])), (lz, .inr (4, [.ref lzA, .int (nI ns)]))] H := hP
  have hD : va_D A [(ld, .inr (4, [.ref ldA, .int (nI nd)])), (ldA, .inl (K, 9, .inl df)), (la, .inr (2, [.ref ld, .ref lz])), (lz, .inr (4, [.ref lzA, .int (nI ns)]))] := hD
  have hw_2 : r_1 = (nI ns) := hw_2
  have hw_2 := hw_2.symm
  subst hw_2
  refine k_nrm (y := (nI ns)) rfl ?_
  refine lv_iconst (v := 1) hx hb dX2_timeOf_4 (by decide) ?_
  refine lv_isub hx hb dX2_timeOf_5 ?_
  refine k_nrm (y := (nI ns - 1)) (rfl) ?_
  refine lv_iconst (v := 1) hx hb dX2_timeOf_6 (by decide) ?_
  refine va_mmax hx hb (by rw [hml]; exact hl.1.symm) hown (ht _ lM_X2_47) (ht _ lM_st_max) (ht _ li_java_lang_Math) (ht _ lM_code_max) (Nat.le_of_ble_eq_true rfl) (Nat.le_of_ble_eq_true rfl) (Nat.le_of_ble_eq_true rfl) (Nat.le_of_ble_eq_true rfl) dX2_timeOf_7 ?_
  refine k_nrm (y := (mx1 (nI ns - 1))) (rfl) ?_
  refine lv_istore (lv' := [(5, .int (mx1 (nI ns - 1))), (0, .ref la), (1, .int x), (2, .int z), (3, .int lf), (4, .int rt)]) hx hb dX2_timeOf_10 hl (by decide) rfl (fun ls hl => ?_)
  refine lv_bipush (v := 10) hx hb dX2_timeOf_12 (by decide) ?_
  refine lv_aload_n hx hb dX2_timeOf_14 rfl (lv_at hl 1 rfl) ?_
  refine lv_iload_n hx hb dX2_timeOf_15 rfl (lv_at hl 2 rfl) ?_
  have ct := k_cut_of (wc := [(la, .inr (2, [.ref ld, .ref lz])), (ld, .inr (4, [.ref ldA, .int (nI nd)])), (ldA, .inl (K, 9, .inl df)), (lz, .inr (4, [.ref lzA, .int (nI ns)]))]) (wr := []) (tc := [(K, .int)]) hG hS hA hK hP hD [2, 0, 1, 3] [] [0] rfl rfl (by decide) (by decide) (by decide) rfl
  refine k_endi (As := [.ref la, .int x]) ct (k_runV (As := [.int x]) (rest := [.int 10]) S0 Lv_X2_53 rfl (ci := 2) (q0 := 0) rfl rfl ct (c_widthOf l D la ld lz ldA nd K df lzA ns x H.size) hl.1 rfl (Nat.le_of_ble_eq_true rfl) rfl dX2_timeOf_16 ⟨⟨Nat.le_of_ble_eq_true rfl, Nat.le_of_ble_eq_true rfl⟩, Nat.le_of_ble_eq_true rfl, Nat.le_of_ble_eq_true rfl⟩) rfl rfl (fun r_3 _ H locs hw_4 hP hD hK hS => ?_)
  have hK : va_K D vwCl [(K, .int)] s := hK
  have hP : va_P D vwCl [(la, .inr (2, [.ref ld, .ref lz])), (ld, .inr (4, [.ref ldA, .int (nI nd)])), (ldA, .inl (K, 9, .inl df)), (lz, .inr (4, [.ref lzA, .int (nI ns)]))] H := hP
  have hD : va_D A [(la, .inr (2, [.ref ld, .ref lz])), (ld, .inr (4, [.ref ldA, .int (nI nd)])), (ldA, .inl (K, 9, .inl df)), (lz, .inr (4, [.ref lzA, .int (nI ns)]))] := hD
  have hw_4 : r_3 = (widF nd df (nI ns) x) := hw_4
  have hw_4 := hw_4.symm
  subst hw_4
  refine k_nrm (y := (widF nd df (nI ns) x)) rfl ?_
  refine lv_imul hx hb dX2_timeOf_19 ?_
  refine k_nrm (y := (10 * (widF nd df (nI ns) x))) (rfl) ?_
  refine lv_iload_n hx hb dX2_timeOf_20 rfl (lv_at hl 3 rfl) ?_
  refine lv_iadd hx hb dX2_timeOf_21 ?_
  refine k_nrm (y := (10 * (widF nd df (nI ns) x) + z)) (rfl) ?_
  refine lv_istore (lv' := [(6, .int (10 * (widF nd df (nI ns) x) + z)), (5, .int (mx1 (nI ns - 1))), (0, .ref la), (1, .int x), (2, .int z), (3, .int lf), (4, .int rt)]) hx hb dX2_timeOf_22 hl (by decide) rfl (fun ls hl => ?_)
  refine lv_iload_n hx hb dX2_timeOf_24 rfl (lv_at hl 5 rfl) ?_
  refine lv_iload hx hb dX2_timeOf_25 (lv_at hl 1 rfl) ?_
  refine lv_iload_n hx hb dX2_timeOf_27 rfl (lv_at hl 3 rfl) ?_
  refine lv_isub hx hb dX2_timeOf_28 ?_
  refine k_nrm (y := ((mx1 (nI ns - 1)) - x)) (rfl) ?_
  refine lv_imul hx hb dX2_timeOf_29 ?_
  refine k_nrm (y := (lf * ((mx1 (nI ns - 1)) - x))) (rfl) ?_
  refine lv_iload hx hb dX2_timeOf_30 (lv_at hl 6 rfl) ?_
  refine lv_iload_n hx hb dX2_timeOf_32 rfl (lv_at hl 3 rfl) ?_
  refine lv_imul hx hb dX2_timeOf_33 ?_
  refine k_nrm (y := (rt * x)) (rfl) ?_
  refine lv_iadd hx hb dX2_timeOf_34 ?_
  refine k_nrm (y := (lf * ((mx1 (nI ns - 1)) - x) + rt * x)) (rfl) ?_
  refine lv_istore (lv' := [(7, .int (lf * ((mx1 (nI ns - 1)) - x) + rt * x)), (6, .int (10 * (widF nd df (nI ns) x) + z)), (5, .int (mx1 (nI ns - 1))), (0, .ref la), (1, .int x), (2, .int z), (3, .int lf), (4, .int rt)]) hx hb dX2_timeOf_35 hl (by decide) rfl (fun ls hl => ?_)
  refine lv_iload hx hb dX2_timeOf_37 (lv_at hl 1 rfl) ?_
  refine lv_iload hx hb dX2_timeOf_39 (lv_at hl 0 rfl) ?_
  refine lv_imul hx hb dX2_timeOf_41 ?_
  refine k_nrm (y := ((10 * (widF nd df (nI ns) x) + z) * (lf * ((mx1 (nI ns - 1)) - x) + rt * x))) (rfl) ?_
  refine lv_bipush (v := 10) hx hb dX2_timeOf_42 (by decide) ?_
  refine lv_iload hx hb dX2_timeOf_44 (lv_at hl 2 rfl) ?_
  refine lv_imul hx hb dX2_timeOf_46 ?_
  refine k_nrm (y := (10 * (mx1 (nI ns - 1)))) (rfl) ?_
  refine lv_idiv hx hb dX2_timeOf_47 (ten_ne ns hns) ?_
  refine k_nrm (y := ((10 * (widF nd df (nI ns) x) + z) * (lf * ((mx1 (nI ns - 1)) - x) + rt * x) / (10 * (mx1 (nI ns - 1))))) (rfl) ?_
  refine lv_iconst (v := 1) hx hb dX2_timeOf_48 (by decide) ?_
  refine va_mmax hx hb (by rw [hml]; exact hl.1.symm) hown (ht _ lM_X2_47) (ht _ lM_st_max) (ht _ li_java_lang_Math) (ht _ lM_code_max) (Nat.le_of_ble_eq_true rfl) (Nat.le_of_ble_eq_true rfl) (Nat.le_of_ble_eq_true rfl) (Nat.le_of_ble_eq_true rfl) dX2_timeOf_49 ?_
  refine k_nrm (y := (timF nd df (nI ns) x z lf rt)) (rfl) ?_
  have hP9 : va_P D vwCl [(la, .inr (2, [.ref ld, .ref lz])), (ld, .inr (4, [.ref ldA, .int (nI nd)])), (ldA, .inl (K, 9, .inl df)), (lz, .inr (4, [.ref lzA, .int (nI ns)]))] H := hP.sub [0, 1, 2, 3] rfl
  have hD9 : va_D A [(la, .inr (2, [.ref ld, .ref lz])), (ld, .inr (4, [.ref ldA, .int (nI nd)])), (ldA, .inl (K, 9, .inl df)), (lz, .inr (4, [.ref lzA, .int (nI ns)]))] := hD.sub [0, 1, 2, 3] (by decide) rfl
  have hK9 : va_K D vwCl [] s := hK.sub [] rfl
  exact W.iret (v := (timF nd df (nI ns) x z lf rt)) hx hb hr (fun t ht9 hW9 => ⟨⟨(timF nd df (nI ns) x z lf rt), (), rfl, by first | rfl | trivial | (simp only [if_true, if_false, reduceIte, and_self]; done) | simp_all, ⟨by rw [ht9]; exact hP9, va_K.moved hW9.alike hK9, hD9⟩⟩, hS.F ht9⟩) hS.2.2 dX2_timeOf_52
set_option maxHeartbeats 4000000 in
set_option maxRecDepth 100000 in
theorem c_drawInto (l : Launch) (D : va_G) (la : Nat) (ld : Nat) (lz : Nat) (ldA : Nat) (nd : Nat) (K : ClassId) (df : Nat → Int32) (lzA : Nat) (ns : Nat) (zf : Nat → Int32) (tm : Nat) (tmA : Nat) (tn : Int32) (tf : Nat → Int32) (lf : Int32) (rt : Int32) (b : Int32) (hns : ns ≤ 41) (sz : Nat) : k_Mv (S := Unit) l D yX2_drawInto cX2_drawInto 7 none 4 0 0 91 [.ref la, .ref tm, .int lf, .int rt, .int b] [(la, .inr (2, [.ref ld, .ref lz])), (ld, .inr (4, [.ref ldA, .int (nI nd)])), (ldA, .inl (K, 9, .inl df)), (lz, .inr (4, [.ref lzA, .int (nI ns)])), (lzA, .inl (K, 41, .inl zf)), (tm, .inr (4, [.ref tmA, .int tn])), (tmA, .inl (K, 41, .inl tf))] [(K, .int)] (fun (_ : Unit) => True) (fun _ => [(la, .inr (2, [.ref ld, .ref lz])), (ld, .inr (4, [.ref ldA, .int (nI nd)])), (ldA, .inl (K, 9, .inl df)), (lz, .inr (4, [.ref lzA, .int (nI ns)])), (lzA, .inl (K, 41, .inl zf)), (tm, .inr (4, [.ref tmA, .int (nI ns)])), (tmA, .inl (K, 41, .inl (cpy (drwF nd df ns zf lf rt b) tf ns)))]) (fun _ => []) sz := by
  refine Met.ofW (cc := cX2_drawInto) (maxL := 7) (ret := none) (by decide) rfl ?_
  intro p e s m args below meth c s₁ B hml hv
  obtain ⟨rfl, hsz, hP, hK, hD0, hG⟩ := hv
  have hx := B.exec
  have hb := B.bytes
  have hr := B.returns
  have ht : ∀ v9 ∈ wsA, v9.before ([.ref la, .ref tm, .int lf, .int rt, .int b] : List Value).toArray s = true := fun v9 h9 => atoms_spec (ws := k_ws yX2_drawInto cX2_drawInto 7 none) B.pre v9 (List.mem_cons_of_mem _ h9)
  have hown : s.vm.findClass RX2 = some m.cls := findClass_of_methodNamed B.named
  have S0 : k_C p s m ([.ref la, .ref tm, .int lf, .int rt, .int b] : List Value).toArray c cX2_drawInto 7 RX2 := ⟨hx, hb, hml, hown, ht⟩
  have hlocks := B.notSynchronized
  subst hsz
  have hD := hD0.self (sz := s.heap.size)
  generalize hAe : va_A [(la, .inr (2, [.ref ld, .ref lz])), (ld, .inr (4, [.ref ldA, .int (nI nd)])), (ldA, .inl (K, 9, .inl df)), (lz, .inr (4, [.ref lzA, .int (nI ns)])), (lzA, .inl (K, 41, .inl zf)), (tm, .inr (4, [.ref tmA, .int tn])), (tmA, .inl (K, 41, .inl tf))] s.heap.size = A at hD hG ⊢
  have hA : ∀ q : Nat, s.heap.size ≤ q → A q := fun q h => by rw [← hAe]; exact Or.inr h
  have hS : va_S A s.heap s.heap [] := va_S.rf
  have hl := lv_entry ([.ref la, .ref tm, .int lf, .int rt, .int b]) (n := 7) (Nat.le_of_ble_eq_true rfl)
  rw [lg_entry_eq]
  generalize (lg_sl ([.ref la, .ref tm, .int lf, .int rt, .int b]) ++ List.replicate (7 - (lg_sl ([.ref la, .ref tm, .int lf, .int rt, .int b])).length) Slot.unset).toArray = ls at hl ⊢
  have hl : lv_has ls 7 [(0, .ref la), (1, .ref tm), (2, .int lf), (3, .int rt), (4, .int b)] := hl
  have hP : va_P D vwCl [(la, .inr (2, [.ref ld, .ref lz])), (ld, .inr (4, [.ref ldA, .int (nI nd)])), (ldA, .inl (K, 9, .inl df)), (lz, .inr (4, [.ref lzA, .int (nI ns)])), (lzA, .inl (K, 41, .inl zf)), (tm, .inr (4, [.ref tmA, .int tn])), (tmA, .inl (K, 41, .inl tf))] s.heap := hP
  refine lv_aload_n hx hb dX2_drawInto_0 rfl (lv_at hl 1 rfl) ?_
  have ct := k_cut_of (wc := [(tm, .inr (4, [.ref tmA, .int tn]))]) (wr := [(la, .inr (2, [.ref ld, .ref lz])), (ld, .inr (4, [.ref ldA, .int (nI nd)])), (ldA, .inl (K, 9, .inl df)), (lz, .inr (4, [.ref lzA, .int (nI ns)])), (lzA, .inl (K, 41, .inl zf)), (tmA, .inl (K, 41, .inl tf))]) (tc := []) hG hS hA hK hP hD [5] [0, 1, 2, 3, 4, 6] [] rfl rfl (by decide) (by decide) (by decide) rfl
  refine k_endv (As := [.ref tm]) ct (k_runV (As := []) (rest := []) S0 Lv_X2_56 rfl (ci := 4) (q0 := 0) rfl rfl ct (c_Row_clear l D tm tmA tn s.heap.size) hl.1 rfl (Nat.le_of_ble_eq_true rfl) rfl dX2_drawInto_1 ⟨⟨Nat.le_of_ble_eq_true rfl, Nat.le_of_ble_eq_true rfl⟩, Nat.le_of_ble_eq_true rfl, Nat.le_of_ble_eq_true rfl⟩) rfl rfl (fun _ _ H locs hw_2 hP hD hK hS => ?_)
  have hK : va_K D vwCl [(K, .int)] s := hK
  have hP : va_P D vwCl [(la, .inr (2, [.ref ld, .ref lz])), (ld, .inr (4, [.ref ldA, .int (nI nd)])), (ldA, .inl (K, 9, .inl df)), (lz, .inr (4, [.ref lzA, .int (nI ns)])), (lzA, .inl (K, 41, .inl zf)), (tmA, .inl (K, 41, .inl tf)), (tm, .inr (4, [.ref tmA, .int (nI 0)]))] H := hP
  have hD : va_D A [(la, .inr (2, [.ref ld, .ref lz])), (ld, .inr (4, [.ref ldA, .int (nI nd)])), (ldA, .inl (K, 9, .inl df)), (lz, .inr (4, [.ref lzA, .int (nI ns)])), (lzA, .inl (K, 41, .inl zf)), (tmA, .inl (K, 41, .inl tf)), (tm, .inr (4, [.ref tmA, .int (nI 0)]))] := hD
  refine lv_iconst (v := 0) hx hb dX2_drawInto_4 (by decide) ?_
  refine lv_istore (lv' := [(5, .int 0), (0, .ref la), (1, .ref tm), (2, .int lf), (3, .int rt), (4, .int b)]) hx hb dX2_drawInto_5 hl (by decide) rfl (fun ls hl => ?_)
  have hf_3 : (tf : Nat → Int32) = (cpy (drwF nd df ns zf lf rt b) tf 0) := (cpy_0 _ tf).symm
  have hP : va_P D vwCl [(la, .inr (2, [.ref ld, .ref lz])), (ld, .inr (4, [.ref ldA, .int (nI nd)])), (ldA, .inl (K, 9, .inl df)), (lz, .inr (4, [.ref lzA, .int (nI ns)])), (lzA, .inl (K, 41, .inl zf)), (tmA, .inl (K, 41, .inl (cpy (drwF nd df ns zf lf rt b) tf 0))), (tm, .inr (4, [.ref tmA, .int (nI 0)]))] H := (congrArg (fun z9 : Nat → Int32 => va_P D vwCl [(la, .inr (2, [.ref ld, .ref lz])), (ld, .inr (4, [.ref ldA, .int (nI nd)])), (ldA, .inl (K, 9, .inl df)), (lz, .inr (4, [.ref lzA, .int (nI ns)])), (lzA, .inl (K, 41, .inl zf)), (tmA, .inl (K, 41, .inl z9)), (tm, .inr (4, [.ref tmA, .int (nI 0)]))] H) hf_3).mp hP
  have hD : va_D A [(la, .inr (2, [.ref ld, .ref lz])), (ld, .inr (4, [.ref ldA, .int (nI nd)])), (ldA, .inl (K, 9, .inl df)), (lz, .inr (4, [.ref lzA, .int (nI ns)])), (lzA, .inl (K, 41, .inl zf)), (tmA, .inl (K, 41, .inl (cpy (drwF nd df ns zf lf rt b) tf 0))), (tm, .inr (4, [.ref tmA, .int (nI 0)]))] := (congrArg (fun z9 : Nat → Int32 => va_D A [(la, .inr (2, [.ref ld, .ref lz])), (ld, .inr (4, [.ref ldA, .int (nI nd)])), (ldA, .inl (K, 9, .inl df)), (lz, .inr (4, [.ref lzA, .int (nI ns)])), (lzA, .inl (K, 41, .inl zf)), (tmA, .inl (K, 41, .inl z9)), (tm, .inr (4, [.ref tmA, .int (nI 0)]))]) hf_3).mp hD
  have hl : lv_has ls 7 [(5, .int (nI 0)), (0, .ref la), (1, .ref tm), (2, .int lf), (3, .int rt), (4, .int b)] := hl
  refine k_loop (ι := Nat) (fun (i : Nat) H9 locs9 ls9 => (i ≤ ns) ∧ va_P D vwCl [(la, .inr (2, [.ref ld, .ref lz])), (ld, .inr (4, [.ref ldA, .int (nI nd)])), (ldA, .inl (K, 9, .inl df)), (lz, .inr (4, [.ref lzA, .int (nI ns)])), (lzA, .inl (K, 41, .inl zf)), (tm, .inr (4, [.ref tmA, .int (nI i)])), (tmA, .inl (K, 41, .inl (cpy (drwF nd df ns zf lf rt b) tf i)))] H9 ∧ va_D A [(la, .inr (2, [.ref ld, .ref lz])), (ld, .inr (4, [.ref ldA, .int (nI nd)])), (ldA, .inl (K, 9, .inl df)), (lz, .inr (4, [.ref lzA, .int (nI ns)])), (lzA, .inl (K, 41, .inl zf)), (tm, .inr (4, [.ref tmA, .int (nI i)])), (tmA, .inl (K, 41, .inl (cpy (drwF nd df ns zf lf rt b) tf i)))] ∧ va_S A s.heap H9 locs9 ∧ lv_has ls9 7 [(5, .int (nI i)), (0, .ref la), (1, .ref tm), (2, .int lf), (3, .int rt), (4, .int b)]) (fun (i : Nat) => ns - i) ?_ (0) ⟨(Nat.zero_le _), hP.sub [0, 1, 2, 3, 4, 6, 5] rfl, hD.sub [0, 1, 2, 3, 4, 6, 5] (by decide) rfl, hS, lv_sub hl [0, 1, 2, 3, 4, 5] rfl⟩
  intro x9 H locs ls hF9 ih9
  obtain ⟨i, hv9⟩ : ∃ z, z = x9 := ⟨_, rfl⟩
  subst hv9
  obtain ⟨hi, hP, hD, hS, hl⟩ := hF9
  try dsimp only at ih9
  have hP : va_P D vwCl [(la, .inr (2, [.ref ld, .ref lz])), (ld, .inr (4, [.ref ldA, .int (nI nd)])), (ldA, .inl (K, 9, .inl df)), (lz, .inr (4, [.ref lzA, .int (nI ns)])), (lzA, .inl (K, 41, .inl zf)), (tm, .inr (4, [.ref tmA, .int (nI i)])), (tmA, .inl (K, 41, .inl (cpy (drwF nd df ns zf lf rt b) tf i)))] H := hP
  have hD : va_D A [(la, .inr (2, [.ref ld, .ref lz])), (ld, .inr (4, [.ref ldA, .int (nI nd)])), (ldA, .inl (K, 9, .inl df)), (lz, .inr (4, [.ref lzA, .int (nI ns)])), (lzA, .inl (K, 41, .inl zf)), (tm, .inr (4, [.ref tmA, .int (nI i)])), (tmA, .inl (K, 41, .inl (cpy (drwF nd df ns zf lf rt b) tf i)))] := hD
  have hl : lv_has ls 7 [(5, .int (nI i)), (0, .ref la), (1, .ref tm), (2, .int lf), (3, .int rt), (4, .int b)] := hl
  refine lv_iload hx hb dX2_drawInto_7 (lv_at hl 0 rfl) ?_
  refine lv_aload_n hx hb dX2_drawInto_9 rfl (lv_at hl 1 rfl) ?_
  have ct := k_cut_of (wc := [(la, .inr (2, [.ref ld, .ref lz])), (lz, .inr (4, [.ref lzA, .int (nI ns)]))]) (wr := [(ld, .inr (4, [.ref ldA, .int (nI nd)])), (ldA, .inl (K, 9, .inl df)), (lzA, .inl (K, 41, .inl zf)), (tm, .inr (4, [.ref tmA, .int (nI i)])), (tmA, .inl (K, 41, .inl (cpy (drwF nd df ns zf lf rt b) tf i)))]) (tc := []) hG hS hA hK hP hD [0, 3] [1, 2, 4, 5, 6] [] rfl rfl (by decide) (by decide) (by decide) rfl
  refine k_endi (As := [.ref la]) ct (k_runV (As := []) (rest := [.int (nI i)]) S0 Lv_X2_38 rfl (ci := 2) (q0 := 0) rfl rfl ct (c_Label_size l D la ld lz lzA ns H.size) hl.1 rfl (Nat.le_of_ble_eq_true rfl) rfl dX2_drawInto_10 ⟨⟨Nat.le_of_ble_eq_true rfl, Nat.le_of_ble_eq_true rfl⟩, Nat.le_of_ble_eq_true rfl, Nat.le_of_ble_eq_true rfl⟩) rfl rfl (fun r_4 _ H locs hw_5 hP hD hK hS => ?_)
  have hK : va_K D vwCl [(K, .int)] s := hK
  have hP : va_P D vwCl [(ld, .inr (4, [.ref ldA, .int (nI nd)])), (ldA, .inl (K, 9, .inl df)), (lzA, .inl (K, 41, .inl zf)), (tm, .inr (4, [.ref tmA, .int (nI i)])), (tmA, .inl (K, 41, .inl (cpy (drwF nd df ns zf lf rt b) tf i))), (la, .inr (2, [.ref ld, .ref lz])), (lz, .inr (4, [.ref lzA, .int (nI ns)]))] H := hP
  have hD : va_D A [(ld, .inr (4, [.ref ldA, .int (nI nd)])), (ldA, .inl (K, 9, .inl df)), (lzA, .inl (K, 41, .inl zf)), (tm, .inr (4, [.ref tmA, .int (nI i)])), (tmA, .inl (K, 41, .inl (cpy (drwF nd df ns zf lf rt b) tf i))), (la, .inr (2, [.ref ld, .ref lz])), (lz, .inr (4, [.ref lzA, .int (nI ns)]))] := hD
  have hw_5 : r_4 = (nI ns) := hw_5
  have hw_5 := hw_5.symm
  subst hw_5
  refine k_nrm (y := (nI ns)) rfl ?_
  refine lv_icmp_ge (tgt := 64) hx hb dX2_drawInto_13 (by decide) (fun c_6 => ?_) (fun c_6 => ?_)
  · have hc9 := c_6
    obtain rfl : ns = i := by rcases Nat.lt_or_ge i ns with q9 | q9; exact absurd c_6 (nI_ge q9 (by omega)); omega
    have hP9 : va_P D vwCl [(la, .inr (2, [.ref ld, .ref lz])), (ld, .inr (4, [.ref ldA, .int (nI nd)])), (ldA, .inl (K, 9, .inl df)), (lz, .inr (4, [.ref lzA, .int (nI ns)])), (lzA, .inl (K, 41, .inl zf)), (tm, .inr (4, [.ref tmA, .int (nI ns)])), (tmA, .inl (K, 41, .inl (cpy (drwF nd df ns zf lf rt b) tf ns)))] H := hP.sub [5, 0, 1, 6, 2, 3, 4] rfl
    have hD9 : va_D A [(la, .inr (2, [.ref ld, .ref lz])), (ld, .inr (4, [.ref ldA, .int (nI nd)])), (ldA, .inl (K, 9, .inl df)), (lz, .inr (4, [.ref lzA, .int (nI ns)])), (lzA, .inl (K, 41, .inl zf)), (tm, .inr (4, [.ref tmA, .int (nI ns)])), (tmA, .inl (K, 41, .inl (cpy (drwF nd df ns zf lf rt b) tf ns)))] := hD.sub [5, 0, 1, 6, 2, 3, 4] (by decide) rfl
    have hK9 : va_K D vwCl [] s := hK.sub [] rfl
    exact W.vret hx hb hr (fun t ht9 hW9 => ⟨⟨(), rfl, by first | rfl | trivial | (simp only [hi, c_6, if_true, if_false, reduceIte, and_self]; done) | simp_all, ⟨by rw [ht9]; exact hP9, va_K.moved hW9.alike hK9, hD9⟩⟩, hS.F ht9⟩) hS.2.2 dX2_drawInto_64
  · have hc9 := c_6
    have hik : i + 1 ≤ ns := by rcases Nat.lt_or_ge i ns with q9 | q9; exact q9; exact absurd (nI_le q9 (by omega)) c_6
    refine lv_iload hx hb dX2_drawInto_16 (lv_at hl 5 rfl) ?_
    refine lv_if_eq (tgt := 33) hx hb dX2_drawInto_18 (by decide) (fun c_7 => ?_) (fun c_7 => ?_)
    · have hc9 := c_7
      refine lv_iload hx hb dX2_drawInto_33 (lv_at hl 0 rfl) ?_
      refine lv_istore (lv' := [(6, .int (nI i)), (5, .int (nI i)), (0, .ref la), (1, .ref tm), (2, .int lf), (3, .int rt), (4, .int b)]) hx hb dX2_drawInto_35 hl (by decide) rfl (fun ls hl => ?_)
      have he6 : (nI i) = elF (nI ns) b i := by unfold elF; rw [if_pos c_7]
      have hl : lv_has ls 7 [(6, .int (elF (nI ns) b i)), (5, .int (nI i)), (0, .ref la), (1, .ref tm), (2, .int lf), (3, .int rt), (4, .int b)] := by rw [← he6]; exact hl
      refine lv_aload_n hx hb dX2_drawInto_37 rfl (lv_at hl 3 rfl) ?_
      refine lv_aload_n hx hb dX2_drawInto_38 rfl (lv_at hl 2 rfl) ?_
      refine lv_iload hx hb dX2_drawInto_39 (lv_at hl 0 rfl) ?_
      refine lv_aload_n hx hb dX2_drawInto_41 rfl (lv_at hl 2 rfl) ?_
      refine va_get (D := D) (ci := 2) (v := .ref lz) (C := RX2) (T := TX2) (N := 2) hx hb ht inA_X2 hown hK hP 5 rfl rfl 1 (by decide) (ht _ lf_X2_20) (fun _ h9 => h9) rfl dX2_drawInto_42 ?_
      refine lv_iload hx hb dX2_drawInto_45 (lv_at hl 0 rfl) ?_
      have ct := k_cut_of (wc := [(lz, .inr (4, [.ref lzA, .int (nI ns)])), (lzA, .inl (K, 41, .inl zf))]) (wr := [(ld, .inr (4, [.ref ldA, .int (nI nd)])), (ldA, .inl (K, 9, .inl df)), (tm, .inr (4, [.ref tmA, .int (nI i)])), (tmA, .inl (K, 41, .inl (cpy (drwF nd df ns zf lf rt b) tf i))), (la, .inr (2, [.ref ld, .ref lz]))]) (tc := [(K, .int)]) hG hS hA hK hP hD [6, 2] [0, 1, 3, 4, 5] [0] rfl rfl (by decide) (by decide) (by decide) rfl
      refine k_endi (As := [.ref lz, .int (elF (nI ns) b i)]) ct (k_runV (As := [.int (elF (nI ns) b i)]) (rest := [.int (elF (nI ns) b i), .ref la, .ref tm]) S0 Lv_X2_39 rfl (ci := 4) (q0 := 0) rfl rfl ct (c_Row_at l D lz lzA (nI ns) K 41 zf (elF (nI ns) b i) (by first | assumption | decide) H.size) hl.1 rfl (Nat.le_of_ble_eq_true rfl) rfl dX2_drawInto_47 ⟨⟨Nat.le_of_ble_eq_true rfl, Nat.le_of_ble_eq_true rfl⟩, Nat.le_of_ble_eq_true rfl, Nat.le_of_ble_eq_true rfl⟩) rfl rfl (fun r_8 _ H locs hw_9 hP hD hK hS => ?_)
      have hK : va_K D vwCl [(K, .int)] s := hK
      have hP : va_P D vwCl [(ld, .inr (4, [.ref ldA, .int (nI nd)])), (ldA, .inl (K, 9, .inl df)), (tm, .inr (4, [.ref tmA, .int (nI i)])), (tmA, .inl (K, 41, .inl (cpy (drwF nd df ns zf lf rt b) tf i))), (la, .inr (2, [.ref ld, .ref lz])), (lz, .inr (4, [.ref lzA, .int (nI ns)])), (lzA, .inl (K, 41, .inl zf))] H := hP
      have hD : va_D A [(ld, .inr (4, [.ref ldA, .int (nI nd)])), (ldA, .inl (K, 9, .inl df)), (tm, .inr (4, [.ref tmA, .int (nI i)])), (tmA, .inl (K, 41, .inl (cpy (drwF nd df ns zf lf rt b) tf i))), (la, .inr (2, [.ref ld, .ref lz])), (lz, .inr (4, [.ref lzA, .int (nI ns)])), (lzA, .inl (K, 41, .inl zf))] := hD
      have hw_9 : r_8 = (rowAt 41 (nI ns) zf (elF (nI ns) b i)) := hw_9
      have hw_9 := hw_9.symm
      subst hw_9
      refine k_nrm (y := (rowAt 41 (nI ns) zf (elF (nI ns) b i))) rfl ?_
      refine lv_iload_n hx hb dX2_drawInto_50 rfl (lv_at hl 4 rfl) ?_
      refine lv_iload_n hx hb dX2_drawInto_51 rfl (lv_at hl 5 rfl) ?_
      have ct := k_cut_of (wc := [(la, .inr (2, [.ref ld, .ref lz])), (ld, .inr (4, [.ref ldA, .int (nI nd)])), (ldA, .inl (K, 9, .inl df)), (lz, .inr (4, [.ref lzA, .int (nI ns)]))]) (wr := [(tm, .inr (4, [.ref tmA, .int (nI i)])), (tmA, .inl (K, 41, .inl (cpy (drwF nd df ns zf lf rt b) tf i))), (lzA, .inl (K, 41, .inl zf))]) (tc := [(K, .int)]) hG hS hA hK hP hD [4, 0, 1, 5] [2, 3, 6] [0] rfl rfl (by decide) (by decide) (by decide) rfl
      refine k_endi (As := [.ref la, .int (elF (nI ns) b i), .int (rowAt 41 (nI ns) zf (elF (nI ns) b i)), .int lf, .int rt]) ct (k_runV (As := [.int (elF (nI ns) b i), .int (rowAt 41 (nI ns) zf (elF (nI ns) b i)), .int lf, .int rt]) (rest := [.ref tm]) S0 Lv_X2_59 rfl (ci := 2) (q0 := 0) rfl rfl ct (c_timeOf l D la ld lz ldA nd K df lzA ns (elF (nI ns) b i) (rowAt 41 (nI ns) zf (elF (nI ns) b i)) lf rt (by first | assumption | omega) H.size) hl.1 rfl (Nat.le_of_ble_eq_true rfl) rfl dX2_drawInto_52 ⟨⟨Nat.le_of_ble_eq_true rfl, Nat.le_of_ble_eq_true rfl⟩, Nat.le_of_ble_eq_true rfl, Nat.le_of_ble_eq_true rfl⟩) rfl rfl (fun r_10 _ H locs hw_11 hP hD hK hS => ?_)
      have hK : va_K D vwCl [(K, .int)] s := hK
      have hP : va_P D vwCl [(tm, .inr (4, [.ref tmA, .int (nI i)])), (tmA, .inl (K, 41, .inl (cpy (drwF nd df ns zf lf rt b) tf i))), (lzA, .inl (K, 41, .inl zf)), (la, .inr (2, [.ref ld, .ref lz])), (ld, .inr (4, [.ref ldA, .int (nI nd)])), (ldA, .inl (K, 9, .inl df)), (lz, .inr (4, [.ref lzA, .int (nI ns)]))] H := hP
      have hD : va_D A [(tm, .inr (4, [.ref tmA, .int (nI i)])), (tmA, .inl (K, 41, .inl (cpy (drwF nd df ns zf lf rt b) tf i))), (lzA, .inl (K, 41, .inl zf)), (la, .inr (2, [.ref ld, .ref lz])), (ld, .inr (4, [.ref ldA, .int (nI nd)])), (ldA, .inl (K, 9, .inl df)), (lz, .inr (4, [.ref lzA, .int (nI ns)]))] := hD
      have hw_11 : r_10 = (timF nd df (nI ns) (elF (nI ns) b i) (rowAt 41 (nI ns) zf (elF (nI ns) b i)) lf rt) := hw_11
      have hw_11 := hw_11.symm
      subst hw_11
      refine k_nrm (y := (timF nd df (nI ns) (elF (nI ns) b i) (rowAt 41 (nI ns) zf (elF (nI ns) b i)) lf rt)) rfl ?_
      have ct := k_cut_of (wc := [(tm, .inr (4, [.ref tmA, .int (nI i)])), (tmA, .inl (K, 41, .inl (cpy (drwF nd df ns zf lf rt b) tf i)))]) (wr := [(lzA, .inl (K, 41, .inl zf)), (la, .inr (2, [.ref ld, .ref lz])), (ld, .inr (4, [.ref ldA, .int (nI nd)])), (ldA, .inl (K, 9, .inl df)), (lz, .inr (4, [.ref lzA, .int (nI ns)]))]) (tc := [(K, .int)]) hG hS hA hK hP hD [0, 1] [2, 3, 4, 5, 6] [0] rfl rfl (by decide) (by decide) (by decide) rfl
      refine k_endv (As := [.ref tm, .int (timF nd df (nI ns) (elF (nI ns) b i) (rowAt 41 (nI ns) zf (elF (nI ns) b i)) lf rt)]) ct (k_runV (As := [.int (timF nd df (nI ns) (elF (nI ns) b i) (rowAt 41 (nI ns) zf (elF (nI ns) b i)) lf rt)]) (rest := []) S0 Lv_X2_63 rfl (ci := 4) (q0 := 0) rfl rfl ct (c_Row_add l D tm tmA i K 41 (cpy (drwF nd df ns zf lf rt b) tf i) (timF nd df (nI ns) (elF (nI ns) b i) (rowAt 41 (nI ns) zf (elF (nI ns) b i)) lf rt) (by first | assumption | decide) (by omega) H.size) hl.1 rfl (Nat.le_of_ble_eq_true rfl) rfl dX2_drawInto_55 ⟨⟨Nat.le_of_ble_eq_true rfl, Nat.le_of_ble_eq_true rfl⟩, Nat.le_of_ble_eq_true rfl, Nat.le_of_ble_eq_true rfl⟩) rfl rfl (fun _ _ H locs hw_13 hP hD hK hS => ?_)
      have hK : va_K D vwCl [(K, .int)] s := hK
      have hP : va_P D vwCl [(lzA, .inl (K, 41, .inl zf)), (la, .inr (2, [.ref ld, .ref lz])), (ld, .inr (4, [.ref ldA, .int (nI nd)])), (ldA, .inl (K, 9, .inl df)), (lz, .inr (4, [.ref lzA, .int (nI ns)])), (tm, .inr (4, [.ref tmA, .int (nI (i + 1))])), (tmA, .inl (K, 41, .inl (upd (cpy (drwF nd df ns zf lf rt b) tf i) i (timF nd df (nI ns) (elF (nI ns) b i) (rowAt 41 (nI ns) zf (elF (nI ns) b i)) lf rt))))] H := hP
      have hD : va_D A [(lzA, .inl (K, 41, .inl zf)), (la, .inr (2, [.ref ld, .ref lz])), (ld, .inr (4, [.ref ldA, .int (nI nd)])), (ldA, .inl (K, 9, .inl df)), (lz, .inr (4, [.ref lzA, .int (nI ns)])), (tm, .inr (4, [.ref tmA, .int (nI (i + 1))])), (tmA, .inl (K, 41, .inl (upd (cpy (drwF nd df ns zf lf rt b) tf i) i (timF nd df (nI ns) (elF (nI ns) b i) (rowAt 41 (nI ns) zf (elF (nI ns) b i)) lf rt))))] := hD
      have hf_14 : ((upd (cpy (drwF nd df ns zf lf rt b) tf i) i (timF nd df (nI ns) (elF (nI ns) b i) (rowAt 41 (nI ns) zf (elF (nI ns) b i)) lf rt)) : Nat → Int32) = (cpy (drwF nd df ns zf lf rt b) tf (i + 1)) := cpy_s (drwF nd df ns zf lf rt b) tf i
      have hP : va_P D vwCl [(lzA, .inl (K, 41, .inl zf)), (la, .inr (2, [.ref ld, .ref lz])), (ld, .inr (4, [.ref ldA, .int (nI nd)])), (ldA, .inl (K, 9, .inl df)), (lz, .inr (4, [.ref lzA, .int (nI ns)])), (tm, .inr (4, [.ref tmA, .int (nI (i + 1))])), (tmA, .inl (K, 41, .inl (cpy (drwF nd df ns zf lf rt b) tf (i + 1))))] H := (congrArg (fun z9 : Nat → Int32 => va_P D vwCl [(lzA, .inl (K, 41, .inl zf)), (la, .inr (2, [.ref ld, .ref lz])), (ld, .inr (4, [.ref ldA, .int (nI nd)])), (ldA, .inl (K, 9, .inl df)), (lz, .inr (4, [.ref lzA, .int (nI ns)])), (tm, .inr (4, [.ref tmA, .int (nI (i + 1))])), (tmA, .inl (K, 41, .inl z9))] H) hf_14).mp hP
      have hD : va_D A [(lzA, .inl (K, 41, .inl zf)), (la, .inr (2, [.ref ld, .ref lz])), (ld, .inr (4, [.ref ldA, .int (nI nd)])), (ldA, .inl (K, 9, .inl df)), (lz, .inr (4, [.ref lzA, .int (nI ns)])), (tm, .inr (4, [.ref tmA, .int (nI (i + 1))])), (tmA, .inl (K, 41, .inl (cpy (drwF nd df ns zf lf rt b) tf (i + 1))))] := (congrArg (fun z9 : Nat → Int32 => va_D A [(lzA, .inl (K, 41, .inl zf)), (la, .inr (2, [.ref ld, .ref lz])), (ld, .inr (4, [.ref ldA, .int (nI nd)])), (ldA, .inl (K, 9, .inl df)), (lz, .inr (4, [.ref lzA, .int (nI ns)])), (tm, .inr (4, [.ref tmA, .int (nI (i + 1))])), (tmA, .inl (K, 41, .inl z9))]) hf_14).mp hD
      obtain ⟨x_15, ex_15⟩ : ∃ z : Int32, z = (nI i) + 1 := ⟨_, rfl⟩
      refine lv_iinc (v := x_15) (lv' := [(5, .int x_15), (6, .int (elF (nI ns) b i)), (0, .ref la), (1, .ref tm), (2, .int lf), (3, .int rt), (4, .int b)]) hx hb dX2_drawInto_58 hl (k := 1) rfl (by rw [ex_15]; rfl) (by decide) rfl (fun ls hl => ?_)
      refine lv_goto (tgt := 7) hx hb dX2_drawInto_61 (by decide) ?_
      have he9 : x_15 = (nI (i + 1)) := by rw [ex_15]; exact nI_1 i
      rw [he9] at hl
      have hl : lv_has ls 7 [(5, .int (nI (i + 1))), (6, .int (elF (nI ns) b i)), (0, .ref la), (1, .ref tm), (2, .int lf), (3, .int rt), (4, .int b)] := hl
      exact ih9 (i + 1) H locs ls (by omega) ⟨hik, hP.sub [1, 2, 3, 4, 0, 5, 6] rfl, hD.sub [1, 2, 3, 4, 0, 5, 6] (by decide) rfl, hS, lv_sub hl [0, 2, 3, 4, 5, 6] rfl⟩
    · have hc9 := c_7
      refine lv_aload_n hx hb dX2_drawInto_21 rfl (lv_at hl 1 rfl) ?_
      have ct := k_cut_of (wc := [(la, .inr (2, [.ref ld, .ref lz])), (lz, .inr (4, [.ref lzA, .int (nI ns)]))]) (wr := [(ld, .inr (4, [.ref ldA, .int (nI nd)])), (ldA, .inl (K, 9, .inl df)), (lzA, .inl (K, 41, .inl zf)), (tm, .inr (4, [.ref tmA, .int (nI i)])), (tmA, .inl (K, 41, .inl (cpy (drwF nd df ns zf lf rt b) tf i)))]) (tc := []) hG hS hA hK hP hD [5, 6] [0, 1, 2, 3, 4] [] rfl rfl (by decide) (by decide) (by decide) rfl
      refine k_endi (As := [.ref la]) ct (k_runV (As := []) (rest := []) S0 Lv_X2_38 rfl (ci := 2) (q0 := 0) rfl rfl ct (c_Label_size l D la ld lz lzA ns H.size) hl.1 rfl (Nat.le_of_ble_eq_true rfl) rfl dX2_drawInto_22 ⟨⟨Nat.le_of_ble_eq_true rfl, Nat.le_of_ble_eq_true rfl⟩, Nat.le_of_ble_eq_true rfl, Nat.le_of_ble_eq_true rfl⟩) rfl rfl (fun r_16 _ H locs hw_17 hP hD hK hS => ?_)
      have hK : va_K D vwCl [(K, .int)] s := hK
      have hP : va_P D vwCl [(ld, .inr (4, [.ref ldA, .int (nI nd)])), (ldA, .inl (K, 9, .inl df)), (lzA, .inl (K, 41, .inl zf)), (tm, .inr (4, [.ref tmA, .int (nI i)])), (tmA, .inl (K, 41, .inl (cpy (drwF nd df ns zf lf rt b) tf i))), (la, .inr (2, [.ref ld, .ref lz])), (lz, .inr (4, [.ref lzA, .int (nI ns)]))] H := hP
      have hD : va_D A [(ld, .inr (4, [.ref ldA, .int (nI nd)])), (ldA, .inl (K, 9, .inl df)), (lzA, .inl (K, 41, .inl zf)), (tm, .inr (4, [.ref tmA, .int (nI i)])), (tmA, .inl (K, 41, .inl (cpy (drwF nd df ns zf lf rt b) tf i))), (la, .inr (2, [.ref ld, .ref lz])), (lz, .inr (4, [.ref lzA, .int (nI ns)]))] := hD
      have hw_17 : r_16 = (nI ns) := hw_17
      have hw_17 := hw_17.symm
      subst hw_17
      refine k_nrm (y := (nI ns)) rfl ?_
      refine lv_iconst (v := 1) hx hb dX2_drawInto_25 (by decide) ?_
      refine lv_isub hx hb dX2_drawInto_26 ?_
      refine k_nrm (y := (nI ns - 1)) (rfl) ?_
      refine lv_iload hx hb dX2_drawInto_27 (lv_at hl 0 rfl) ?_
      refine lv_isub hx hb dX2_drawInto_29 ?_
      refine k_nrm (y := (nI ns - 1 - nI i)) (rfl) ?_
      refine lv_goto (tgt := 35) hx hb dX2_drawInto_30 (by decide) ?_
      refine lv_istore (lv' := [(6, .int (nI ns - 1 - nI i)), (5, .int (nI i)), (0, .ref la), (1, .ref tm), (2, .int lf), (3, .int rt), (4, .int b)]) hx hb dX2_drawInto_35 hl (by decide) rfl (fun ls hl => ?_)
      have he6 : (nI ns - 1 - nI i) = elF (nI ns) b i := by unfold elF; rw [if_neg c_7]
      have hl : lv_has ls 7 [(6, .int (elF (nI ns) b i)), (5, .int (nI i)), (0, .ref la), (1, .ref tm), (2, .int lf), (3, .int rt), (4, .int b)] := by rw [← he6]; exact hl
      refine lv_aload_n hx hb dX2_drawInto_37 rfl (lv_at hl 3 rfl) ?_
      refine lv_aload_n hx hb dX2_drawInto_38 rfl (lv_at hl 2 rfl) ?_
      refine lv_iload hx hb dX2_drawInto_39 (lv_at hl 0 rfl) ?_
      refine lv_aload_n hx hb dX2_drawInto_41 rfl (lv_at hl 2 rfl) ?_
      refine va_get (D := D) (ci := 2) (v := .ref lz) (C := RX2) (T := TX2) (N := 2) hx hb ht inA_X2 hown hK hP 5 rfl rfl 1 (by decide) (ht _ lf_X2_20) (fun _ h9 => h9) rfl dX2_drawInto_42 ?_
      refine lv_iload hx hb dX2_drawInto_45 (lv_at hl 0 rfl) ?_
      have ct := k_cut_of (wc := [(lz, .inr (4, [.ref lzA, .int (nI ns)])), (lzA, .inl (K, 41, .inl zf))]) (wr := [(ld, .inr (4, [.ref ldA, .int (nI nd)])), (ldA, .inl (K, 9, .inl df)), (tm, .inr (4, [.ref tmA, .int (nI i)])), (tmA, .inl (K, 41, .inl (cpy (drwF nd df ns zf lf rt b) tf i))), (la, .inr (2, [.ref ld, .ref lz]))]) (tc := [(K, .int)]) hG hS hA hK hP hD [6, 2] [0, 1, 3, 4, 5] [0] rfl rfl (by decide) (by decide) (by decide) rfl
      refine k_endi (As := [.ref lz, .int (elF (nI ns) b i)]) ct (k_runV (As := [.int (elF (nI ns) b i)]) (rest := [.int (elF (nI ns) b i), .ref la, .ref tm]) S0 Lv_X2_39 rfl (ci := 4) (q0 := 0) rfl rfl ct (c_Row_at l D lz lzA (nI ns) K 41 zf (elF (nI ns) b i) (by first | assumption | decide) H.size) hl.1 rfl (Nat.le_of_ble_eq_true rfl) rfl dX2_drawInto_47 ⟨⟨Nat.le_of_ble_eq_true rfl, Nat.le_of_ble_eq_true rfl⟩, Nat.le_of_ble_eq_true rfl, Nat.le_of_ble_eq_true rfl⟩) rfl rfl (fun r_18 _ H locs hw_19 hP hD hK hS => ?_)
      have hK : va_K D vwCl [(K, .int)] s := hK
      have hP : va_P D vwCl [(ld, .inr (4, [.ref ldA, .int (nI nd)])), (ldA, .inl (K, 9, .inl df)), (tm, .inr (4, [.ref tmA, .int (nI i)])), (tmA, .inl (K, 41, .inl (cpy (drwF nd df ns zf lf rt b) tf i))), (la, .inr (2, [.ref ld, .ref lz])), (lz, .inr (4, [.ref lzA, .int (nI ns)])), (lzA, .inl (K, 41, .inl zf))] H := hP
      have hD : va_D A [(ld, .inr (4, [.ref ldA, .int (nI nd)])), (ldA, .inl (K, 9, .inl df)), (tm, .inr (4, [.ref tmA, .int (nI i)])), (tmA, .inl (K, 41, .inl (cpy (drwF nd df ns zf lf rt b) tf i))), (la, .inr (2, [.ref ld, .ref lz])), (lz, .inr (4, [.ref lzA, .int (nI ns)])), (lzA, .inl (K, 41, .inl zf))] := hD
      have hw_19 : r_18 = (rowAt 41 (nI ns) zf (elF (nI ns) b i)) := hw_19
      have hw_19 := hw_19.symm
      subst hw_19
      refine k_nrm (y := (rowAt 41 (nI ns) zf (elF (nI ns) b i))) rfl ?_
      refine lv_iload_n hx hb dX2_drawInto_50 rfl (lv_at hl 4 rfl) ?_
      refine lv_iload_n hx hb dX2_drawInto_51 rfl (lv_at hl 5 rfl) ?_
      have ct := k_cut_of (wc := [(la, .inr (2, [.ref ld, .ref lz])), (ld, .inr (4, [.ref ldA, .int (nI nd)])), (ldA, .inl (K, 9, .inl df)), (lz, .inr (4, [.ref lzA, .int (nI ns)]))]) (wr := [(tm, .inr (4, [.ref tmA, .int (nI i)])), (tmA, .inl (K, 41, .inl (cpy (drwF nd df ns zf lf rt b) tf i))), (lzA, .inl (K, 41, .inl zf))]) (tc := [(K, .int)]) hG hS hA hK hP hD [4, 0, 1, 5] [2, 3, 6] [0] rfl rfl (by decide) (by decide) (by decide) rfl
      refine k_endi (As := [.ref la, .int (elF (nI ns) b i), .int (rowAt 41 (nI ns) zf (elF (nI ns) b i)), .int lf, .int rt]) ct (k_runV (As := [.int (elF (nI ns) b i), .int (rowAt 41 (nI ns) zf (elF (nI ns) b i)), .int lf, .int rt]) (rest := [.ref tm]) S0 Lv_X2_59 rfl (ci := 2) (q0 := 0) rfl rfl ct (c_timeOf l D la ld lz ldA nd K df lzA ns (elF (nI ns) b i) (rowAt 41 (nI ns) zf (elF (nI ns) b i)) lf rt (by first | assumption | omega) H.size) hl.1 rfl (Nat.le_of_ble_eq_true rfl) rfl dX2_drawInto_52 ⟨⟨Nat.le_of_ble_eq_true rfl, Nat.le_of_ble_eq_true rfl⟩, Nat.le_of_ble_eq_true rfl, Nat.le_of_ble_eq_true rfl⟩) rfl rfl (fun r_20 _ H locs hw_21 hP hD hK hS => ?_)
      have hK : va_K D vwCl [(K, .int)] s := hK
      have hP : va_P D vwCl [(tm, .inr (4, [.ref tmA, .int (nI i)])), (tmA, .inl (K, 41, .inl (cpy (drwF nd df ns zf lf rt b) tf i))), (lzA, .inl (K, 41, .inl zf)), (la, .inr (2, [.ref ld, .ref lz])), (ld, .inr (4, [.ref ldA, .int (nI nd)])), (ldA, .inl (K, 9, .inl df)), (lz, .inr (4, [.ref lzA, .int (nI ns)]))] H := hP
      have hD : va_D A [(tm, .inr (4, [.ref tmA, .int (nI i)])), (tmA, .inl (K, 41, .inl (cpy (drwF nd df ns zf lf rt b) tf i))), (lzA, .inl (K, 41, .inl zf)), (la, .inr (2, [.ref ld, .ref lz])), (ld, .inr (4, [.ref ldA, .int (nI nd)])), (ldA, .inl (K, 9, .inl df)), (lz, .inr (4, [.ref lzA, .int (nI ns)]))] := hD
      have hw_21 : r_20 = (timF nd df (nI ns) (elF (nI ns) b i) (rowAt 41 (nI ns) zf (elF (nI ns) b i)) lf rt) := hw_21
      have hw_21 := hw_21.symm
      subst hw_21
      refine k_nrm (y := (timF nd df (nI ns) (elF (nI ns) b i) (rowAt 41 (nI ns) zf (elF (nI ns) b i)) lf rt)) rfl ?_
      have ct := k_cut_of (wc := [(tm, .inr (4, [.ref tmA, .int (nI i)])), (tmA, .inl (K, 41, .inl (cpy (drwF nd df ns zf lf rt b) tf i)))]) (wr := [(lzA, .inl (K, 41, .inl zf)), (la, .inr (2, [.ref ld, .ref lz])), (ld, .inr (4, [.ref ldA, .int (nI nd)])), (ldA, .inl (K, 9, .inl df)), (lz, .inr (4, [.ref lzA, .int (nI ns)]))]) (tc := [(K, .int)]) hG hS hA hK hP hD [0, 1] [2, 3, 4, 5, 6] [0] rfl rfl (by decide) (by decide) (by decide) rfl
      refine k_endv (As := [.ref tm, .int (timF nd df (nI ns) (elF (nI ns) b i) (rowAt 41 (nI ns) zf (elF (nI ns) b i)) lf rt)]) ct (k_runV (As := [.int (timF nd df (nI ns) (elF (nI ns) b i) (rowAt 41 (nI ns) zf (elF (nI ns) b i)) lf rt)]) (rest := []) S0 Lv_X2_63 rfl (ci := 4) (q0 := 0) rfl rfl ct (c_Row_add l D tm tmA i K 41 (cpy (drwF nd df ns zf lf rt b) tf i) (timF nd df (nI ns) (elF (nI ns) b i) (rowAt 41 (nI ns) zf (elF (nI ns) b i)) lf rt) (by first | assumption | decide) (by omega) H.size) hl.1 rfl (Nat.le_of_ble_eq_true rfl) rfl dX2_drawInto_55 ⟨⟨Nat.le_of_ble_eq_true rfl, Nat.le_of_ble_eq_true rfl⟩, Nat.le_of_ble_eq_true rfl, Nat.le_of_ble_eq_true rfl⟩) rfl rfl (fun _ _ H locs hw_23 hP hD hK hS => ?_)
      have hK : va_K D vwCl [(K, .int)] s := hK
      have hP : va_P D vwCl [(lzA, .inl (K, 41, .inl zf)), (la, .inr (2, [.ref ld, .ref lz])), (ld, .inr (4, [.ref ldA, .int (nI nd)])), (ldA, .inl (K, 9, .inl df)), (lz, .inr (4, [.ref lzA, .int (nI ns)])), (tm, .inr (4, [.ref tmA, .int (nI (i + 1))])), (tmA, .inl (K, 41, .inl (upd (cpy (drwF nd df ns zf lf rt b) tf i) i (timF nd df (nI ns) (elF (nI ns) b i) (rowAt 41 (nI ns) zf (elF (nI ns) b i)) lf rt))))] H := hP
      have hD : va_D A [(lzA, .inl (K, 41, .inl zf)), (la, .inr (2, [.ref ld, .ref lz])), (ld, .inr (4, [.ref ldA, .int (nI nd)])), (ldA, .inl (K, 9, .inl df)), (lz, .inr (4, [.ref lzA, .int (nI ns)])), (tm, .inr (4, [.ref tmA, .int (nI (i + 1))])), (tmA, .inl (K, 41, .inl (upd (cpy (drwF nd df ns zf lf rt b) tf i) i (timF nd df (nI ns) (elF (nI ns) b i) (rowAt 41 (nI ns) zf (elF (nI ns) b i)) lf rt))))] := hD
      have hf_24 : ((upd (cpy (drwF nd df ns zf lf rt b) tf i) i (timF nd df (nI ns) (elF (nI ns) b i) (rowAt 41 (nI ns) zf (elF (nI ns) b i)) lf rt)) : Nat → Int32) = (cpy (drwF nd df ns zf lf rt b) tf (i + 1)) := cpy_s (drwF nd df ns zf lf rt b) tf i
      have hP : va_P D vwCl [(lzA, .inl (K, 41, .inl zf)), (la, .inr (2, [.ref ld, .ref lz])), (ld, .inr (4, [.ref ldA, .int (nI nd)])), (ldA, .inl (K, 9, .inl df)), (lz, .inr (4, [.ref lzA, .int (nI ns)])), (tm, .inr (4, [.ref tmA, .int (nI (i + 1))])), (tmA, .inl (K, 41, .inl (cpy (drwF nd df ns zf lf rt b) tf (i + 1))))] H := (congrArg (fun z9 : Nat → Int32 => va_P D vwCl [(lzA, .inl (K, 41, .inl zf)), (la, .inr (2, [.ref ld, .ref lz])), (ld, .inr (4, [.ref ldA, .int (nI nd)])), (ldA, .inl (K, 9, .inl df)), (lz, .inr (4, [.ref lzA, .int (nI ns)])), (tm, .inr (4, [.ref tmA, .int (nI (i + 1))])), (tmA, .inl (K, 41, .inl z9))] H) hf_24).mp hP
      have hD : va_D A [(lzA, .inl (K, 41, .inl zf)), (la, .inr (2, [.ref ld, .ref lz])), (ld, .inr (4, [.ref ldA, .int (nI nd)])), (ldA, .inl (K, 9, .inl df)), (lz, .inr (4, [.ref lzA, .int (nI ns)])), (tm, .inr (4, [.ref tmA, .int (nI (i + 1))])), (tmA, .inl (K, 41, .inl (cpy (drwF nd df ns zf lf rt b) tf (i + 1))))] := (congrArg (fun z9 : Nat → Int32 => va_D A [(lzA, .inl (K, 41, .inl zf)), (la, .inr (2, [.ref ld, .ref lz])), (ld, .inr (4, [.ref ldA, .int (nI nd)])), (ldA, .inl (K, 9, .inl df)), (lz, .inr (4, [.ref lzA, .int (nI ns)])), (tm, .inr (4, [.ref tmA, .int (nI (i + 1))])), (tmA, .inl (K, 41, .inl z9))]) hf_24).mp hD
      obtain ⟨x_25, ex_25⟩ : ∃ z : Int32, z = (nI i) + 1 := ⟨_, rfl⟩
      refine lv_iinc (v := x_25) (lv' := [(5, .int x_25), (6, .int (elF (nI ns) b i)), (0, .ref la), (1, .ref tm), (2, .int lf), (3, .int rt), (4, .int b)]) hx hb dX2_drawInto_58 hl (k := 1) rfl (by rw [ex_25]; rfl) (by decide) rfl (fun ls hl => ?_)
      refine lv_goto (tgt := 7) hx hb dX2_drawInto_61 (by decide) ?_
      have he9 : x_25 = (nI (i + 1)) := by rw [ex_25]; exact nI_1 i
      rw [he9] at hl
      have hl : lv_has ls 7 [(5, .int (nI (i + 1))), (6, .int (elF (nI ns) b i)), (0, .ref la), (1, .ref tm), (2, .int lf), (3, .int rt), (4, .int b)] := hl
      exact ih9 (i + 1) H locs ls (by omega) ⟨hik, hP.sub [1, 2, 3, 4, 0, 5, 6] rfl, hD.sub [1, 2, 3, 4, 0, 5, 6] (by decide) rfl, hS, lv_sub hl [0, 2, 3, 4, 5, 6] rfl⟩
set_option maxHeartbeats 4000000 in
set_option maxRecDepth 100000 in
theorem c_Label_copy (l : Launch) (D : va_G) (la : Nat) (ld : Nat) (lz : Nat) (ldA : Nat) (ldN : Int32) (K : ClassId) (df : Nat → Int32) (lzA : Nat) (lzN : Int32) (zf : Nat → Int32) (qa : Nat) (qd : Nat) (qz : Nat) (qdA : Nat) (nd : Nat) (df2 : Nat → Int32) (qzA : Nat) (ns : Nat) (zf2 : Nat → Int32) (hnd : nd ≤ 9) (hns : ns ≤ 41) (sz : Nat) : k_Mv (S := Unit) l D yX2_copyFrom cX2_copyFrom 2 none 2 0 0 43 [.ref la, .ref qa] [(la, .inr (2, [.ref ld, .ref lz])), (ld, .inr (4, [.ref ldA, .int ldN])), (ldA, .inl (K, 9, .inl df)), (lz, .inr (4, [.ref lzA, .int lzN])), (lzA, .inl (K, 41, .inl zf)), (qa, .inr (2, [.ref qd, .ref qz])), (qd, .inr (4, [.ref qdA, .int (nI nd)])), (qdA, .inl (K, 9, .inl df2)), (qz, .inr (4, [.ref qzA, .int (nI ns)])), (qzA, .inl (K, 41, .inl zf2))] [(K, .int)] (fun (_ : Unit) => True) (fun _ => [(la, .inr (2, [.ref ld, .ref lz])), (ld, .inr (4, [.ref ldA, .int (nI nd)])), (ldA, .inl (K, 9, .inl (cpy df2 df nd))), (lz, .inr (4, [.ref lzA, .int (nI ns)])), (lzA, .inl (K, 41, .inl (cpy zf2 zf ns))), (qa, .inr (2, [.ref qd, .ref qz])), (qd, .inr (4, [.ref qdA, .int (nI nd)])), (qdA, .inl (K, 9, .inl df2)), (qz, .inr (4, [.ref qzA, .int (nI ns)])), (qzA, .inl (K, 41, .inl zf2))]) (fun _ => []) sz := by
  refine Met.ofW (cc := cX2_copyFrom) (maxL := 2) (ret := none) (by decide) rfl ?_
  intro p e s m args below meth c s₁ B hml hv
  obtain ⟨rfl, hsz, hP, hK, hD0, hG⟩ := hv
  have hx := B.exec
  have hb := B.bytes
  have hr := B.returns
  have ht : ∀ v9 ∈ wsA, v9.before ([.ref la, .ref qa] : List Value).toArray s = true := fun v9 h9 => atoms_spec (ws := k_ws yX2_copyFrom cX2_copyFrom 2 none) B.pre v9 (List.mem_cons_of_mem _ h9)
  have hown : s.vm.findClass RX2 = some m.cls := findClass_of_methodNamed B.named
  have S0 : k_C p s m ([.ref la, .ref qa] : List Value).toArray c cX2_copyFrom 2 RX2 := ⟨hx, hb, hml, hown, ht⟩
  have hlocks := B.notSynchronized
  subst hsz
  have hD := hD0.self (sz := s.heap.size)
  generalize hAe : va_A [(la, .inr (2, [.ref ld, .ref lz])), (ld, .inr (4, [.ref ldA, .int ldN])), (ldA, .inl (K, 9, .inl df)), (lz, .inr (4, [.ref lzA, .int lzN])), (lzA, .inl (K, 41, .inl zf)), (qa, .inr (2, [.ref qd, .ref qz])), (qd, .inr (4, [.ref qdA, .int (nI nd)])), (qdA, .inl (K, 9, .inl df2)), (qz, .inr (4, [.ref qzA, .int (nI ns)])), (qzA, .inl (K, 41, .inl zf2))] s.heap.size = A at hD hG ⊢
  have hA : ∀ q : Nat, s.heap.size ≤ q → A q := fun q h => by rw [← hAe]; exact Or.inr h
  have hS : va_S A s.heap s.heap [] := va_S.rf
  have hl := lv_entry ([.ref la, .ref qa]) (n := 2) (Nat.le_of_ble_eq_true rfl)
  rw [lg_entry_eq]
  generalize (lg_sl ([.ref la, .ref qa]) ++ List.replicate (2 - (lg_sl ([.ref la, .ref qa])).length) Slot.unset).toArray = ls at hl ⊢
  have hl : lv_has ls 2 [(0, .ref la), (1, .ref qa)] := hl
  have hP : va_P D vwCl [(la, .inr (2, [.ref ld, .ref lz])), (ld, .inr (4, [.ref ldA, .int ldN])), (ldA, .inl (K, 9, .inl df)), (lz, .inr (4, [.ref lzA, .int lzN])), (lzA, .inl (K, 41, .inl zf)), (qa, .inr (2, [.ref qd, .ref qz])), (qd, .inr (4, [.ref qdA, .int (nI nd)])), (qdA, .inl (K, 9, .inl df2)), (qz, .inr (4, [.ref qzA, .int (nI ns)])), (qzA, .inl (K, 41, .inl zf2))] s.heap := hP
  refine lv_aload_n hx hb dX2_copyFrom_0 rfl (lv_at hl 0 rfl) ?_
  refine va_get (D := D) (ci := 2) (v := .ref ld) (C := RX2) (T := TX2) (N := 2) hx hb ht inA_X2 hown hK hP 0 rfl rfl 0 (by decide) (ht _ lf_X2_14) (fun _ h9 => h9) rfl dX2_copyFrom_1 ?_
  refine lv_aload_n hx hb dX2_copyFrom_4 rfl (lv_at hl 1 rfl) ?_
  refine va_get (D := D) (ci := 2) (v := .ref qd) (C := RX2) (T := TX2) (N := 2) hx hb ht inA_X2 hown hK hP 5 rfl rfl 0 (by decide) (ht _ lf_X2_14) (fun _ h9 => h9) rfl dX2_copyFrom_5 ?_
  have ct := k_cut_of (wc := [(ld, .inr (4, [.ref ldA, .int ldN])), (ldA, .inl (K, 9, .inl df)), (qd, .inr (4, [.ref qdA, .int (nI nd)])), (qdA, .inl (K, 9, .inl df2))]) (wr := [(la, .inr (2, [.ref ld, .ref lz])), (lz, .inr (4, [.ref lzA, .int lzN])), (lzA, .inl (K, 41, .inl zf)), (qa, .inr (2, [.ref qd, .ref qz])), (qz, .inr (4, [.ref qzA, .int (nI ns)])), (qzA, .inl (K, 41, .inl zf2))]) (tc := [(K, .int)]) hG hS hA hK hP hD [1, 2, 6, 7] [0, 3, 4, 5, 8, 9] [0] rfl rfl (by decide) (by decide) (by decide) rfl
  refine k_endv (As := [.ref ld, .ref qd]) ct (k_runV (As := [.ref qd]) (rest := []) S0 Lv_X2_66 rfl (ci := 4) (q0 := 0) rfl rfl ct (c_Row_copyFrom l D ld ldA ldN K 9 df qd qdA nd 9 df2 (by first | assumption | decide) (by first | assumption | decide) (by omega) (by omega) s.heap.size) hl.1 rfl (Nat.le_of_ble_eq_true rfl) rfl dX2_copyFrom_8 ⟨⟨Nat.le_of_ble_eq_true rfl, Nat.le_of_ble_eq_true rfl⟩, Nat.le_of_ble_eq_true rfl, Nat.le_of_ble_eq_true rfl⟩) rfl rfl (fun _ _ H locs hw_2 hP hD hK hS => ?_)
  have hK : va_K D vwCl [(K, .int)] s := hK
  have hP : va_P D vwCl [(la, .inr (2, [.ref ld, .ref lz])), (lz, .inr (4, [.ref lzA, .int lzN])), (lzA, .inl (K, 41, .inl zf)), (qa, .inr (2, [.ref qd, .ref qz])), (qz, .inr (4, [.ref qzA, .int (nI ns)])), (qzA, .inl (K, 41, .inl zf2)), (ld, .inr (4, [.ref ldA, .int (nI nd)])), (ldA, .inl (K, 9, .inl (cpy df2 df nd))), (qd, .inr (4, [.ref qdA, .int (nI nd)])), (qdA, .inl (K, 9, .inl df2))] H := hP
  have hD : va_D A [(la, .inr (2, [.ref ld, .ref lz])), (lz, .inr (4, [.ref lzA, .int lzN])), (lzA, .inl (K, 41, .inl zf)), (qa, .inr (2, [.ref qd, .ref qz])), (qz, .inr (4, [.ref qzA, .int (nI ns)])), (qzA, .inl (K, 41, .inl zf2)), (ld, .inr (4, [.ref ldA, .int (nI nd)])), (ldA, .inl (K, 9, .inl (cpy df2 df nd))), (qd, .inr (4, [.ref qdA, .int (nI nd)])), (qdA, .inl (K, 9, .inl df2))] := hD
  refine lv_aload_n hx hb dX2_copyFrom_11 rfl (lv_at hl 0 rfl) ?_
  refine va_get (D := D) (ci := 2) (v := .ref lz) (C := RX2) (T := TX2) (N := 2) hx hb ht inA_X2 hown hK hP 0 rfl rfl 1 (by decide) (ht _ lf_X2_20) (fun _ h9 => h9) rfl dX2_copyFrom_12 ?_
  refine lv_aload_n hx hb dX2_copyFrom_15 rfl (lv_at hl 1 rfl) ?_
  refine va_get (D := D) (ci := 2) (v := .ref qz) (C := RX2) (T := TX2) (N := 2) hx hb ht inA_X2 hown hK hP 3 rfl rfl 1 (by decide) (ht _ lf_X2_20) (fun _ h9 => h9) rfl dX2_copyFrom_16 ?_
  have ct := k_cut_of (wc := [(lz, .inr (4, [.ref lzA, .int lzN])), (lzA, .inl (K, 41, .inl zf)), (qz, .inr (4, [.ref qzA, .int (nI ns)])), (qzA, .inl (K, 41, .inl zf2))]) (wr := [(la, .inr (2, [.ref ld, .ref lz])), (qa, .inr (2, [.ref qd, .ref qz])), (ld, .inr (4, [.ref ldA, .int (nI nd)])), (ldA, .inl (K, 9, .inl (cpy df2 df nd))), (qd, .inr (4, [.ref qdA, .int (nI nd)])), (qdA, .inl (K, 9, .inl df2))]) (tc := [(K, .int)]) hG hS hA hK hP hD [1, 2, 4, 5] [0, 3, 6, 7, 8, 9] [0] rfl rfl (by decide) (by decide) (by decide) rfl
  refine k_endv (As := [.ref lz, .ref qz]) ct (k_runV (As := [.ref qz]) (rest := []) S0 Lv_X2_66 rfl (ci := 4) (q0 := 0) rfl rfl ct (c_Row_copyFrom l D lz lzA lzN K 41 zf qz qzA ns 41 zf2 (by first | assumption | decide) (by first | assumption | decide) (by omega) (by omega) H.size) hl.1 rfl (Nat.le_of_ble_eq_true rfl) rfl dX2_copyFrom_19 ⟨⟨Nat.le_of_ble_eq_true rfl, Nat.le_of_ble_eq_true rfl⟩, Nat.le_of_ble_eq_true rfl, Nat.le_of_ble_eq_true rfl⟩) rfl rfl (fun _ _ H locs hw_4 hP hD hK hS => ?_)
  have hK : va_K D vwCl [(K, .int)] s := hK
  have hP : va_P D vwCl [(la, .inr (2, [.ref ld, .ref lz])), (qa, .inr (2, [.ref qd, .ref qz])), (ld, .inr (4, [.ref ldA, .int (nI nd)])), (ldA, .inl (K, 9, .inl (cpy df2 df nd))), (qd, .inr (4, [.ref qdA, .int (nI nd)])), (qdA, .inl (K, 9, .inl df2)), (lz, .inr (4, [.ref lzA, .int (nI ns)])), (lzA, .inl (K, 41, .inl (cpy zf2 zf ns))), (qz, .inr (4, [.ref qzA, .int (nI ns)])), (qzA, .inl (K, 41, .inl zf2))] H := hP
  have hD : va_D A [(la, .inr (2, [.ref ld, .ref lz])), (qa, .inr (2, [.ref qd, .ref qz])), (ld, .inr (4, [.ref ldA, .int (nI nd)])), (ldA, .inl (K, 9, .inl (cpy df2 df nd))), (qd, .inr (4, [.ref qdA, .int (nI nd)])), (qdA, .inl (K, 9, .inl df2)), (lz, .inr (4, [.ref lzA, .int (nI ns)])), (lzA, .inl (K, 41, .inl (cpy zf2 zf ns))), (qz, .inr (4, [.ref qzA, .int (nI ns)])), (qzA, .inl (K, 41, .inl zf2))] := hD
  have hP9 : va_P D vwCl [(la, .inr (2, [.ref ld, .ref lz])), (ld, .inr (4, [.ref ldA, .int (nI nd)])), (ldA, .inl (K, 9, .inl (cpy df2 df nd))), (lz, .inr (4, [.ref lzA, .int (nI ns)])), (lzA, .inl (K, 41, .inl (cpy zf2 zf ns))), (qa, .inr (2, [.ref qd, .ref qz])), (qd, .inr (4, [.ref qdA, .int (nI nd)])), (qdA, .inl (K, 9, .inl df2)), (qz, .inr (4, [.ref qzA, .int (nI ns)])), (qzA, .inl (K, 41, .inl zf2))] H := hP.sub [0, 2, 3, 6, 7, 1, 4, 5, 8, 9] rfl
  have hD9 : va_D A [(la, .inr (2, [.ref ld, .ref lz])), (ld, .inr (4, [.ref ldA, .int (nI nd)])), (ldA, .inl (K, 9, .inl (cpy df2 df nd))), (lz, .inr (4, [.ref lzA, .int (nI ns)])), (lzA, .inl (K, 41, .inl (cpy zf2 zf ns))), (qa, .inr (2, [.ref qd, .ref qz])), (qd, .inr (4, [.ref qdA, .int (nI nd)])), (qdA, .inl (K, 9, .inl df2)), (qz, .inr (4, [.ref qzA, .int (nI ns)])), (qzA, .inl (K, 41, .inl zf2))] := hD.sub [0, 2, 3, 6, 7, 1, 4, 5, 8, 9] (by decide) rfl
  have hK9 : va_K D vwCl [] s := hK.sub [] rfl
  exact W.vret hx hb hr (fun t ht9 hW9 => ⟨⟨(), rfl, by first | rfl | trivial | (simp only [if_true, if_false, reduceIte, and_self]; done) | simp_all, ⟨by rw [ht9]; exact hP9, va_K.moved hW9.alike hK9, hD9⟩⟩, hS.F ht9⟩) hS.2.2 dX2_copyFrom_22
