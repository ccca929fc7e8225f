theorem lf_X3_14 : Cond.fieldLink RX3 14 "BarcodeWand$Reader" "digits" "LBarcodeWand$Row;" ∈ wsA := mA 138 rfl rfl
theorem Lv_X3_97 : k_LV RX3 97 yX4_clear cX4_clear 1 none 0 := ⟨mA 297 rfl rfl, lm_X4_clear, le_X4_clear, li_BarcodeWand_Row, lk_X4_clear, ly_X4_clear⟩
theorem lf_X3_20 : Cond.fieldLink RX3 20 "BarcodeWand$Reader" "line" "LBarcodeWand$Row;" ∈ wsA := mA 142 rfl rfl
theorem Lv_X3_37 : k_LV RX3 37 yX4_size cX4_size 1 (some .int) 0 := ⟨mA 298 rfl rfl, lm_X4_size, le_X4_size, li_BarcodeWand_Row, lk_X4_size, ly_X4_size⟩
theorem Lv_X3_71 : k_LV RX3 71 yX4_add cX4_add 2 none 1 := ⟨mA 300 rfl rfl, lm_X4_add, le_X4_add, li_BarcodeWand_Row, lk_X4_add, ly_X4_add⟩
set_option maxRecDepth 20000 in
theorem lM_X3_27 : Cond.methodLink RX3 27 Lib.Math.max.name ∈ wsA := mA 312 rfl rfl
set_option maxRecDepth 20000 in
theorem lM_X3_100 : Cond.methodLink RX3 100 Lib.Math.min.name ∈ wsA := mA 313 rfl rfl
theorem lM_st_min : Cond.static Lib.Math.min.name ∈ wsA := mA 273 rfl rfl
theorem lM_code_min : Cond.code Lib.Math.min.name Lib.Math.min.code 2 (some .int) ∈ wsA := mA 274 rfl rfl
theorem dX3_layOut_0 : decode cX3_layOut 0 = .ok (.aload_n 0, 1) := by decide +kernel
theorem dX3_layOut_1 : decode cX3_layOut 1 = .ok (.getfield 14, 3) := by decide +kernel
theorem dX3_layOut_4 : decode cX3_layOut 4 = .ok (.invokevirtual 97, 3) := by decide +kernel
theorem dX3_layOut_7 : decode cX3_layOut 7 = .ok (.aload_n 0, 1) := by decide +kernel
theorem dX3_layOut_8 : decode cX3_layOut 8 = .ok (.getfield 20, 3) := by decide +kernel
theorem dX3_layOut_11 : decode cX3_layOut 11 = .ok (.invokevirtual 97, 3) := by decide +kernel
theorem dX3_layOut_14 : decode cX3_layOut 14 = .ok (.iconst 0, 1) := by decide +kernel
theorem dX3_layOut_15 : decode cX3_layOut 15 = .ok (.istore_n 3, 1) := by decide +kernel
theorem dX3_layOut_16 : decode cX3_layOut 16 = .ok (.iload_n 3, 1) := by decide +kernel
theorem dX3_layOut_17 : decode cX3_layOut 17 = .ok (.aload_n 1, 1) := by decide +kernel
theorem dX3_layOut_18 : decode cX3_layOut 18 = .ok (.invokevirtual 37, 3) := by decide +kernel
theorem dX3_layOut_21 : decode cX3_layOut 21 = .ok (.if_icmp .ge 36, 3) := by decide +kernel
theorem dX3_layOut_24 : decode cX3_layOut 24 = .ok (.aload_n 0, 1) := by decide +kernel
theorem dX3_layOut_25 : decode cX3_layOut 25 = .ok (.getfield 20, 3) := by decide +kernel
theorem dX3_layOut_28 : decode cX3_layOut 28 = .ok (.aload_n 1, 1) := by decide +kernel
theorem dX3_layOut_29 : decode cX3_layOut 29 = .ok (.iload_n 2, 1) := by decide +kernel
theorem dX3_layOut_30 : decode cX3_layOut 30 = .ok (.ifCond .eq 14, 3) := by decide +kernel
theorem dX3_layOut_33 : decode cX3_layOut 33 = .ok (.aload_n 1, 1) := by decide +kernel
theorem dX3_layOut_34 : decode cX3_layOut 34 = .ok (.invokevirtual 37, 3) := by decide +kernel
theorem dX3_layOut_37 : decode cX3_layOut 37 = .ok (.iconst 1, 1) := by decide +kernel
theorem dX3_layOut_38 : decode cX3_layOut 38 = .ok (.isub, 1) := by decide +kernel
theorem dX3_layOut_39 : decode cX3_layOut 39 = .ok (.iload_n 3, 1) := by decide +kernel
theorem dX3_layOut_40 : decode cX3_layOut 40 = .ok (.isub, 1) := by decide +kernel
theorem dX3_layOut_41 : decode cX3_layOut 41 = .ok (.goto 4, 3) := by decide +kernel
theorem dX3_layOut_44 : decode cX3_layOut 44 = .ok (.iload_n 3, 1) := by decide +kernel
theorem dX3_layOut_45 : decode cX3_layOut 45 = .ok (.invokevirtual 77, 3) := by decide +kernel
theorem dX3_layOut_48 : decode cX3_layOut 48 = .ok (.invokevirtual 71, 3) := by decide +kernel
theorem dX3_layOut_51 : decode cX3_layOut 51 = .ok (.iinc 3 1, 3) := by decide +kernel
theorem dX3_layOut_54 : decode cX3_layOut 54 = .ok (.goto (-38), 3) := by decide +kernel
theorem dX3_layOut_57 : decode cX3_layOut 57 = .ok (.return_, 1) := by decide +kernel
theorem dX3_digitsOf_0 : decode cX3_digitsOf 0 = .ok (.iload_n 0, 1) := by decide +kernel
theorem dX3_digitsOf_1 : decode cX3_digitsOf 1 = .ok (.iconst 3, 1) := by decide +kernel
theorem dX3_digitsOf_2 : decode cX3_digitsOf 2 = .ok (.isub, 1) := by decide +kernel
theorem dX3_digitsOf_3 : decode cX3_digitsOf 3 = .ok (.iconst 2, 1) := by decide +kernel
theorem dX3_digitsOf_4 : decode cX3_digitsOf 4 = .ok (.isub, 1) := by decide +kernel
theorem dX3_digitsOf_5 : decode cX3_digitsOf 5 = .ok (.istore_n 1, 1) := by decide +kernel
theorem dX3_digitsOf_6 : decode cX3_digitsOf 6 = .ok (.iload_n 1, 1) := by decide +kernel
theorem dX3_digitsOf_7 : decode cX3_digitsOf 7 = .ok (.iconst 4, 1) := by decide +kernel
theorem dX3_digitsOf_8 : decode cX3_digitsOf 8 = .ok (.idiv, 1) := by decide +kernel
theorem dX3_digitsOf_9 : decode cX3_digitsOf 9 = .ok (.istore_n 2, 1) := by decide +kernel
theorem dX3_digitsOf_10 : decode cX3_digitsOf 10 = .ok (.iload_n 1, 1) := by decide +kernel
theorem dX3_digitsOf_11 : decode cX3_digitsOf 11 = .ok (.iconst 4, 1) := by decide +kernel
theorem dX3_digitsOf_12 : decode cX3_digitsOf 12 = .ok (.irem, 1) := by decide +kernel
theorem dX3_digitsOf_13 : decode cX3_digitsOf 13 = .ok (.ifCond .ne 7, 3) := by decide +kernel
theorem dX3_digitsOf_16 : decode cX3_digitsOf 16 = .ok (.iconst 1, 1) := by decide +kernel
theorem dX3_digitsOf_17 : decode cX3_digitsOf 17 = .ok (.goto 4, 3) := by decide +kernel
theorem dX3_digitsOf_20 : decode cX3_digitsOf 20 = .ok (.iconst 0, 1) := by decide +kernel
theorem dX3_digitsOf_21 : decode cX3_digitsOf 21 = .ok (.istore_n 3, 1) := by decide +kernel
theorem dX3_digitsOf_22 : decode cX3_digitsOf 22 = .ok (.iload_n 3, 1) := by decide +kernel
theorem dX3_digitsOf_23 : decode cX3_digitsOf 23 = .ok (.ifCond .eq 18, 3) := by decide +kernel
theorem dX3_digitsOf_26 : decode cX3_digitsOf 26 = .ok (.iload_n 2, 1) := by decide +kernel
theorem dX3_digitsOf_27 : decode cX3_digitsOf 27 = .ok (.iconst 2, 1) := by decide +kernel
theorem dX3_digitsOf_28 : decode cX3_digitsOf 28 = .ok (.if_icmp .lt 13, 3) := by decide +kernel
theorem dX3_digitsOf_31 : decode cX3_digitsOf 31 = .ok (.iload_n 2, 1) := by decide +kernel
theorem dX3_digitsOf_32 : decode cX3_digitsOf 32 = .ok (.bipush 9, 2) := by decide +kernel
theorem dX3_digitsOf_34 : decode cX3_digitsOf 34 = .ok (.if_icmp .gt 7, 3) := by decide +kernel
theorem dX3_digitsOf_37 : decode cX3_digitsOf 37 = .ok (.iload_n 2, 1) := by decide +kernel
theorem dX3_digitsOf_38 : decode cX3_digitsOf 38 = .ok (.goto 4, 3) := by decide +kernel
theorem dX3_digitsOf_41 : decode cX3_digitsOf 41 = .ok (.iconst 0, 1) := by decide +kernel
theorem dX3_digitsOf_42 : decode cX3_digitsOf 42 = .ok (.ireturn, 1) := by decide +kernel
theorem dX3_isLeftGuardRight_0 : decode cX3_isLeftGuardRight 0 = .ok (.aload_n 0, 1) := by decide +kernel
theorem dX3_isLeftGuardRight_1 : decode cX3_isLeftGuardRight 1 = .ok (.getfield 20, 3) := by decide +kernel
theorem dX3_isLeftGuardRight_4 : decode cX3_isLeftGuardRight 4 = .ok (.iconst 0, 1) := by decide +kernel
theorem dX3_isLeftGuardRight_5 : decode cX3_isLeftGuardRight 5 = .ok (.invokevirtual 77, 3) := by decide +kernel
theorem dX3_isLeftGuardRight_8 : decode cX3_isLeftGuardRight 8 = .ok (.aload_n 0, 1) := by decide +kernel
theorem dX3_isLeftGuardRight_9 : decode cX3_isLeftGuardRight 9 = .ok (.getfield 20, 3) := by decide +kernel
theorem dX3_isLeftGuardRight_12 : decode cX3_isLeftGuardRight 12 = .ok (.iconst 1, 1) := by decide +kernel
theorem dX3_isLeftGuardRight_13 : decode cX3_isLeftGuardRight 13 = .ok (.invokevirtual 77, 3) := by decide +kernel
theorem dX3_isLeftGuardRight_16 : decode cX3_isLeftGuardRight 16 = .ok (.aload_n 0, 1) := by decide +kernel
theorem dX3_isLeftGuardRight_17 : decode cX3_isLeftGuardRight 17 = .ok (.getfield 20, 3) := by decide +kernel
theorem dX3_isLeftGuardRight_20 : decode cX3_isLeftGuardRight 20 = .ok (.iconst 2, 1) := by decide +kernel
theorem dX3_isLeftGuardRight_21 : decode cX3_isLeftGuardRight 21 = .ok (.invokevirtual 77, 3) := by decide +kernel
theorem dX3_isLeftGuardRight_24 : decode cX3_isLeftGuardRight 24 = .ok (.invokestatic 27, 3) := by decide +kernel
theorem dX3_isLeftGuardRight_27 : decode cX3_isLeftGuardRight 27 = .ok (.invokestatic 27, 3) := by decide +kernel
theorem dX3_isLeftGuardRight_30 : decode cX3_isLeftGuardRight 30 = .ok (.istore_n 1, 1) := by decide +kernel
theorem dX3_isLeftGuardRight_31 : decode cX3_isLeftGuardRight 31 = .ok (.aload_n 0, 1) := by decide +kernel
theorem dX3_isLeftGuardRight_32 : decode cX3_isLeftGuardRight 32 = .ok (.getfield 20, 3) := by decide +kernel
theorem dX3_isLeftGuardRight_35 : decode cX3_isLeftGuardRight 35 = .ok (.iconst 0, 1) := by decide +kernel
theorem dX3_isLeftGuardRight_36 : decode cX3_isLeftGuardRight 36 = .ok (.invokevirtual 77, 3) := by decide +kernel
theorem dX3_isLeftGuardRight_39 : decode cX3_isLeftGuardRight 39 = .ok (.aload_n 0, 1) := by decide +kernel
theorem dX3_isLeftGuardRight_40 : decode cX3_isLeftGuardRight 40 = .ok (.getfield 20, 3) := by decide +kernel
theorem dX3_isLeftGuardRight_43 : decode cX3_isLeftGuardRight 43 = .ok (.iconst 1, 1) := by decide +kernel
theorem dX3_isLeftGuardRight_44 : decode cX3_isLeftGuardRight 44 = .ok (.invokevirtual 77, 3) := by decide +kernel
theorem dX3_isLeftGuardRight_47 : decode cX3_isLeftGuardRight 47 = .ok (.aload_n 0, 1) := by decide +kernel
theorem dX3_isLeftGuardRight_48 : decode cX3_isLeftGuardRight 48 = .ok (.getfield 20, 3) := by decide +kernel
theorem dX3_isLeftGuardRight_51 : decode cX3_isLeftGuardRight 51 = .ok (.iconst 2, 1) := by decide +kernel
theorem dX3_isLeftGuardRight_52 : decode cX3_isLeftGuardRight 52 = .ok (.invokevirtual 77, 3) := by decide +kernel
theorem dX3_isLeftGuardRight_55 : decode cX3_isLeftGuardRight 55 = .ok (.invokestatic 100, 3) := by decide +kernel
theorem dX3_isLeftGuardRight_58 : decode cX3_isLeftGuardRight 58 = .ok (.invokestatic 100, 3) := by decide +kernel
theorem dX3_isLeftGuardRight_61 : decode cX3_isLeftGuardRight 61 = .ok (.istore_n 2, 1) := by decide +kernel
theorem dX3_isLeftGuardRight_62 : decode cX3_isLeftGuardRight 62 = .ok (.iconst 2, 1) := by decide +kernel
theorem dX3_isLeftGuardRight_63 : decode cX3_isLeftGuardRight 63 = .ok (.iload_n 1, 1) := by decide +kernel
theorem dX3_isLeftGuardRight_64 : decode cX3_isLeftGuardRight 64 = .ok (.imul, 1) := by decide +kernel
theorem dX3_isLeftGuardRight_65 : decode cX3_isLeftGuardRight 65 = .ok (.iconst 3, 1) := by decide +kernel
theorem dX3_isLeftGuardRight_66 : decode cX3_isLeftGuardRight 66 = .ok (.iload_n 2, 1) := by decide +kernel
theorem dX3_isLeftGuardRight_67 : decode cX3_isLeftGuardRight 67 = .ok (.imul, 1) := by decide +kernel
theorem dX3_isLeftGuardRight_68 : decode cX3_isLeftGuardRight 68 = .ok (.if_icmp .ge 7, 3) := by decide +kernel
theorem dX3_isLeftGuardRight_71 : decode cX3_isLeftGuardRight 71 = .ok (.iconst 1, 1) := by decide +kernel
theorem dX3_isLeftGuardRight_72 : decode cX3_isLeftGuardRight 72 = .ok (.goto 4, 3) := by decide +kernel
theorem dX3_isLeftGuardRight_75 : decode cX3_isLeftGuardRight 75 = .ok (.iconst 0, 1) := by decide +kernel
theorem dX3_isLeftGuardRight_76 : decode cX3_isLeftGuardRight 76 = .ok (.ireturn, 1) := by decide +kernel
theorem dX3_isRightGuardRight_0 : decode cX3_isRightGuardRight 0 = .ok (.aload_n 0, 1) := by decide +kernel
theorem dX3_isRightGuardRight_1 : decode cX3_isRightGuardRight 1 = .ok (.getfield 20, 3) := by decide +kernel
theorem dX3_isRightGuardRight_4 : decode cX3_isRightGuardRight 4 = .ok (.aload_n 0, 1) := by decide +kernel
theorem dX3_isRightGuardRight_5 : decode cX3_isRightGuardRight 5 = .ok (.getfield 20, 3) := by decide +kernel
theorem dX3_isRightGuardRight_8 : decode cX3_isRightGuardRight 8 = .ok (.invokevirtual 37, 3) := by decide +kernel
theorem dX3_isRightGuardRight_11 : decode cX3_isRightGuardRight 11 = .ok (.iconst 2, 1) := by decide +kernel
theorem dX3_isRightGuardRight_12 : decode cX3_isRightGuardRight 12 = .ok (.isub, 1) := by decide +kernel
theorem dX3_isRightGuardRight_13 : decode cX3_isRightGuardRight 13 = .ok (.invokevirtual 77, 3) := by decide +kernel
theorem dX3_isRightGuardRight_16 : decode cX3_isRightGuardRight 16 = .ok (.istore_n 1, 1) := by decide +kernel
theorem dX3_isRightGuardRight_17 : decode cX3_isRightGuardRight 17 = .ok (.aload_n 0, 1) := by decide +kernel
theorem dX3_isRightGuardRight_18 : decode cX3_isRightGuardRight 18 = .ok (.getfield 20, 3) := by decide +kernel
theorem dX3_isRightGuardRight_21 : decode cX3_isRightGuardRight 21 = .ok (.aload_n 0, 1) := by decide +kernel
theorem dX3_isRightGuardRight_22 : decode cX3_isRightGuardRight 22 = .ok (.getfield 20, 3) := by decide +kernel
theorem dX3_isRightGuardRight_25 : decode cX3_isRightGuardRight 25 = .ok (.invokevirtual 37, 3) := by decide +kernel
theorem dX3_isRightGuardRight_28 : decode cX3_isRightGuardRight 28 = .ok (.iconst 1, 1) := by decide +kernel
theorem dX3_isRightGuardRight_29 : decode cX3_isRightGuardRight 29 = .ok (.isub, 1) := by decide +kernel
theorem dX3_isRightGuardRight_30 : decode cX3_isRightGuardRight 30 = .ok (.invokevirtual 77, 3) := by decide +kernel
theorem dX3_isRightGuardRight_33 : decode cX3_isRightGuardRight 33 = .ok (.istore_n 2, 1) := by decide +kernel
theorem dX3_isRightGuardRight_34 : decode cX3_isRightGuardRight 34 = .ok (.iconst 2, 1) := by decide +kernel
theorem dX3_isRightGuardRight_35 : decode cX3_isRightGuardRight 35 = .ok (.iload_n 2, 1) := by decide +kernel
theorem dX3_isRightGuardRight_36 : decode cX3_isRightGuardRight 36 = .ok (.imul, 1) := by decide +kernel
theorem dX3_isRightGuardRight_37 : decode cX3_isRightGuardRight 37 = .ok (.iconst 3, 1) := by decide +kernel
theorem dX3_isRightGuardRight_38 : decode cX3_isRightGuardRight 38 = .ok (.iload_n 1, 1) := by decide +kernel
theorem dX3_isRightGuardRight_39 : decode cX3_isRightGuardRight 39 = .ok (.imul, 1) := by decide +kernel
theorem dX3_isRightGuardRight_40 : decode cX3_isRightGuardRight 40 = .ok (.if_icmp .le 14, 3) := by decide +kernel
theorem dX3_isRightGuardRight_43 : decode cX3_isRightGuardRight 43 = .ok (.iload_n 2, 1) := by decide +kernel
theorem dX3_isRightGuardRight_44 : decode cX3_isRightGuardRight 44 = .ok (.iconst 3, 1) := by decide +kernel
theorem dX3_isRightGuardRight_45 : decode cX3_isRightGuardRight 45 = .ok (.iload_n 1, 1) := by decide +kernel
theorem dX3_isRightGuardRight_46 : decode cX3_isRightGuardRight 46 = .ok (.imul, 1) := by decide +kernel
theorem dX3_isRightGuardRight_47 : decode cX3_isRightGuardRight 47 = .ok (.if_icmp .ge 7, 3) := by decide +kernel
theorem dX3_isRightGuardRight_50 : decode cX3_isRightGuardRight 50 = .ok (.iconst 1, 1) := by decide +kernel
theorem dX3_isRightGuardRight_51 : decode cX3_isRightGuardRight 51 = .ok (.goto 4, 3) := by decide +kernel
theorem dX3_isRightGuardRight_54 : decode cX3_isRightGuardRight 54 = .ok (.iconst 0, 1) := by decide +kernel
theorem dX3_isRightGuardRight_55 : decode cX3_isRightGuardRight 55 = .ok (.ireturn, 1) := by decide +kernel
theorem rowAt_can0 {cap n : Nat} {f g : Nat → Int32} {i : Int32} (h : ∀ j, j < n → f j = g j) (hn : n < 2 ^ 31) : rowAt cap (nI n) f i = rowAt cap (nI n) g i := by
  unfold rowAt
  by_cases h0 : i < 0
  · rw [if_pos h0, if_pos h0]
  · rw [if_neg h0, if_neg h0]
    by_cases h1 : nI n ≤ i
    · rw [if_pos h1, if_pos h1]
    · rw [if_neg h1, if_neg h1]
      rcases pk_ix i hn with q | q | ⟨j, hj, rfl⟩
      · exact absurd q h0
      · exact absurd q h1
      · rw [nI_clamp (by omega), h j hj]
theorem rowAt_cpy {cap n : Nat} {f g : Nat → Int32} {i : Int32} (hn : n < 2 ^ 31) : rowAt cap (nI n) (cpy f g n) i = rowAt cap (nI n) f i := rowAt_can0 (fun _ h => cpy_lt h) hn
/-- the j-th time of a reading -/
def lnF (tn : Nat) (tf : Nat → Int32) (b : Int32) (j : Nat) : Int32 := rowAt 41 (nI tn) tf (elF (nI tn) b j)
/-- how many digits so many times may have; 0: none -/
def dgc (k : Nat) : Nat := if 13 ≤ k ∧ k ≤ 41 ∧ k % 4 = 1 then (k - 5) / 4 else 0
def digF (n : Int32) : Int32 := if (n - 3 - 2) - (n - 3 - 2) / 4 * 4 = 0 then (if (n - 3 - 2) / 4 < 2 then 0 else if 9 < (n - 3 - 2) / 4 then 0 else (n - 3 - 2) / 4) else 0
theorem digF_nI : ∀ k, k ≤ 41 → digF (nI k) = nI (dgc k) := by decide +kernel
def mxI (a b : Int32) : Int32 := if a < b then b else a
def mnI (a b : Int32) : Int32 := if b < a then b else a
def lgF (t0 t1 t2 : Int32) : Int32 := if 3 * mnI t0 (mnI t1 t2) ≤ 2 * mxI t0 (mxI t1 t2) then 0 else 1
def rgF (sp ba : Int32) : Int32 := if 2 * ba ≤ 3 * sp then 0 else if 3 * sp ≤ ba then 0 else 1
set_option maxHeartbeats 4000000 in
set_option maxRecDepth 100000 in
theorem c_layOut (l : Launch) (D : va_G) (re : Nat) (rd : Nat) (nd : Int32) (rl : Nat) (ldi : Int32) (sot : Int32) (tie : Int32) (ff : Int32) (ft : Int32) (rdA : Nat) (rn : Int32) (rlA : Nat) (lnn : Int32) (K : ClassId) (rlf : Nat → Int32) (tm : Nat) (tmA : Nat) (tn : Nat) (tf : Nat → Int32) (b : Int32) (htn : tn ≤ 41) (sz : Nat) : k_Mv (S := Unit) l D yX3_layOut cX3_layOut 4 none 1 0 0 21 [.ref re, .ref tm, .int b] [(re, .inr (3, [.ref rd, .int nd, .ref rl, .int ldi, .int sot, .int tie, .int ff, .int ft])), (rd, .inr (4, [.ref rdA, .int rn])), (rl, .inr (4, [.ref rlA, .int lnn])), (rlA, .inl (K, 41, .inl rlf)), (tm, .inr (4, [.ref tmA, .int (nI tn)])), (tmA, .inl (K, 41, .inl tf))] [(K, .int)] (fun (_ : Unit) => True) (fun _ => [(re, .inr (3, [.ref rd, .int nd, .ref rl, .int ldi, .int sot, .int tie, .int ff, .int ft])), (rd, .inr (4, [.ref rdA, .int (nI 0)])), (rl, .inr (4, [.ref rlA, .int (nI tn)])), (rlA, .inl (K, 41, .inl (cpy (lnF tn tf b) rlf tn))), (tm, .inr (4, [.ref tmA, .int (nI tn)])), (tmA, .inl (K, 41, .inl tf))]) (fun _ => []) sz := by
  refine Met.ofW (cc := cX3_layOut) (maxL := 4) (ret := none) (by decide) rfl ?_
  intro p e s m args below meth c s₁ B hml hv
  obtain ⟨rfl, hsz, hP, hK, hD0, hG⟩ := hv
  have hx := B.exec
  have hb := B.bytes
  have hr := B.returns
  have ht : ∀ v9 ∈ wsA, v9.before ([.ref re, .ref tm, .int b] : List Value).toArray s = true := fun v9 h9 => atoms_spec (ws := k_ws yX3_layOut cX3_layOut 4 none) B.pre v9 (List.mem_cons_of_mem _ h9)
  have hown : s.vm.findClass RX3 = some m.cls := findClass_of_methodNamed B.named
  have S0 : k_C p s m ([.ref re, .ref tm, .int b] : List Value).toArray c cX3_layOut 4 RX3 := ⟨hx, hb, hml, hown, ht⟩
  have hlocks := B.notSynchronized
  subst hsz
  have hD := hD0.self (sz := s.heap.size)
  generalize hAe : va_A [(re, .inr (3, [.ref rd, .int nd, .ref rl, .int ldi, .int sot, .int tie, .int ff, .int ft])), (rd, .inr (4, [.ref rdA, .int rn])), (rl, .inr (4, [.ref rlA, .int lnn])), (rlA, .inl (K, 41, .inl rlf)), (tm, .inr (4, [.ref tmA, .int (nI tn)])), (tmA, .inl (K, 41, .inl tf))] s.heap.size = A at hD hG ⊢
  have hA : ∀ q : Nat, s.heap.size ≤ q → A q := fun q h => by rw [← hAe]; exact Or.inr h
  have hS : va_S A s.heap s.heap [] := va_S.rf
  have hl := lv_entry ([.ref re, .ref tm, .int b]) (n := 4) (Nat.le_of_ble_eq_true rfl)
  rw [lg_entry_eq]
  generalize (lg_sl ([.ref re, .ref tm, .int b]) ++ List.replicate (4 - (lg_sl ([.ref re, .ref tm, .int b])).length) Slot.unset).toArray = ls at hl ⊢
  have hl : lv_has ls 4 [(0, .ref re), (1, .ref tm), (2, .int b)] := hl
  have hP : va_P D vwCl [(re, .inr (3, [.ref rd, .int nd, .ref rl, .int ldi, .int sot, .int tie, .int ff, .int ft])), (rd, .inr (4, [.ref rdA, .int rn])), (rl, .inr (4, [.ref rlA, .int lnn])), (rlA, .inl (K, 41, .inl rlf)), (tm, .inr (4, [.ref tmA, .int (nI tn)])), (tmA, .inl (K, 41, .inl tf))] s.heap := hP
  refine lv_aload_n hx hb dX3_layOut_0 rfl (lv_at hl 0 rfl) ?_
  refine va_get (D := D) (ci := 3) (v := .ref rd) (C := RX3) (T := TX3) (N := 8) hx hb ht inA_X3 hown hK hP 0 rfl rfl 0 (by decide) (ht _ lf_X3_14) (fun _ h9 => h9) rfl dX3_layOut_1 ?_
  have ct := k_cut_of (wc := [(rd, .inr (4, [.ref rdA, .int rn]))]) (wr := [(re, .inr (3, [.ref rd, .int nd, .ref rl, .int ldi, .int sot, .int tie, .int ff, .int ft])), (rl, .inr (4, [.ref rlA, .int lnn])), (rlA, .inl (K, 41, .inl rlf)), (tm, .inr (4, [.ref tmA, .int (nI tn)])), (tmA, .inl (K, 41, .inl tf))]) (tc := []) hG hS hA hK hP hD [1] [0, 2, 3, 4, 5] [] rfl rfl (by decide) (by decide) (by decide) rfl
  refine k_endv (As := [.ref rd]) ct (k_runV (As := []) (rest := []) S0 Lv_X3_97 rfl (ci := 4) (q0 := 0) rfl rfl ct (c_Row_clear l D rd rdA rn s.heap.size) hl.1 rfl (Nat.le_of_ble_eq_true rfl) rfl dX3_layOut_4 ⟨⟨Nat.le_of_ble_eq_true rfl, Nat.le_of_ble_eq_true rfl⟩, Nat.le_of_ble_eq_true rfl, Nat.le_of_ble_eq_true rfl⟩) rfl rfl (fun _ _ H locs hw_2 hP hD hK hS => ?_)
  have hK : va_K D vwCl [(K, .int)] s := hK
  have hP : va_P D vwCl [(re, .inr (3, [.ref rd, .int nd, .ref rl, .int ldi, .int sot, .int tie, .int ff, .int ft])), (rl, .inr (4, [.ref rlA, .int lnn])), (rlA, .inl (K, 41, .inl rlf)), (tm, .inr (4, [.ref tmA, .int (nI tn)])), (tmA, .inl (K, 41, .inl tf)), (rd, .inr (4, [.ref rdA, .int (nI 0)]))] H := hP
  have hD : va_D A [(re, .inr (3, [.ref rd, .int nd, .ref rl, .int ldi, .int sot, .int tie, .int ff, .int ft])), (rl, .inr (4, [.ref rlA, .int lnn])), (rlA, .inl (K, 41, .inl rlf)), (tm, .inr (4, [.ref tmA, .int (nI tn)])), (tmA, .inl (K, 41, .inl tf)), (rd, .inr (4, [.ref rdA, .int (nI 0)]))] := hD
  refine lv_aload_n hx hb dX3_layOut_7 rfl (lv_at hl 0 rfl) ?_
  refine va_get (D := D) (ci := 3) (v := .ref rl) (C := RX3) (T := TX3) (N := 8) hx hb ht inA_X3 hown hK hP 0 rfl rfl 2 (by decide) (ht _ lf_X3_20) (fun _ h9 => h9) rfl dX3_layOut_8 ?_
  have ct := k_cut_of (wc := [(rl, .inr (4, [.ref rlA, .int lnn]))]) (wr := [(re, .inr (3, [.ref rd, .int nd, .ref rl, .int ldi, .int sot, .int tie, .int ff, .int ft])), (rlA, .inl (K, 41, .inl rlf)), (tm, .inr (4, [.ref tmA, .int (nI tn)])), (tmA, .inl (K, 41, .inl tf)), (rd, .inr (4, [.ref rdA, .int (nI 0)]))]) (tc := []) hG hS hA hK hP hD [1] [0, 2, 3, 4, 5] [] rfl rfl (by decide) (by decide) (by decide) rfl
  refine k_endv (As := [.ref rl]) ct (k_runV (As := []) (rest := []) S0 Lv_X3_97 rfl (ci := 4) (q0 := 0) rfl rfl ct (c_Row_clear l D rl rlA lnn H.size) hl.1 rfl (Nat.le_of_ble_eq_true rfl) rfl dX3_layOut_11 ⟨⟨Nat.le_of_ble_eq_true rfl, Nat.le_of_ble_eq_true rfl⟩, Nat.le_of_ble_eq_true rfl, Nat.le_of_ble_eq_true rfl⟩) rfl rfl (fun _ _ H locs hw_4 hP hD hK hS => ?_)
  have hK : va_K D vwCl [(K, .int)] s := hK
  have hP : va_P D vwCl [(re, .inr (3, [.ref rd, .int nd, .ref rl, .int ldi, .int sot, .int tie, .int ff, .int ft])), (rlA, .inl (K, 41, .inl rlf)), (tm, .inr (4, [.ref tmA, .int (nI tn)])), (tmA, .inl (K, 41, .inl tf)), (rd, .inr (4, [.ref rdA, .int (nI 0)])), (rl, .inr (4, [.ref rlA, .int (nI 0)]))] H := hP
  have hD : va_D A [(re, .inr (3, [.ref rd, .int nd, .ref rl, .int ldi, .int sot, .int tie, .int ff, .int ft])), (rlA, .inl (K, 41, .inl rlf)), (tm, .inr (4, [.ref tmA, .int (nI tn)])), (tmA, .inl (K, 41, .inl tf)), (rd, .inr (4, [.ref rdA, .int (nI 0)])), (rl, .inr (4, [.ref rlA, .int (nI 0)]))] := hD
  refine lv_iconst (v := 0) hx hb dX3_layOut_14 (by decide) ?_
  refine lv_istore_n (lv' := [(3, .int 0), (0, .ref re), (1, .ref tm), (2, .int b)]) hx hb dX3_layOut_15 rfl hl (by decide) rfl (fun ls hl => ?_)
  have hf_5 : (rlf : Nat → Int32) = (cpy (lnF tn tf b) rlf 0) := (cpy_0 _ rlf).symm
  have hP : va_P D vwCl [(re, .inr (3, [.ref rd, .int nd, .ref rl, .int ldi, .int sot, .int tie, .int ff, .int ft])), (rlA, .inl (K, 41, .inl (cpy (lnF tn tf b) rlf 0))), (tm, .inr (4, [.ref tmA, .int (nI tn)])), (tmA, .inl (K, 41, .inl tf)), (rd, .inr (4, [.ref rdA, .int (nI 0)])), (rl, .inr (4, [.ref rlA, .int (nI 0)]))] H := (congrArg (fun z9 : Nat → Int32 => va_P D vwCl [(re, .inr (3, [.ref rd, .int nd, .ref rl, .int ldi, .int sot, .int tie, .int ff, .int ft])), (rlA, .inl (K, 41, .inl z9)), (tm, .inr (4, [.ref tmA, .int (nI tn)])), (tmA, .inl (K, 41, .inl tf)), (rd, .inr (4, [.ref rdA, .int (nI 0)])), (rl, .inr (4, [.ref rlA, .int (nI 0)]))] H) hf_5).mp hP
  have hD : va_D A [(re, .inr (3, [.ref rd, .int nd, .ref rl, .int ldi, .int sot, .int tie, .int ff, .int ft])), (rlA, .inl (K, 41, .inl (cpy (lnF tn tf b) rlf 0))), (tm, .inr (4, [.ref tmA, .int (nI tn)])), (tmA, .inl (K, 41, .inl tf)), (rd, .inr (4, [.ref rdA, .int (nI 0)])), (rl, .inr (4, [.ref rlA, .int (nI 0)]))] := (congrArg (fun z9 : Nat → Int32 => va_D A [(re, .inr (3, [.ref rd, .int nd, .ref rl, .int ldi, .int sot, .int tie, .int ff, .int ft])), (rlA, .inl (K, 41, .inl z9)), (tm, .inr (4, [.ref tmA, .int (nI tn)])), (tmA, .inl (K, 41, .inl tf)), (rd, .inr (4, [.ref rdA, .int (nI 0)])), (rl, .inr (4, [.ref rlA, .int (nI 0)]))]) hf_5).mp hD
  have hl : lv_has ls 4 [(3, .int (nI 0)), (0, .ref re), (1, .ref tm), (2, .int b)] := hl
  refine k_loop (ι := Nat) (fun (i : Nat) H9 locs9 ls9 => (i ≤ tn) ∧ va_P D vwCl [(re, .inr (3, [.ref rd, .int nd, .ref rl, .int ldi, .int sot, .int tie, .int ff, .int ft])), (rd, .inr (4, [.ref rdA, .int (nI 0)])), (rl, .inr (4, [.ref rlA, .int (nI i)])), (rlA, .inl (K, 41, .inl (cpy (lnF tn tf b) rlf i))), (tm, .inr (4, [.ref tmA, .int (nI tn)])), (tmA, .inl (K, 41, .inl tf))] H9 ∧ va_D A [(re, .inr (3, [.ref rd, .int nd, .ref rl, .int ldi, .int sot, .int tie, .int ff, .int ft])), (rd, .inr (4, [.ref rdA, .int (nI 0)])), (rl, .inr (4, [.ref rlA, .int (nI i)])), (rlA, .inl (K, 41, .inl (cpy (lnF tn tf b) rlf i))), (tm, .inr (4, [.ref tmA, .int (nI tn)])), (tmA, .inl (K, 41, .inl tf))] ∧ va_S A s.heap H9 locs9 ∧ lv_has ls9 4 [(3, .int (nI i)), (0, .ref re), (1, .ref tm), (2, .int b)]) (fun (i : Nat) => tn - i) ?_ (0) ⟨(Nat.zero_le _), hP.sub [0, 4, 5, 1, 2, 3] rfl, hD.sub [0, 4, 5, 1, 2, 3] (by decide) rfl, hS, lv_sub hl [0, 1, 2, 3] rfl⟩
  intro x9 H locs ls hF9 ih9
  obtain ⟨i, hv9⟩ : ∃ z, z = x9 := ⟨_, rfl⟩
  subst hv9
  obtain ⟨hi, hP, hD, hS, hl⟩ := hF9
  try dsimp only at ih9
  have hP : va_P D vwCl [(re, .inr (3, [.ref rd, .int nd, .ref rl, .int ldi, .int sot, .int tie, .int ff, .int ft])), (rd, .inr (4, [.ref rdA, .int (nI 0)])), (rl, .inr (4, [.ref rlA, .int (nI i)])), (rlA, .inl (K, 41, .inl (cpy (lnF tn tf b) rlf i))), (tm, .inr (4, [.ref tmA, .int (nI tn)])), (tmA, .inl (K, 41, .inl tf))] H := hP
  have hD : va_D A [(re, .inr (3, [.ref rd, .int nd, .ref rl, .int ldi, .int sot, .int tie, .int ff, .int ft])), (rd, .inr (4, [.ref rdA, .int (nI 0)])), (rl, .inr (4, [.ref rlA, .int (nI i)])), (rlA, .inl (K, 41, .inl (cpy (lnF tn tf b) rlf i))), (tm, .inr (4, [.ref tmA, .int (nI tn)])), (tmA, .inl (K, 41, .inl tf))] := hD
  have hl : lv_has ls 4 [(3, .int (nI i)), (0, .ref re), (1, .ref tm), (2, .int b)] := hl
  refine lv_iload_n hx hb dX3_layOut_16 rfl (lv_at hl 0 rfl) ?_
  refine lv_aload_n hx hb dX3_layOut_17 rfl (lv_at hl 2 rfl) ?_
  have ct := k_cut_of (wc := [(tm, .inr (4, [.ref tmA, .int (nI tn)]))]) (wr := [(re, .inr (3, [.ref rd, .int nd, .ref rl, .int ldi, .int sot, .int tie, .int ff, .int ft])), (rd, .inr (4, [.ref rdA, .int (nI 0)])), (rl, .inr (4, [.ref rlA, .int (nI i)])), (rlA, .inl (K, 41, .inl (cpy (lnF tn tf b) rlf i))), (tmA, .inl (K, 41, .inl tf))]) (tc := []) hG hS hA hK hP hD [4] [0, 1, 2, 3, 5] [] rfl rfl (by decide) (by decide) (by decide) rfl
  refine k_endi (As := [.ref tm]) ct (k_runV (As := []) (rest := [.int (nI i)]) S0 Lv_X3_37 rfl (ci := 4) (q0 := 0) rfl rfl ct (c_Row_size l D tm tmA (nI tn) H.size) hl.1 rfl (Nat.le_of_ble_eq_true rfl) rfl dX3_layOut_18 ⟨⟨Nat.le_of_ble_eq_true rfl, Nat.le_of_ble_eq_true rfl⟩, Nat.le_of_ble_eq_true rfl, Nat.le_of_ble_eq_true rfl⟩) rfl rfl (fun r_6 _ H locs hw_7 hP hD hK hS => ?_)
  have hK : va_K D vwCl [(K, .int)] s := hK
  have hP : va_P D vwCl [(re, .inr (3, [.ref rd, .int nd, .ref rl, .int ldi, .int sot, .int tie, .int ff, .int ft])), (rd, .inr (4, [.ref rdA, .int (nI 0)])), (rl, .inr (4, [.ref rlA, .int (nI i)])), (rlA, .inl (K, 41, .inl (cpy (lnF tn tf b) rlf i))), (tmA, .inl (K, 41, .inl tf)), (tm, .inr (4, [.ref tmA, .int (nI tn)]))] H := hP
  have hD : va_D A [(re, .inr (3, [.ref rd, .int nd, .ref rl, .int ldi, .int sot, .int tie, .int ff, .int ft])), (rd, .inr (4, [.ref rdA, .int (nI 0)])), (rl, .inr (4, [.ref rlA, .int (nI i)])), (rlA, .inl (K, 41, .inl (cpy (lnF tn tf b) rlf i))), (tmA, .inl (K, 41, .inl tf)), (tm, .inr (4, [.ref tmA, .int (nI tn)]))] := hD
  have hw_7 : r_6 = (nI tn) := hw_7
  have hw_7 := hw_7.symm
  subst hw_7
  refine k_nrm (y := (nI tn)) rfl ?_
  refine lv_icmp_ge (tgt := 57) hx hb dX3_layOut_21 (by decide) (fun c_8 => ?_) (fun c_8 => ?_)
  · have hc9 := c_8
    obtain rfl : tn = i := by rcases Nat.lt_or_ge i tn with q9 | q9; exact absurd c_8 (nI_ge q9 (by omega)); omega
    have hP9 : va_P D vwCl [(re, .inr (3, [.ref rd, .int nd, .ref rl, .int ldi, .int sot, .int tie, .int ff, .int ft])), (rd, .inr (4, [.ref rdA, .int (nI 0)])), (rl, .inr (4, [.ref rlA, .int (nI tn)])), (rlA, .inl (K, 41, .inl (cpy (lnF tn tf b) rlf tn))), (tm, .inr (4, [.ref tmA, .int (nI tn)])), (tmA, .inl (K, 41, .inl tf))] H := hP.sub [0, 1, 2, 3, 5, 4] rfl
    have hD9 : va_D A [(re, .inr (3, [.ref rd, .int nd, .ref rl, .int ldi, .int sot, .int tie, .int ff, .int ft])), (rd, .inr (4, [.ref rdA, .int (nI 0)])), (rl, .inr (4, [.ref rlA, .int (nI tn)])), (rlA, .inl (K, 41, .inl (cpy (lnF tn tf b) rlf tn))), (tm, .inr (4, [.ref tmA, .int (nI tn)])), (tmA, .inl (K, 41, .inl tf))] := hD.sub [0, 1, 2, 3, 5, 4] (by decide) rfl
    have hK9 : va_K D vwCl [] s := hK.sub [] rfl
    exact W.vret hx hb hr (fun t ht9 hW9 => ⟨⟨(), rfl, by first | rfl | trivial | (simp only [hi, c_8, if_true, if_false, reduceIte, and_self]; done) | simp_all, ⟨by rw [ht9]; exact hP9, va_K.moved hW9.alike hK9, hD9⟩⟩, hS.F ht9⟩) hS.2.2 dX3_layOut_57
  · have hc9 := c_8
    have hik : i + 1 ≤ tn := by rcases Nat.lt_or_ge i tn with q9 | q9; exact q9; exact absurd (nI_le q9 (by omega)) c_8
    refine lv_aload_n hx hb dX3_layOut_24 rfl (lv_at hl 1 rfl) ?_
    refine va_get (D := D) (ci := 3) (v := .ref rl) (C := RX3) (T := TX3) (N := 8) hx hb ht inA_X3 hown hK hP 0 rfl rfl 2 (by decide) (ht _ lf_X3_20) (fun _ h9 => h9) rfl dX3_layOut_25 ?_
    refine lv_aload_n hx hb dX3_layOut_28 rfl (lv_at hl 2 rfl) ?_
    refine lv_iload_n hx hb dX3_layOut_29 rfl (lv_at hl 3 rfl) ?_
    refine lv_if_eq (tgt := 44) hx hb dX3_layOut_30 (by decide) (fun c_9 => ?_) (fun c_9 => ?_)
    · have hc9 := c_9
      refine lv_iload_n hx hb dX3_layOut_44 rfl (lv_at hl 0 rfl) ?_
      refine k_nrm (y := elF (nI tn) b i) (by unfold elF; rw [if_pos c_9]) ?_
      have ct := k_cut_of (wc := [(tm, .inr (4, [.ref tmA, .int (nI tn)])), (tmA, .inl (K, 41, .inl tf))]) (wr := [(re, .inr (3, [.ref rd, .int nd, .ref rl, .int ldi, .int sot, .int tie, .int ff, .int ft])), (rd, .inr (4, [.ref rdA, .int (nI 0)])), (rl, .inr (4, [.ref rlA, .int (nI i)])), (rlA, .inl (K, 41, .inl (cpy (lnF tn tf b) rlf i)))]) (tc := [(K, .int)]) hG hS hA hK hP hD [5, 4] [0, 1, 2, 3] [0] rfl rfl (by decide) (by decide) (by decide) rfl
      refine k_endi (As := [.ref tm, .int (elF (nI tn) b i)]) ct (k_runV (As := [.int (elF (nI tn) b i)]) (rest := [.ref rl]) S0 Lv_X3_77 rfl (ci := 4) (q0 := 0) rfl rfl ct (c_Row_at l D tm tmA (nI tn) K 41 tf (elF (nI tn) b i) (by first | assumption | decide) H.size) hl.1 rfl (Nat.le_of_ble_eq_true rfl) rfl dX3_layOut_45 ⟨⟨Nat.le_of_ble_eq_true rfl, Nat.le_of_ble_eq_true rfl⟩, Nat.le_of_ble_eq_true rfl, Nat.le_of_ble_eq_true rfl⟩) rfl rfl (fun r_10 _ H locs hw_11 hP hD hK hS => ?_)
      have hK : va_K D vwCl [(K, .int)] s := hK
      have hP : va_P D vwCl [(re, .inr (3, [.ref rd, .int nd, .ref rl, .int ldi, .int sot, .int tie, .int ff, .int ft])), (rd, .inr (4, [.ref rdA, .int (nI 0)])), (rl, .inr (4, [.ref rlA, .int (nI i)])), (rlA, .inl (K, 41, .inl (cpy (lnF tn tf b) rlf i))), (tm, .inr (4, [.ref tmA, .int (nI tn)])), (tmA, .inl (K, 41, .inl tf))] H := hP
      have hD : va_D A [(re, .inr (3, [.ref rd, .int nd, .ref rl, .int ldi, .int sot, .int tie, .int ff, .int ft])), (rd, .inr (4, [.ref rdA, .int (nI 0)])), (rl, .inr (4, [.ref rlA, .int (nI i)])), (rlA, .inl (K, 41, .inl (cpy (lnF tn tf b) rlf i))), (tm, .inr (4, [.ref tmA, .int (nI tn)])), (tmA, .inl (K, 41, .inl tf))] := hD
      have hw_11 : r_10 = (rowAt 41 (nI tn) tf (elF (nI tn) b i)) := hw_11
      have hw_11 := hw_11.symm
      subst hw_11
      refine k_nrm (y := (rowAt 41 (nI tn) tf (elF (nI tn) b i))) rfl ?_
      refine k_nrm (y := lnF tn tf b i) rfl ?_
      have ct := k_cut_of (wc := [(rl, .inr (4, [.ref rlA, .int (nI i)])), (rlA, .inl (K, 41, .inl (cpy (lnF tn tf b) rlf i)))]) (wr := [(re, .inr (3, [.ref rd, .int nd, .ref rl, .int ldi, .int sot, .int tie, .int ff, .int ft])), (rd, .inr (4, [.ref rdA, .int (nI 0)])), (tm, .inr (4, [.ref tmA, .int (nI tn)])), (tmA, .inl (K, 41, .inl tf))]) (tc := [(K, .int)]) hG hS hA hK hP hD [2, 3] [0, 1, 4, 5] [0] rfl rfl (by decide) (by decide) (by decide) rfl
      refine k_endv (As := [.ref rl, .int (lnF tn tf b i)]) ct (k_runV (As := [.int (lnF tn tf b i)]) (rest := []) S0 Lv_X3_71 rfl (ci := 4) (q0 := 0) rfl rfl ct (c_Row_add l D rl rlA i K 41 (cpy (lnF tn tf b) rlf i) (lnF tn tf b i) (by first | assumption | decide) (by omega) H.size) hl.1 rfl (Nat.le_of_ble_eq_true rfl) rfl dX3_layOut_48 ⟨⟨Nat.le_of_ble_eq_true rfl, Nat.le_of_ble_eq_true rfl⟩, Nat.le_of_ble_eq_true rfl, Nat.le_of_ble_eq_true rfl⟩) rfl rfl (fun _ _ H locs hw_13 hP hD hK hS => ?_)
      have hK : va_K D vwCl [(K, .int)] s := hK
      have hP : va_P D vwCl [(re, .inr (3, [.ref rd, .int nd, .ref rl, .int ldi, .int sot, .int tie, .int ff, .int ft])), (rd, .inr (4, [.ref rdA, .int (nI 0)])), (tm, .inr (4, [.ref tmA, .int (nI tn)])), (tmA, .inl (K, 41, .inl tf)), (rl, .inr (4, [.ref rlA, .int (nI (i + 1))])), (rlA, .inl (K, 41, .inl (upd (cpy (lnF tn tf b) rlf i) i (lnF tn tf b i))))] H := hP
      have hD : va_D A [(re, .inr (3, [.ref rd, .int nd, .ref rl, .int ldi, .int sot, .int tie, .int ff, .int ft])), (rd, .inr (4, [.ref rdA, .int (nI 0)])), (tm, .inr (4, [.ref tmA, .int (nI tn)])), (tmA, .inl (K, 41, .inl tf)), (rl, .inr (4, [.ref rlA, .int (nI (i + 1))])), (rlA, .inl (K, 41, .inl (upd (cpy (lnF tn tf b) rlf i) i (lnF tn tf b i))))] := hD
      have hf_14 : ((upd (cpy (lnF tn tf b) rlf i) i (lnF tn tf b i)) : Nat → Int32) = (cpy (lnF tn tf b) rlf (i + 1)) := cpy_s (lnF tn tf b) rlf i
      have hP : va_P D vwCl [(re, .inr (3, [.ref rd, .int nd, .ref rl, .int ldi, .int sot, .int tie, .int ff, .int ft])), (rd, .inr (4, [.ref rdA, .int (nI 0)])), (tm, .inr (4, [.ref tmA, .int (nI tn)])), (tmA, .inl (K, 41, .inl tf)), (rl, .inr (4, [.ref rlA, .int (nI (i + 1))])), (rlA, .inl (K, 41, .inl (cpy (lnF tn tf b) rlf (i + 1))))] H := (congrArg (fun z9 : Nat → Int32 => va_P D vwCl [(re, .inr (3, [.ref rd, .int nd, .ref rl, .int ldi, .int sot, .int tie, .int ff, .int ft])), (rd, .inr (4, [.ref rdA, .int (nI 0)])), (tm, .inr (4, [.ref tmA, .int (nI tn)])), (tmA, .inl (K, 41, .inl tf)), (rl, .inr (4, [.ref rlA, .int (nI (i + 1))])), (rlA, .inl (K, 41, .inl z9))] H) hf_14).mp hP
      have hD : va_D A [(re, .inr (3, [.ref rd, .int nd, .ref rl, .int ldi, .int sot, .int tie, .int ff, .int ft])), (rd, .inr (4, [.ref rdA, .int (nI 0)])), (tm, .inr (4, [.ref tmA, .int (nI tn)])), (tmA, .inl (K, 41, .inl tf)), (rl, .inr (4, [.ref rlA, .int (nI (i + 1))])), (rlA, .inl (K, 41, .inl (cpy (lnF tn tf b) rlf (i + 1))))] := (congrArg (fun z9 : Nat → Int32 => va_D A [(re, .inr (3, [.ref rd, .int nd, .ref rl, .int ldi, .int sot, .int tie, .int ff, .int ft])), (rd, .inr (4, [.ref rdA, .int (nI 0)])), (tm, .inr (4, [.ref tmA, .int (nI tn)])), (tmA, .inl (K, 41, .inl tf)), (rl, .inr (4, [.ref rlA, .int (nI (i + 1))])), (rlA, .inl (K, 41, .inl z9))]) hf_14).mp hD
      obtain ⟨x_15, ex_15⟩ : ∃ z : Int32, z = (nI i) + 1 := ⟨_, rfl⟩
      refine lv_iinc (v := x_15) (lv' := [(3, .int x_15), (0, .ref re), (1, .ref tm), (2, .int b)]) hx hb dX3_layOut_51 hl (k := 0) rfl (by rw [ex_15]; rfl) (by decide) rfl (fun ls hl => ?_)
      refine lv_goto (tgt := 16) hx hb dX3_layOut_54 (by decide) ?_
      have he9 : x_15 = (nI (i + 1)) := by rw [ex_15]; exact nI_1 i
      rw [he9] at hl
      have hl : lv_has ls 4 [(3, .int (nI (i + 1))), (0, .ref re), (1, .ref tm), (2, .int b)] := hl
      exact ih9 (i + 1) H locs ls (by omega) ⟨hik, hP.sub [0, 1, 4, 5, 2, 3] rfl, hD.sub [0, 1, 4, 5, 2, 3] (by decide) rfl, hS, lv_sub hl [0, 1, 2, 3] rfl⟩
    · have hc9 := c_9
      refine lv_aload_n hx hb dX3_layOut_33 rfl (lv_at hl 2 rfl) ?_
      have ct := k_cut_of (wc := [(tm, .inr (4, [.ref tmA, .int (nI tn)]))]) (wr := [(re, .inr (3, [.ref rd, .int nd, .ref rl, .int ldi, .int sot, .int tie, .int ff, .int ft])), (rd, .inr (4, [.ref rdA, .int (nI 0)])), (rl, .inr (4, [.ref rlA, .int (nI i)])), (rlA, .inl (K, 41, .inl (cpy (lnF tn tf b) rlf i))), (tmA, .inl (K, 41, .inl tf))]) (tc := []) hG hS hA hK hP hD [5] [0, 1, 2, 3, 4] [] rfl rfl (by decide) (by decide) (by decide) rfl
      refine k_endi (As := [.ref tm]) ct (k_runV (As := []) (rest := [.ref tm, .ref rl]) S0 Lv_X3_37 rfl (ci := 4) (q0 := 0) rfl rfl ct (c_Row_size l D tm tmA (nI tn) H.size) hl.1 rfl (Nat.le_of_ble_eq_true rfl) rfl dX3_layOut_34 ⟨⟨Nat.le_of_ble_eq_true rfl, Nat.le_of_ble_eq_true rfl⟩, Nat.le_of_ble_eq_true rfl, Nat.le_of_ble_eq_true rfl⟩) rfl rfl (fun r_16 _ H locs hw_17 hP hD hK hS => ?_)
      have hK : va_K D vwCl [(K, .int)] s := hK
      have hP : va_P D vwCl [(re, .inr (3, [.ref rd, .int nd, .ref rl, .int ldi, .int sot, .int tie, .int ff, .int ft])), (rd, .inr (4, [.ref rdA, .int (nI 0)])), (rl, .inr (4, [.ref rlA, .int (nI i)])), (rlA, .inl (K, 41, .inl (cpy (lnF tn tf b) rlf i))), (tmA, .inl (K, 41, .inl tf)), (tm, .inr (4, [.ref tmA, .int (nI tn)]))] H := hP
      have hD : va_D A [(re, .inr (3, [.ref rd, .int nd, .ref rl, .int ldi, .int sot, .int tie, .int ff, .int ft])), (rd, .inr (4, [.ref rdA, .int (nI 0)])), (rl, .inr (4, [.ref rlA, .int (nI i)])), (rlA, .inl (K, 41, .inl (cpy (lnF tn tf b) rlf i))), (tmA, .inl (K, 41, .inl tf)), (tm, .inr (4, [.ref tmA, .int (nI tn)]))] := hD
      have hw_17 : r_16 = (nI tn) := hw_17
      have hw_17 := hw_17.symm
      subst hw_17
      refine k_nrm (y := (nI tn)) rfl ?_
      refine lv_iconst (v := 1) hx hb dX3_layOut_37 (by decide) ?_
      refine lv_isub hx hb dX3_layOut_38 ?_
      refine k_nrm (y := (nI tn - 1)) (rfl) ?_
      refine lv_iload_n hx hb dX3_layOut_39 rfl (lv_at hl 0 rfl) ?_
      refine lv_isub hx hb dX3_layOut_40 ?_
      refine k_nrm (y := (nI tn - 1 - nI i)) (rfl) ?_
      refine lv_goto (tgt := 45) hx hb dX3_layOut_41 (by decide) ?_
      refine k_nrm (y := elF (nI tn) b i) (by unfold elF; rw [if_neg c_9]) ?_
      have ct := k_cut_of (wc := [(tm, .inr (4, [.ref tmA, .int (nI tn)])), (tmA, .inl (K, 41, .inl tf))]) (wr := [(re, .inr (3, [.ref rd, .int nd, .ref rl, .int ldi, .int sot, .int tie, .int ff, .int ft])), (rd, .inr (4, [.ref rdA, .int (nI 0)])), (rl, .inr (4, [.ref rlA, .int (nI i)])), (rlA, .inl (K, 41, .inl (cpy (lnF tn tf b) rlf i)))]) (tc := [(K, .int)]) hG hS hA hK hP hD [5, 4] [0, 1, 2, 3] [0] rfl rfl (by decide) (by decide) (by decide) rfl
      refine k_endi (As := [.ref tm, .int (elF (nI tn) b i)]) ct (k_runV (As := [.int (elF (nI tn) b i)]) (rest := [.ref rl]) S0 Lv_X3_77 rfl (ci := 4) (q0 := 0) rfl rfl ct (c_Row_at l D tm tmA (nI tn) K 41 tf (elF (nI tn) b i) (by first | assumption | decide) H.size) hl.1 rfl (Nat.le_of_ble_eq_true rfl) rfl dX3_layOut_45 ⟨⟨Nat.le_of_ble_eq_true rfl, Nat.le_of_ble_eq_true rfl⟩, Nat.le_of_ble_eq_true rfl, Nat.le_of_ble_eq_true rfl⟩) rfl rfl (fun r_18 _ H locs hw_19 hP hD hK hS => ?_)
      have hK : va_K D vwCl [(K, .int)] s := hK
      have hP : va_P D vwCl [(re, .inr (3, [.ref rd, .int nd, .ref rl, .int ldi, .int sot, .int tie, .int ff, .int ft])), (rd, .inr (4, [.ref rdA, .int (nI 0)])), (rl, .inr (4, [.ref rlA, .int (nI i)])), (rlA, .inl (K, 41, .inl (cpy (lnF tn tf b) rlf i))), (tm, .inr (4, [.ref tmA, .int (nI tn)])), (tmA, .inl (K, 41, .inl tf))] H := hP
      have hD : va_D A [(re, .inr (3, [.ref rd, .int nd, .ref rl, .int ldi, .int sot, .int tie, .int ff, .int ft])), (rd, .inr (4, [.ref rdA, .int (nI 0)])), (rl, .inr (4, [.ref rlA, .int (nI i)])), (rlA, .inl (K, 41, .inl (cpy (lnF tn tf b) rlf i))), (tm, .inr (4, [.ref tmA, .int (nI tn)])), (tmA, .inl (K, 41, .inl tf))] := hD
      have hw_19 : r_18 = (rowAt 41 (nI tn) tf (elF (nI tn) b i)) := hw_19
      have hw_19 := hw_19.symm
      subst hw_19
      refine k_nrm (y := (rowAt 41 (nI tn) tf (elF (nI tn) b i))) rfl ?_
      refine k_nrm (y := lnF tn tf b i) rfl ?_
      have ct := k_cut_of (wc := [(rl, .inr (4, [.ref rlA, .int (nI i)])), (rlA, .inl (K, 41, .inl (cpy (lnF tn tf b) rlf i)))]) (wr := [(re, .inr (3, [.ref rd, .int nd, .ref rl, .int ldi, .int sot, .int tie, .int ff, .int ft])), (rd, .inr (4, [.ref rdA, .int (nI 0)])), (tm, .inr (4, [.ref tmA, .int (nI tn)])), (tmA, .inl (K, 41, .inl tf))]) (tc := [(K, .int)]) hG hS hA hK hP hD [2, 3] [0, 1, 4, 5] [0] rfl rfl (by decide) (by decide) (by decide) rfl
      refine k_endv (As := [.ref rl, .int (lnF tn tf b i)]) ct (k_runV (As := [.int (lnF tn tf b i)]) (rest := []) S0 Lv_X3_71 rfl (ci := 4) (q0 := 0) rfl rfl ct (c_Row_add l D rl rlA i K 41 (cpy (lnF tn tf b) rlf i) (lnF tn tf b i) (by first | assumption | decide) (by omega) H.size) hl.1 rfl (Nat.le_of_ble_eq_true rfl) rfl dX3_layOut_48 ⟨⟨Nat.le_of_ble_eq_true rfl, Nat.le_of_ble_eq_true rfl⟩, Nat.le_of_ble_eq_true rfl, Nat.le_of_ble_eq_true rfl⟩) rfl rfl (fun _ _ H locs hw_21 hP hD hK hS => ?_)
      have hK : va_K D vwCl [(K, .int)] s := hK
      have hP : va_P D vwCl [(re, .inr (3, [.ref rd, .int nd, .ref rl, .int ldi, .int sot, .int tie, .int ff, .int ft])), (rd, .inr (4, [.ref rdA, .int (nI 0)])), (tm, .inr (4, [.ref tmA, .int (nI tn)])), (tmA, .inl (K, 41, .inl tf)), (rl, .inr (4, [.ref rlA, .int (nI (i + 1))])), (rlA, .inl (K, 41, .inl (upd (cpy (lnF tn tf b) rlf i) i (lnF tn tf b i))))] H := hP
      have hD : va_D A [(re, .inr (3, [.ref rd, .int nd, .ref rl, .int ldi, .int sot, .int tie, .int ff, .int ft])), (rd, .inr (4, [.ref rdA, .int (nI 0)])), (tm, .inr (4, [.ref tmA, .int (nI tn)])), (tmA, .inl (K, 41, .inl tf)), (rl, .inr (4, [.ref rlA, .int (nI (i + 1))])), (rlA, .inl (K, 41, .inl (upd (cpy (lnF tn tf b) rlf i) i (lnF tn tf b i))))] := hD
      have hf_22 : ((upd (cpy (lnF tn tf b) rlf i) i (lnF tn tf b i)) : Nat → Int32) = (cpy (lnF tn tf b) rlf (i + 1)) := cpy_s (lnF tn tf b) rlf i
      have hP : va_P D vwCl [(re, .inr (3, [.ref rd, .int nd, .ref rl, .int ldi, .int sot, .int tie, .int ff, .int ft])), (rd, .inr (4, [.ref rdA, .int (nI 0)])), (tm, .inr (4, [.ref tmA, .int (nI tn)])), (tmA, .inl (K, 41, .inl tf)), (rl, .inr (4, [.ref rlA, .int (nI (i + 1))])), (rlA, .inl (K, 41, .inl (cpy (lnF tn tf b) rlf (i + 1))))] H := (congrArg (fun z9 : Nat → Int32 => va_P D vwCl [(re, .inr (3, [.ref rd, .int nd, .ref rl, .int ldi, .int sot, .int tie, .int ff, .int ft])), (rd, .inr (4, [.ref rdA, .int (nI 0)])), (tm, .inr (4, [.ref tmA, .int (nI tn)])), (tmA, .inl (K, 41, .inl tf)), (rl, .inr (4, [.ref rlA, .int (nI (i + 1))])), (rlA, .inl (K, 41, .inl z9))] H) hf_22).mp hP
      have hD : va_D A [(re, .inr (3, [.ref rd, .int nd, .ref rl, .int ldi, .int sot, .int tie, .int ff, .int ft])), (rd, .inr (4, [.ref rdA, .int (nI 0)])), (tm, .inr (4, [.ref tmA, .int (nI tn)])), (tmA, .inl (K, 41, .inl tf)), (rl, .inr (4, [.ref rlA, .int (nI (i + 1))])), (rlA, .inl (K, 41, .inl (cpy (lnF tn tf b) rlf (i + 1))))] := (congrArg (fun z9 : Nat → Int32 => va_D A [(re, .inr (3, [.ref rd, .int nd, .ref rl, .int ldi, .int sot, .int tie, .int ff, .int ft])), (rd, .inr (4, [.ref rdA, .int (nI 0)])), (tm, .inr (4, [.ref tmA, .int (nI tn)])), (tmA, .inl (K, 41, .inl tf)), (rl, .inr (4, [.ref rlA, .int (nI (i + 1))])), (rlA, .inl (K, 41, .inl z9))]) hf_22).mp hD
      obtain ⟨x_23, ex_23⟩ : ∃ z : Int32, z = (nI i) + 1 := ⟨_, rfl⟩
      refine lv_iinc (v := x_23) (lv' := [(3, .int x_23), (0, .ref re), (1, .ref tm), (2, .int b)]) hx hb dX3_layOut_51 hl (k := 0) rfl (by rw [ex_23]; rfl) (by decide) rfl (fun ls hl => ?_)
      refine lv_goto (tgt := 16) hx hb dX3_layOut_54 (by decide) ?_
      have he9 : x_23 = (nI (i + 1)) := by rw [ex_23]; exact nI_1 i
      rw [he9] at hl
      have hl : lv_has ls 4 [(3, .int (nI (i + 1))), (0, .ref re), (1, .ref tm), (2, .int b)] := hl
      exact ih9 (i + 1) H locs ls (by omega) ⟨hik, hP.sub [0, 1, 4, 5, 2, 3] rfl, hD.sub [0, 1, 4, 5, 2, 3] (by decide) rfl, hS, lv_sub hl [0, 1, 2, 3] rfl⟩
set_option maxHeartbeats 4000000 in
set_option maxRecDepth 100000 in
theorem c_digitsOf (l : Launch) (D : va_G) (n : Int32) (sz : Nat) : k_Mi (S := Unit) l D yX3_digitsOf cX3_digitsOf 4 (some .int) 0 0 0 0 [.int n] [] [] (fun (r : Int32) (_ : Unit) => r = (digF n)) (fun _ => []) (fun _ => []) sz := by
  refine Met.ofW (cc := cX3_digitsOf) (maxL := 4) (ret := (some .int)) (by decide) rfl ?_
  intro p e s m args below meth c s₁ B hml hv
  obtain ⟨rfl, hsz, hP, hK, hD0, hG⟩ := hv
  have hx := B.exec
  have hb := B.bytes
  have hr := B.returns
  have ht : ∀ v9 ∈ wsA, v9.before ([.int n] : List Value).toArray s = true := fun v9 h9 => atoms_spec (ws := k_ws yX3_digitsOf cX3_digitsOf 4 (some .int)) B.pre v9 (List.mem_cons_of_mem _ h9)
  have hown : s.vm.findClass RX3 = some m.cls := findClass_of_methodNamed B.named
  have S0 : k_C p s m ([.int n] : List Value).toArray c cX3_digitsOf 4 RX3 := ⟨hx, hb, hml, hown, ht⟩
  have hlocks := B.notSynchronized
  subst hsz
  have hD := hD0.self (sz := s.heap.size)
  generalize hAe : va_A [] s.heap.size = A at hD hG ⊢
  have hA : ∀ q : Nat, s.heap.size ≤ q → A q := fun q h => by rw [← hAe]; exact Or.inr h
  have hS : va_S A s.heap s.heap [] := va_S.rf
  have hl := lv_entry ([.int n]) (n := 4) (Nat.le_of_ble_eq_true rfl)
  rw [lg_entry_eq]
  generalize (lg_sl ([.int n]) ++ List.replicate (4 - (lg_sl ([.int n])).length) Slot.unset).toArray = ls at hl ⊢
  have hl : lv_has ls 4 [(0, .int n)] := hl
  have hP : va_P D vwCl [] s.heap := hP
  refine lv_iload_n hx hb dX3_digitsOf_0 rfl (lv_at hl 0 rfl) ?_
  refine lv_iconst (v := 3) hx hb dX3_digitsOf_1 (by decide) ?_
  refine lv_isub hx hb dX3_digitsOf_2 ?_
  refine k_nrm (y := (n - 3)) (rfl) ?_
  refine lv_iconst (v := 2) hx hb dX3_digitsOf_3 (by decide) ?_
  refine lv_isub hx hb dX3_digitsOf_4 ?_
  refine k_nrm (y := (n - 3 - 2)) (rfl) ?_
  refine lv_istore_n (lv' := [(1, .int (n - 3 - 2)), (0, .int n)]) hx hb dX3_digitsOf_5 rfl hl (by decide) rfl (fun ls hl => ?_)
  refine lv_iload_n hx hb dX3_digitsOf_6 rfl (lv_at hl 0 rfl) ?_
  refine lv_iconst (v := 4) hx hb dX3_digitsOf_7 (by decide) ?_
  refine lv_idiv hx hb dX3_digitsOf_8 (by decide) ?_
  refine k_nrm (y := ((n - 3 - 2) / 4)) (rfl) ?_
  refine lv_istore_n (lv' := [(2, .int ((n - 3 - 2) / 4)), (1, .int (n - 3 - 2)), (0, .int n)]) hx hb dX3_digitsOf_9 rfl hl (by decide) rfl (fun ls hl => ?_)
  refine lv_iload_n hx hb dX3_digitsOf_10 rfl (lv_at hl 1 rfl) ?_
  refine lv_iconst (v := 4) hx hb dX3_digitsOf_11 (by decide) ?_
  refine lv_irem hx hb dX3_digitsOf_12 (by decide) ?_
  refine k_nrm (y := ((n - 3 - 2) - (n - 3 - 2) / 4 * 4)) (rfl) ?_
  refine lv_if_ne (tgt := 20) hx hb dX3_digitsOf_13 (by decide) (fun c_1 => ?_) (fun c_1 => ?_)
  · have hc9 := c_1
    refine lv_iconst (v := 0) hx hb dX3_digitsOf_20 (by decide) ?_
    refine lv_istore_n (lv' := [(3, .int 0), (2, .int ((n - 3 - 2) / 4)), (1, .int (n - 3 - 2)), (0, .int n)]) hx hb dX3_digitsOf_21 rfl hl (by decide) rfl (fun ls hl => ?_)
    refine lv_iload_n hx hb dX3_digitsOf_22 rfl (lv_at hl 0 rfl) ?_
    refine lv_if_eq (tgt := 41) hx hb dX3_digitsOf_23 (by decide) (fun _ => ?_) (fun c9 => absurd (by decide) c9)
    refine lv_iconst (v := 0) hx hb dX3_digitsOf_41 (by decide) ?_
    have hP9 : va_P D vwCl [] s.heap := hP.sub [] rfl
    have hD9 : va_D A [] := hD.sub [] (by decide) rfl
    have hK9 : va_K D vwCl [] s := hK.sub [] rfl
    exact W.iret (v := 0) hx hb hr (fun t ht9 hW9 => ⟨⟨0, (), rfl, by first | rfl | trivial | (simp only [digF, c_1, if_true, if_false, reduceIte, and_self]; done) | simp_all, ⟨by rw [ht9]; exact hP9, va_K.moved hW9.alike hK9, hD9⟩⟩, hS.F ht9⟩) hS.2.2 dX3_digitsOf_42
  · have hc9 := c_1
    refine lv_iconst (v := 1) hx hb dX3_digitsOf_16 (by decide) ?_
    refine lv_goto (tgt := 21) hx hb dX3_digitsOf_17 (by decide) ?_
    refine lv_istore_n (lv' := [(3, .int 1), (2, .int ((n - 3 - 2) / 4)), (1, .int (n - 3 - 2)), (0, .int n)]) hx hb dX3_digitsOf_21 rfl hl (by decide) rfl (fun ls hl => ?_)
    refine lv_iload_n hx hb dX3_digitsOf_22 rfl (lv_at hl 0 rfl) ?_
    refine lv_if_eq (tgt := 41) hx hb dX3_digitsOf_23 (by decide) (fun c9 => absurd c9 (by decide)) (fun _ => ?_)
    refine lv_iload_n hx hb dX3_digitsOf_26 rfl (lv_at hl 1 rfl) ?_
    refine lv_iconst (v := 2) hx hb dX3_digitsOf_27 (by decide) ?_
    refine lv_icmp_lt (tgt := 41) hx hb dX3_digitsOf_28 (by decide) (fun c_2 => ?_) (fun c_2 => ?_)
    · have hc9 := c_2
      refine lv_iconst (v := 0) hx hb dX3_digitsOf_41 (by decide) ?_
      have hP9 : va_P D vwCl [] s.heap := hP.sub [] rfl
      have hD9 : va_D A [] := hD.sub [] (by decide) rfl
      have hK9 : va_K D vwCl [] s := hK.sub [] rfl
      exact W.iret (v := 0) hx hb hr (fun t ht9 hW9 => ⟨⟨0, (), rfl, by first | rfl | trivial | (simp only [digF, c_1, c_2, if_true, if_false, reduceIte, and_self]; done) | simp_all, ⟨by rw [ht9]; exact hP9, va_K.moved hW9.alike hK9, hD9⟩⟩, hS.F ht9⟩) hS.2.2 dX3_digitsOf_42
    · have hc9 := c_2
      refine lv_iload_n hx hb dX3_digitsOf_31 rfl (lv_at hl 1 rfl) ?_
      refine lv_bipush (v := 9) hx hb dX3_digitsOf_32 (by decide) ?_
      refine lv_icmp_gt (tgt := 41) hx hb dX3_digitsOf_34 (by decide) (fun c_3 => ?_) (fun c_3 => ?_)
      · have hc9 := c_3
        refine lv_iconst (v := 0) hx hb dX3_digitsOf_41 (by decide) ?_
        have hP9 : va_P D vwCl [] s.heap := hP.sub [] rfl
        have hD9 : va_D A [] := hD.sub [] (by decide) rfl
        have hK9 : va_K D vwCl [] s := hK.sub [] rfl
        exact W.iret (v := 0) hx hb hr (fun t ht9 hW9 => ⟨⟨0, (), rfl, by first | rfl | trivial | (simp only [digF, c_1, c_2, c_3, if_true, if_false, reduceIte, and_self]; done) | simp_all, ⟨by rw [ht9]; exact hP9, va_K.moved hW9.alike hK9, hD9⟩⟩, hS.F ht9⟩) hS.2.2 dX3_digitsOf_42
      · have hc9 := c_3
        refine lv_iload_n hx hb dX3_digitsOf_37 rfl (lv_at hl 1 rfl) ?_
        refine lv_goto (tgt := 42) hx hb dX3_digitsOf_38 (by decide) ?_
        have hP9 : va_P D vwCl [] s.heap := hP.sub [] rfl
        have hD9 : va_D A [] := hD.sub [] (by decide) rfl
        have hK9 : va_K D vwCl [] s := hK.sub [] rfl
        exact W.iret (v := ((n - 3 - 2) / 4)) hx hb hr (fun t ht9 hW9 => ⟨⟨((n - 3 - 2) / 4), (), rfl, by first | rfl | trivial | (simp only [digF, c_1, c_2, c_3, if_true, if_false, reduceIte, and_self]; done) | simp_all, ⟨by rw [ht9]; exact hP9, va_K.moved hW9.alike hK9, hD9⟩⟩, hS.F ht9⟩) hS.2.2 dX3_digitsOf_42
set_option maxHeartbeats 4000000 in
set_option maxRecDepth 100000 in
theorem c_leftGuard (l : Launch) (D : va_G) (re : Nat) (rd : Nat) (nd : Int32) (rl : Nat) (ldi : Int32) (sot : Int32) (tie : Int32) (ff : Int32) (ft : Int32) (rlA : Nat) (n : Nat) (K : ClassId) (lf : Nat → Int32) (hn : n ≤ 41) (sz : Nat) : k_Mi (S := Unit) l D yX3_isLeftGuardRight cX3_isLeftGuardRight 3 (some .boolean) 1 0 0 21 [.ref re] [(re, .inr (3, [.ref rd, .int nd, .ref rl, .int ldi, .int sot, .int tie, .int ff, .int ft])), (rl, .inr (4, [.ref rlA, .int (nI n)])), (rlA, .inl (K, 41, .inl lf))] [(K, .int)] (fun (r : Int32) (_ : Unit) => r = (lgF (rowAt 41 (nI n) lf 0) (rowAt 41 (nI n) lf 1) (rowAt 41 (nI n) lf 2))) (fun _ => [(re, .inr (3, [.ref rd, .int nd, .ref rl, .int ldi, .int sot, .int tie, .int ff, .int ft])), (rl, .inr (4, [.ref rlA, .int (nI n)])), (rlA, .inl (K, 41, .inl lf))]) (fun _ => []) sz := by
  refine Met.ofW (cc := cX3_isLeftGuardRight) (maxL := 3) (ret := (some .boolean)) (by decide) rfl ?_
  intro p e s m args below meth c s₁ B hml hv
  obtain ⟨rfl, hsz, hP, hK, hD0, hG⟩ := hv
  have hx := B.exec
  have hb := B.bytes
  have hr := B.returns
  have ht : ∀ v9 ∈ wsA, v9.before ([.ref re] : List Value).toArray s = true := fun v9 h9 => atoms_spec (ws := k_ws yX3_isLeftGuardRight cX3_isLeftGuardRight 3 (some .boolean)) B.pre v9 (List.mem_cons_of_mem _ h9)
  have hown : s.vm.findClass RX3 = some m.cls := findClass_of_methodNamed B.named
  have S0 : k_C p s m ([.ref re] : List Value).toArray c cX3_isLeftGuardRight 3 RX3 := ⟨hx, hb, hml, hown, ht⟩
  have hlocks := B.notSynchronized
  subst hsz
  have hD := hD0.self (sz := s.heap.size)
  generalize hAe : va_A [(re, .inr (3, [.ref rd, .int nd, .ref rl, .int ldi, .int sot, .int tie, .int ff, .int ft])), (rl, .inr (4, [.ref rlA, .int (nI n)])), (rlA, .inl (K, 41, .inl lf))] s.heap.size = A at hD hG ⊢
  have hA : ∀ q : Nat, s.heap.size ≤ q → A q := fun q h => by rw [← hAe]; exact Or.inr h
  have hS : va_S A s.heap s.heap [] := va_S.rf
  have hl := lv_entry ([.ref re]) (n := 3) (Nat.le_of_ble_eq_true rfl)
  rw [lg_entry_eq]
  generalize (lg_sl ([.ref re]) ++ List.replicate (3 - (lg_sl ([.ref re])).length) Slot.unset).toArray = ls at hl ⊢
  have hl : lv_has ls 3 [(0, .ref re)] := hl
  have hP : va_P D vwCl [(re, .inr (3, [.ref rd, .int nd, .ref rl, .int ldi, .int sot, .int tie, .int ff, .int ft])), (rl, .inr (4, [.ref rlA, .int (nI n)])), (rlA, .inl (K, 41, .inl lf))] s.heap := hP
  refine lv_aload_n hx hb dX3_isLeftGuardRight_0 rfl (lv_at hl 0 rfl) ?_
  refine va_get (D := D) (ci := 3) (v := .ref rl) (C := RX3) (T := TX3) (N := 8) hx hb ht inA_X3 hown hK hP 0 rfl rfl 2 (by decide) (ht _ lf_X3_20) (fun _ h9 => h9) rfl dX3_isLeftGuardRight_1 ?_
  refine lv_iconst (v := 0) hx hb dX3_isLeftGuardRight_4 (by decide) ?_
  have ct := k_cut_of (wc := [(rl, .inr (4, [.ref rlA, .int (nI n)])), (rlA, .inl (K, 41, .inl lf))]) (wr := [(re, .inr (3, [.ref rd, .int nd, .ref rl, .int ldi, .int sot, .int tie, .int ff, .int ft]))]) (tc := [(K, .int)]) hG hS hA hK hP hD [1, 2] [0] [0] rfl rfl (by decide) (by decide) (by decide) rfl
  refine k_endi (As := [.ref rl, .int 0]) ct (k_runV (As := [.int 0]) (rest := []) S0 Lv_X3_77 rfl (ci := 4) (q0 := 0) rfl rfl ct (c_Row_at l D rl rlA (nI n) K 41 lf 0 (by first | assumption | decide) s.heap.size) hl.1 rfl (Nat.le_of_ble_eq_true rfl) rfl dX3_isLeftGuardRight_5 ⟨⟨Nat.le_of_ble_eq_true rfl, Nat.le_of_ble_eq_true rfl⟩, Nat.le_of_ble_eq_true rfl, Nat.le_of_ble_eq_true rfl⟩) rfl rfl (fun r_1 _ H locs hw_2 hP hD hK hS => ?_)
  have hK : va_K D vwCl [(K, .int)] s := hK
  have hP : va_P D vwCl [(re, .inr (3, [.ref rd, .int nd, .ref rl, .int ldi, .int sot, .int tie, .int ff, .int ft])), (rl, .inr (4, [.ref rlA, .int (nI n)])), (rlA, .inl (K, 41, .inl lf))] H := hP
  have hD : va_D A [(re, .inr (3, [.ref rd, .int nd, .ref rl, .int ldi, .int sot, .int tie, .int ff, .int ft])), (rl, .inr (4, [.ref rlA, .int (nI n)])), (rlA, .inl (K, 41, .inl lf))] := hD
  have hw_2 : r_1 = (rowAt 41 (nI n) lf 0) := hw_2
  have hw_2 := hw_2.symm
  subst hw_2
  refine k_nrm (y := (rowAt 41 (nI n) lf 0)) rfl ?_
  refine lv_aload_n hx hb dX3_isLeftGuardRight_8 rfl (lv_at hl 0 rfl) ?_
  refine va_get (D := D) (ci := 3) (v := .ref rl) (C := RX3) (T := TX3) (N := 8) hx hb ht inA_X3 hown hK hP 0 rfl rfl 2 (by decide) (ht _ lf_X3_20) (fun _ h9 => h9) rfl dX3_isLeftGuardRight_9 ?_
  refine lv_iconst (v := 1) hx hb dX3_isLeftGuardRight_12 (by decide) ?_
  have ct := k_cut_of (wc := [(rl, .inr (4, [.ref rlA, .int (nI n)])), (rlA, .inl (K, 41, .inl lf))]) (wr := [(re, .inr (3, [.ref rd, .int nd, .ref rl, .int ldi, .int sot, .int tie, .int ff, .int ft]))]) (tc := [(K, .int)]) hG hS hA hK hP hD [1, 2] [0] [0] rfl rfl (by decide) (by decide) (by decide) rfl
  refine k_endi (As := [.ref rl, .int 1]) ct (k_runV (As := [.int 1]) (rest := [.int (rowAt 41 (nI n) lf 0)]) S0 Lv_X3_77 rfl (ci := 4) (q0 := 0) rfl rfl ct (c_Row_at l D rl rlA (nI n) K 41 lf 1 (by first | assumption | decide) H.size) hl.1 rfl (Nat.le_of_ble_eq_true rfl) rfl dX3_isLeftGuardRight_13 ⟨⟨Nat.le_of_ble_eq_true rfl, Nat.le_of_ble_eq_true rfl⟩, Nat.le_of_ble_eq_true rfl, Nat.le_of_ble_eq_true rfl⟩) rfl rfl (fun r_3 _ H locs hw_4 hP hD hK hS => ?_)
  have hK : va_K D vwCl [(K, .int)] s := hK
  have hP : va_P D vwCl [(re, .inr (3, [.ref rd, .int nd, .ref rl, .int ldi, .int sot, .int tie, .int ff, .int ft])), (rl, .inr (4, [.ref rlA, .int (nI n)])), (rlA, .inl (K, 41, .inl lf))] H := hP
  have hD : va_D A [(re, .inr (3, [.ref rd, .int nd, .ref rl, .int ldi, .int sot, .int tie, .int ff, .int ft])), (rl, .inr (4, [.ref rlA, .int (nI n)])), (rlA, .inl (K, 41, .inl lf))] := hD
  have hw_4 : r_3 = (rowAt 41 (nI n) lf 1) := hw_4
  have hw_4 := hw_4.symm
  subst hw_4
  refine k_nrm (y := (rowAt 41 (nI n) lf 1)) rfl ?_
  refine lv_aload_n hx hb dX3_isLeftGuardRight_16 rfl (lv_at hl 0 rfl) ?_
  refine va_get (D := D) (ci := 3) (v := .ref rl) (C := RX3) (T := TX3) (N := 8) hx hb ht inA_X3 hown hK hP 0 rfl rfl 2 (by decide) (ht _ lf_X3_20) (fun _ h9 => h9) rfl dX3_isLeftGuardRight_17 ?_
  refine lv_iconst (v := 2) hx hb dX3_isLeftGuardRight_20 (by decide) ?_
  have ct := k_cut_of (wc := [(rl, .inr (4, [.ref rlA, .int (nI n)])), (rlA, .inl (K, 41, .inl lf))]) (wr := [(re, .inr (3, [.ref rd, .int nd, .ref rl, .int ldi, .int sot, .int tie, .int ff, .int ft]))]) (tc := [(K, .int)]) hG hS hA hK hP hD [1, 2] [0] [0] rfl rfl (by decide) (by decide) (by decide) rfl
  refine k_endi (As := [.ref rl, .int 2]) ct (k_runV (As := [.int 2]) (rest := [.int (rowAt 41 (nI n) lf 1), .int (rowAt 41 (nI n) lf 0)]) S0 Lv_X3_77 rfl (ci := 4) (q0 := 0) rfl rfl ct (c_Row_at l D rl rlA (nI n) K 41 lf 2 (by first | assumption | decide) H.size) hl.1 rfl (Nat.le_of_ble_eq_true rfl) rfl dX3_isLeftGuardRight_21 ⟨⟨Nat.le_of_ble_eq_true rfl, Nat.le_of_ble_eq_true rfl⟩, Nat.le_of_ble_eq_true rfl, Nat.le_of_ble_eq_true rfl⟩) rfl rfl (fun r_5 _ H locs hw_6 hP hD hK hS => ?_)
  have hK : va_K D vwCl [(K, .int)] s := hK
  have hP : va_P D vwCl [(re, .inr (3, [.ref rd, .int nd, .ref rl, .int ldi, .int sot, .int tie, .int ff, .int ft])), (rl, .inr (4, [.ref rlA, .int (nI n)])), (rlA, .inl (K, 41, .inl lf))] H := hP
  have hD : va_D A [(re, .inr (3, [.ref rd, .int nd, .ref rl, .int ldi, .int sot, .int tie, .int ff, .int ft])), (rl, .inr (4, [.ref rlA, .int (nI n)])), (rlA, .inl (K, 41, .inl lf))] := hD
  have hw_6 : r_5 = (rowAt 41 (nI n) lf 2) := hw_6
  have hw_6 := hw_6.symm
  subst hw_6
  refine k_nrm (y := (rowAt 41 (nI n) lf 2)) rfl ?_
  refine va_mmax hx hb (by rw [hml]; exact hl.1.symm) hown (ht _ lM_X3_27) (ht _ lM_st_max) (ht _ li_java_lang_Math) (ht _ lM_code_max) (Nat.le_of_ble_eq_true rfl) (Nat.le_of_ble_eq_true rfl) (Nat.le_of_ble_eq_true rfl) (Nat.le_of_ble_eq_true rfl) dX3_isLeftGuardRight_24 ?_
  refine k_nrm (y := (mxI (rowAt 41 (nI n) lf 1) (rowAt 41 (nI n) lf 2))) (rfl) ?_
  refine va_mmax hx hb (by rw [hml]; exact hl.1.symm) hown (ht _ lM_X3_27) (ht _ lM_st_max) (ht _ li_java_lang_Math) (ht _ lM_code_max) (Nat.le_of_ble_eq_true rfl) (Nat.le_of_ble_eq_true rfl) (Nat.le_of_ble_eq_true rfl) (Nat.le_of_ble_eq_true rfl) dX3_isLeftGuardRight_27 ?_
  refine k_nrm (y := (mxI (rowAt 41 (nI n) lf 0) (mxI (rowAt 41 (nI n) lf 1) (rowAt 41 (nI n) lf 2)))) (rfl) ?_
  refine lv_istore_n (lv' := [(1, .int (mxI (rowAt 41 (nI n) lf 0) (mxI (rowAt 41 (nI n) lf 1) (rowAt 41 (nI n) lf 2)))), (0, .ref re)]) hx hb dX3_isLeftGuardRight_30 rfl hl (by decide) rfl (fun ls hl => ?_)
  refine lv_aload_n hx hb dX3_isLeftGuardRight_31 rfl (lv_at hl 1 rfl) ?_
  refine va_get (D := D) (ci := 3) (v := .ref rl) (C := RX3) (T := TX3) (N := 8) hx hb ht inA_X3 hown hK hP 0 rfl rfl 2 (by decide) (ht _ lf_X3_20) (fun _ h9 => h9) rfl dX3_isLeftGuardRight_32 ?_
  refine lv_iconst (v := 0) hx hb dX3_isLeftGuardRight_35 (by decide) ?_
  have ct := k_cut_of (wc := [(rl, .inr (4, [.ref rlA, .int (nI n)])), (rlA, .inl (K, 41, .inl lf))]) (wr := [(re, .inr (3, [.ref rd, .int nd, .ref rl, .int ldi, .int sot, .int tie, .int ff, .int ft]))]) (tc := [(K, .int)]) hG hS hA hK hP hD [1, 2] [0] [0] rfl rfl (by decide) (by decide) (by decide) rfl
  refine k_endi (As := [.ref rl, .int 0]) ct (k_runV (As := [.int 0]) (rest := []) S0 Lv_X3_77 rfl (ci := 4) (q0 := 0) rfl rfl ct (c_Row_at l D rl rlA (nI n) K 41 lf 0 (by first | assumption | decide) H.size) hl.1 rfl (Nat.le_of_ble_eq_true rfl) rfl dX3_isLeftGuardRight_36 ⟨⟨Nat.le_of_ble_eq_true rfl, Nat.le_of_ble_eq_true rfl⟩, Nat.le_of_ble_eq_true rfl, Nat.le_of_ble_eq_true rfl⟩) rfl rfl (fun r_7 _ H locs hw_8 hP hD hK hS => ?_)
  have hK : va_K D vwCl [(K, .int)] s := hK
  have hP : va_P D vwCl [(re, .inr (3, [.ref rd, .int nd, .ref rl, .int ldi, .int sot, .int tie, .int ff, .int ft])), (rl, .inr (4, [.ref rlA, .int (nI n)])), (rlA, .inl (K, 41, .inl lf))] H := hP
  have hD : va_D A [(re, .inr (3, [.ref rd, .int nd, .ref rl, .int ldi, .int sot, .int tie, .int ff, .int ft])), (rl, .inr (4, [.ref rlA, .int (nI n)])), (rlA, .inl (K, 41, .inl lf))] := hD
  have hw_8 : r_7 = (rowAt 41 (nI n) lf 0) := hw_8
  have hw_8 := hw_8.symm
  subst hw_8
  refine k_nrm (y := (rowAt 41 (nI n) lf 0)) rfl ?_
  refine lv_aload_n hx hb dX3_isLeftGuardRight_39 rfl (lv_at hl 1 rfl) ?_
  refine va_get (D := D) (ci := 3) (v := .ref rl) (C := RX3) (T := TX3) (N := 8) hx hb ht inA_X3 hown hK hP 0 rfl rfl 2 (by decide) (ht _ lf_X3_20) (fun _ h9 => h9) rfl dX3_isLeftGuardRight_40 ?_
  refine lv_iconst (v := 1) hx hb dX3_isLeftGuardRight_43 (by decide) ?_
  have ct := k_cut_of (wc := [(rl, .inr (4, [.ref rlA, .int (nI n)])), (rlA, .inl (K, 41, .inl lf))]) (wr := [(re, .inr (3, [.ref rd, .int nd, .ref rl, .int ldi, .int sot, .int tie, .int ff, .int ft]))]) (tc := [(K, .int)]) hG hS hA hK hP hD [1, 2] [0] [0] rfl rfl (by decide) (by decide) (by decide) rfl
  refine k_endi (As := [.ref rl, .int 1]) ct (k_runV (As := [.int 1]) (rest := [.int (rowAt 41 (nI n) lf 0)]) S0 Lv_X3_77 rfl (ci := 4) (q0 := 0) rfl rfl ct (c_Row_at l D rl rlA (nI n) K 41 lf 1 (by first | assumption | decide) H.size) hl.1 rfl (Nat.le_of_ble_eq_true rfl) rfl dX3_isLeftGuardRight_44 ⟨⟨Nat.le_of_ble_eq_true rfl, Nat.le_of_ble_eq_true rfl⟩, Nat.le_of_ble_eq_true rfl, Nat.le_of_ble_eq_true rfl⟩) rfl rfl (fun r_9 _ H locs hw_10 hP hD hK hS => ?_)
  have hK : va_K D vwCl [(K, .int)] s := hK
  have hP : va_P D vwCl [(re, .inr (3, [.ref rd, .int nd, .ref rl, .int ldi, .int sot, .int tie, .int ff, .int ft])), (rl, .inr (4, [.ref rlA, .int (nI n)])), (rlA, .inl (K, 41, .inl lf))] H := hP
  have hD : va_D A [(re, .inr (3, [.ref rd, .int nd, .ref rl, .int ldi, .int sot, .int tie, .int ff, .int ft])), (rl, .inr (4, [.ref rlA, .int (nI n)])), (rlA, .inl (K, 41, .inl lf))] := hD
  have hw_10 : r_9 = (rowAt 41 (nI n) lf 1) := hw_10
  have hw_10 := hw_10.symm
  subst hw_10
  refine k_nrm (y := (rowAt 41 (nI n) lf 1)) rfl ?_
  refine lv_aload_n hx hb dX3_isLeftGuardRight_47 rfl (lv_at hl 1 rfl) ?_
  refine va_get (D := D) (ci := 3) (v := .ref rl) (C := RX3) (T := TX3) (N := 8) hx hb ht inA_X3 hown hK hP 0 rfl rfl 2 (by decide) (ht _ lf_X3_20) (fun _ h9 => h9) rfl dX3_isLeftGuardRight_48 ?_
  refine lv_iconst (v := 2) hx hb dX3_isLeftGuardRight_51 (by decide) ?_
  have ct := k_cut_of (wc := [(rl, .inr (4, [.ref rlA, .int (nI n)])), (rlA, .inl (K, 41, .inl lf))]) (wr := [(re, .inr (3, [.ref rd, .int nd, .ref rl, .int ldi, .int sot, .int tie, .int ff, .int ft]))]) (tc := [(K, .int)]) hG hS hA hK hP hD [1, 2] [0] [0] rfl rfl (by decide) (by decide) (by decide) rfl
  refine k_endi (As := [.ref rl, .int 2]) ct (k_runV (As := [.int 2]) (rest := [.int (rowAt 41 (nI n) lf 1), .int (rowAt 41 (nI n) lf 0)]) S0 Lv_X3_77 rfl (ci := 4) (q0 := 0) rfl rfl ct (c_Row_at l D rl rlA (nI n) K 41 lf 2 (by first | assumption | decide) H.size) hl.1 rfl (Nat.le_of_ble_eq_true rfl) rfl dX3_isLeftGuardRight_52 ⟨⟨Nat.le_of_ble_eq_true rfl, Nat.le_of_ble_eq_true rfl⟩, Nat.le_of_ble_eq_true rfl, Nat.le_of_ble_eq_true rfl⟩) rfl rfl (fun r_11 _ H locs hw_12 hP hD hK hS => ?_)
  have hK : va_K D vwCl [(K, .int)] s := hK
  have hP : va_P D vwCl [(re, .inr (3, [.ref rd, .int nd, .ref rl, .int ldi, .int sot, .int tie, .int ff, .int ft])), (rl, .inr (4, [.ref rlA, .int (nI n)])), (rlA, .inl (K, 41, .inl lf))] H := hP
  have hD : va_D A [(re, .inr (3, [.ref rd, .int nd, .ref rl, .int ldi, .int sot, .int tie, .int ff, .int ft])), (rl, .inr (4, [.ref rlA, .int (nI n)])), (rlA, .inl (K, 41, .inl lf))] := hD
  have hw_12 : r_11 = (rowAt 41 (nI n) lf 2) := hw_12
  have hw_12 := hw_12.symm
  subst hw_12
  refine k_nrm (y := (rowAt 41 (nI n) lf 2)) rfl ?_
  refine va_mmin hx hb (by rw [hml]; exact hl.1.symm) hown (ht _ lM_X3_100) (ht _ lM_st_min) (ht _ li_java_lang_Math) (ht _ lM_code_min) (Nat.le_of_ble_eq_true rfl) (Nat.le_of_ble_eq_true rfl) (Nat.le_of_ble_eq_true rfl) (Nat.le_of_ble_eq_true rfl) dX3_isLeftGuardRight_55 ?_
  refine k_nrm (y := (mnI (rowAt 41 (nI n) lf 1) (rowAt 41 (nI n) lf 2))) (rfl) ?_
  refine va_mmin hx hb (by rw [hml]; exact hl.1.symm) hown (ht _ lM_X3_100) (ht _ lM_st_min) (ht _ li_java_lang_Math) (ht _ lM_code_min) (Nat.le_of_ble_eq_true rfl) (Nat.le_of_ble_eq_true rfl) (Nat.le_of_ble_eq_true rfl) (Nat.le_of_ble_eq_true rfl) dX3_isLeftGuardRight_58 ?_
  refine k_nrm (y := (mnI (rowAt 41 (nI n) lf 0) (mnI (rowAt 41 (nI n) lf 1) (rowAt 41 (nI n) lf 2)))) (rfl) ?_
  refine lv_istore_n (lv' := [(2, .int (mnI (rowAt 41 (nI n) lf 0) (mnI (rowAt 41 (nI n) lf 1) (rowAt 41 (nI n) lf 2)))), (1, .int (mxI (rowAt 41 (nI n) lf 0) (mxI (rowAt 41 (nI n) lf 1) (rowAt 41 (nI n) lf 2)))), (0, .ref re)]) hx hb dX3_isLeftGuardRight_61 rfl hl (by decide) rfl (fun ls hl => ?_)
  refine lv_iconst (v := 2) hx hb dX3_isLeftGuardRight_62 (by decide) ?_
  refine lv_iload_n hx hb dX3_isLeftGuardRight_63 rfl (lv_at hl 1 rfl) ?_
  refine lv_imul hx hb dX3_isLeftGuardRight_64 ?_
  refine k_nrm (y := (2 * (mxI (rowAt 41 (nI n) lf 0) (mxI (rowAt 41 (nI n) lf 1) (rowAt 41 (nI n) lf 2))))) (rfl) ?_
  refine lv_iconst (v := 3) hx hb dX3_isLeftGuardRight_65 (by decide) ?_
  refine lv_iload_n hx hb dX3_isLeftGuardRight_66 rfl (lv_at hl 0 rfl) ?_
  refine lv_imul hx hb dX3_isLeftGuardRight_67 ?_
  refine k_nrm (y := (3 * (mnI (rowAt 41 (nI n) lf 0) (mnI (rowAt 41 (nI n) lf 1) (rowAt 41 (nI n) lf 2))))) (rfl) ?_
  refine lv_icmp_ge (tgt := 75) hx hb dX3_isLeftGuardRight_68 (by decide) (fun c_13 => ?_) (fun c_13 => ?_)
  · have hc9 := c_13
    refine lv_iconst (v := 0) hx hb dX3_isLeftGuardRight_75 (by decide) ?_
    have hP9 : va_P D vwCl [(re, .inr (3, [.ref rd, .int nd, .ref rl, .int ldi, .int sot, .int tie, .int ff, .int ft])), (rl, .inr (4, [.ref rlA, .int (nI n)])), (rlA, .inl (K, 41, .inl lf))] H := hP.sub [0, 1, 2] rfl
    have hD9 : va_D A [(re, .inr (3, [.ref rd, .int nd, .ref rl, .int ldi, .int sot, .int tie, .int ff, .int ft])), (rl, .inr (4, [.ref rlA, .int (nI n)])), (rlA, .inl (K, 41, .inl lf))] := hD.sub [0, 1, 2] (by decide) rfl
    have hK9 : va_K D vwCl [] s := hK.sub [] rfl
    exact W.zret (v := 0) hx hb hr (rfl) (fun t ht9 hW9 => ⟨⟨0, (), rfl, by (unfold lgF; rw [if_pos c_13]), ⟨by rw [ht9]; exact hP9, va_K.moved hW9.alike hK9, hD9⟩⟩, hS.F ht9⟩) hS.2.2 dX3_isLeftGuardRight_76
  · have hc9 := c_13
    refine lv_iconst (v := 1) hx hb dX3_isLeftGuardRight_71 (by decide) ?_
    refine lv_goto (tgt := 76) hx hb dX3_isLeftGuardRight_72 (by decide) ?_
    have hP9 : va_P D vwCl [(re, .inr (3, [.ref rd, .int nd, .ref rl, .int ldi, .int sot, .int tie, .int ff, .int ft])), (rl, .inr (4, [.ref rlA, .int (nI n)])), (rlA, .inl (K, 41, .inl lf))] H := hP.sub [0, 1, 2] rfl
    have hD9 : va_D A [(re, .inr (3, [.ref rd, .int nd, .ref rl, .int ldi, .int sot, .int tie, .int ff, .int ft])), (rl, .inr (4, [.ref rlA, .int (nI n)])), (rlA, .inl (K, 41, .inl lf))] := hD.sub [0, 1, 2] (by decide) rfl
    have hK9 : va_K D vwCl [] s := hK.sub [] rfl
    exact W.zret (v := 1) hx hb hr (rfl) (fun t ht9 hW9 => ⟨⟨1, (), rfl, by (unfold lgF; rw [if_neg c_13]), ⟨by rw [ht9]; exact hP9, va_K.moved hW9.alike hK9, hD9⟩⟩, hS.F ht9⟩) hS.2.2 dX3_isLeftGuardRight_76
set_option maxHeartbeats 4000000 in
set_option maxRecDepth 100000 in
theorem c_rightGuard (l : Launch) (D : va_G) (re : Nat) (rd : Nat) (nd : Int32) (rl : Nat) (ldi : Int32) (sot : Int32) (tie : Int32) (ff : Int32) (ft : Int32) (rlA : Nat) (n : Nat) (K : ClassId) (lf : Nat → Int32) (hn : n ≤ 41) (sz : Nat) : k_Mi (S := Unit) l D yX3_isRightGuardRight cX3_isRightGuardRight 3 (some .boolean) 1 0 0 21 [.ref re] [(re, .inr (3, [.ref rd, .int nd, .ref rl, .int ldi, .int sot, .int tie, .int ff, .int ft])), (rl, .inr (4, [.ref rlA, .int (nI n)])), (rlA, .inl (K, 41, .inl lf))] [(K, .int)] (fun (r : Int32) (_ : Unit) => r = (rgF (rowAt 41 (nI n) lf (nI n - 2)) (rowAt 41 (nI n) lf (nI n - 1)))) (fun _ => [(re, .inr (3, [.ref rd, .int nd, .ref rl, .int ldi, .int sot, .int tie, .int ff, .int ft])), (rl, .inr (4, [.ref rlA, .int (nI n)])), (rlA, .inl (K, 41, .inl lf))]) (fun _ => []) sz := by
  refine Met.ofW (cc := cX3_isRightGuardRight) (maxL := 3) (ret := (some .boolean)) (by decide) rfl ?_
  intro p e s m args below meth c s₁ B hml hv
  obtain ⟨rfl, hsz, hP, hK, hD0, hG⟩ := hv
  have hx := B.exec
  have hb := B.bytes
  have hr := B.returns
  have ht : ∀ v9 ∈ wsA, v9.before ([.ref re] : List Value).toArray s = true := fun v9 h9 => atoms_spec (ws := k_ws yX3_isRightGuardRight cX3_isRightGuardRight 3 (some .boolean)) B.pre v9 (List.mem_cons_of_mem _ h9)
  have hown : s.vm.findClass RX3 = some m.cls := findClass_of_methodNamed B.named
  have S0 : k_C p s m ([.ref re] : List Value).toArray c cX3_isRightGuardRight 3 RX3 := ⟨hx, hb, hml, hown, ht⟩
  have hlocks := B.notSynchronized
  subst hsz
  have hD := hD0.self (sz := s.heap.size)
  generalize hAe : va_A [(re, .inr (3, [.ref rd, .int nd, .ref rl, .int ldi, .int sot, .int tie, .int ff, .int ft])), (rl, .inr (4, [.ref rlA, .int (nI n)])), (rlA, .inl (K, 41, .inl lf))] s.heap.size = A at hD hG ⊢
  have hA : ∀ q : Nat, s.heap.size ≤ q → A q := fun q h => by rw [← hAe]; exact Or.inr h
  have hS : va_S A s.heap s.heap [] := va_S.rf
  have hl := lv_entry ([.ref re]) (n := 3) (Nat.le_of_ble_eq_true rfl)
  rw [lg_entry_eq]
  generalize (lg_sl ([.ref re]) ++ List.replicate (3 - (lg_sl ([.ref re])).length) Slot.unset).toArray = ls at hl ⊢
  have hl : lv_has ls 3 [(0, .ref re)] := hl
  have hP : va_P D vwCl [(re, .inr (3, [.ref rd, .int nd, .ref rl, .int ldi, .int sot, .int tie, .int ff, .int ft])), (rl, .inr (4, [.ref rlA, .int (nI n)])), (rlA, .inl (K, 41, .inl lf))] s.heap := hP
  refine lv_aload_n hx hb dX3_isRightGuardRight_0 rfl (lv_at hl 0 rfl) ?_
  refine va_get (D := D) (ci := 3) (v := .ref rl) (C := RX3) (T := TX3) (N := 8) hx hb ht inA_X3 hown hK hP 0 rfl rfl 2 (by decide) (ht _ lf_X3_20) (fun _ h9 => h9) rfl dX3_isRightGuardRight_1 ?_
  refine lv_aload_n hx hb dX3_isRightGuardRight_4 rfl (lv_at hl 0 rfl) ?_
  refine va_get (D := D) (ci := 3) (v := .ref rl) (C := RX3) (T := TX3) (N := 8) hx hb ht inA_X3 hown hK hP 0 rfl rfl 2 (by decide) (ht _ lf_X3_20) (fun _ h9 => h9) rfl dX3_isRightGuardRight_5 ?_
  have ct := k_cut_of (wc := [(rl, .inr (4, [.ref rlA, .int (nI n)]))]) (wr := [(re, .inr (3, [.ref rd, .int nd, .ref rl, .int ldi, .int sot, .int tie, .int ff, .int ft])), (rlA, .inl (K, 41, .inl lf))]) (tc := []) hG hS hA hK hP hD [1] [0, 2] [] rfl rfl (by decide) (by decide) (by decide) rfl
  refine k_endi (As := [.ref rl]) ct (k_runV (As := []) (rest := [.ref rl]) S0 Lv_X3_37 rfl (ci := 4) (q0 := 0) rfl rfl ct (c_Row_size l D rl rlA (nI n) s.heap.size) hl.1 rfl (Nat.le_of_ble_eq_true rfl) rfl dX3_isRightGuardRight_8 ⟨⟨Nat.le_of_ble_eq_true rfl, Nat.le_of_ble_eq_true rfl⟩, Nat.le_of_ble_eq_true rfl, Nat.le_of_ble_eq_true rfl⟩) rfl rfl (fun r_1 _ H locs hw_2 hP hD hK hS => ?_)
  have hK : va_K D vwCl [(K, .int)] s := hK
  have hP : va_P D vwCl [(re, .inr (3, [.ref rd, .int nd, .ref rl, .int ldi, .int sot, .int tie, .int ff, .int ft])), (rlA, .inl (K, 41, .inl lf)), (rl, .inr (4, [.ref rlA, .int (nI n)]))] H := hP
  have hD : va_D A [(re, .inr (3, [.ref rd, .int nd, .ref rl, .int ldi, .int sot, .int tie, .int ff, .int ft])), (rlA, .inl (K, 41, .inl lf)), (rl, .inr (4, [.ref rlA, .int (nI n)]))] := hD
  have hw_2 : r_1 = (nI n) := hw_2
  have hw_2 := hw_2.symm
  subst hw_2
  refine k_nrm (y := (nI n)) rfl ?_
  refine lv_iconst (v := 2) hx hb dX3_isRightGuardRight_11 (by decide) ?_
  refine lv_isub hx hb dX3_isRightGuardRight_12 ?_
  refine k_nrm (y := (nI n - 2)) (rfl) ?_
  have ct := k_cut_of (wc := [(rl, .inr (4, [.ref rlA, .int (nI n)])), (rlA, .inl (K, 41, .inl lf))]) (wr := [(re, .inr (3, [.ref rd, .int nd, .ref rl, .int ldi, .int sot, .int tie, .int ff, .int ft]))]) (tc := [(K, .int)]) hG hS hA hK hP hD [2, 1] [0] [0] rfl rfl (by decide) (by decide) (by decide) rfl
  refine k_endi (As := [.ref rl, .int (nI n - 2)]) ct (k_runV (As := [.int (nI n - 2)]) (rest := []) S0 Lv_X3_77 rfl (ci := 4) (q0 := 0) rfl rfl ct (c_Row_at l D rl rlA (nI n) K 41 lf (nI n - 2) (by first | assumption | decide) H.size) hl.1 rfl (Nat.le_of_ble_eq_true rfl) rfl dX3_isRightGuardRight_13 ⟨⟨Nat.le_of_ble_eq_true rfl, Nat.le_of_ble_eq_true rfl⟩, Nat.le_of_ble_eq_true rfl, Nat.le_of_ble_eq_true rfl⟩) rfl rfl (fun r_3 _ H locs hw_4 hP hD hK hS => ?_)
  have hK : va_K D vwCl [(K, .int)] s := hK
  have hP : va_P D vwCl [(re, .inr (3, [.ref rd, .int nd, .ref rl, .int ldi, .int sot, .int tie, .int ff, .int ft])), (rl, .inr (4, [.ref rlA, .int (nI n)])), (rlA, .inl (K, 41, .inl lf))] H := hP
  have hD : va_D A [(re, .inr (3, [.ref rd, .int nd, .ref rl, .int ldi, .int sot, .int tie, .int ff, .int ft])), (rl, .inr (4, [.ref rlA, .int (nI n)])), (rlA, .inl (K, 41, .inl lf))] := hD
  have hw_4 : r_3 = (rowAt 41 (nI n) lf (nI n - 2)) := hw_4
  have hw_4 := hw_4.symm
  subst hw_4
  refine k_nrm (y := (rowAt 41 (nI n) lf (nI n - 2))) rfl ?_
  refine lv_istore_n (lv' := [(1, .int (rowAt 41 (nI n) lf (nI n - 2))), (0, .ref re)]) hx hb dX3_isRightGuardRight_16 rfl hl (by decide) rfl (fun ls hl => ?_)
  refine lv_aload_n hx hb dX3_isRightGuardRight_17 rfl (lv_at hl 1 rfl) ?_
  refine va_get (D := D) (ci := 3) (v := .ref rl) (C := RX3) (T := TX3) (N := 8) hx hb ht inA_X3 hown hK hP 0 rfl rfl 2 (by decide) (ht _ lf_X3_20) (fun _ h9 => h9) rfl dX3_isRightGuardRight_18 ?_
  refine lv_aload_n hx hb dX3_isRightGuardRight_21 rfl (lv_at hl 1 rfl) ?_
  refine va_get (D := D) (ci := 3) (v := .ref rl) (C := RX3) (T := TX3) (N := 8) hx hb ht inA_X3 hown hK hP 0 rfl rfl 2 (by decide) (ht _ lf_X3_20) (fun _ h9 => h9) rfl dX3_isRightGuardRight_22 ?_
  have ct := k_cut_of (wc := [(rl, .inr (4, [.ref rlA, .int (nI n)]))]) (wr := [(re, .inr (3, [.ref rd, .int nd, .ref rl, .int ldi, .int sot, .int tie, .int ff, .int ft])), (rlA, .inl (K, 41, .inl lf))]) (tc := []) hG hS hA hK hP hD [1] [0, 2] [] rfl rfl (by decide) (by decide) (by decide) rfl
  refine k_endi (As := [.ref rl]) ct (k_runV (As := []) (rest := [.ref rl]) S0 Lv_X3_37 rfl (ci := 4) (q0 := 0) rfl rfl ct (c_Row_size l D rl rlA (nI n) H.size) hl.1 rfl (Nat.le_of_ble_eq_true rfl) rfl dX3_isRightGuardRight_25 ⟨⟨Nat.le_of_ble_eq_true rfl, Nat.le_of_ble_eq_true rfl⟩, Nat.le_of_ble_eq_true rfl, Nat.le_of_ble_eq_true rfl⟩) rfl rfl (fun r_5 _ H locs hw_6 hP hD hK hS => ?_)
  have hK : va_K D vwCl [(K, .int)] s := hK
  have hP : va_P D vwCl [(re, .inr (3, [.ref rd, .int nd, .ref rl, .int ldi, .int sot, .int tie, .int ff, .int ft])), (rlA, .inl (K, 41, .inl lf)), (rl, .inr (4, [.ref rlA, .int (nI n)]))] H := hP
  have hD : va_D A [(re, .inr (3, [.ref rd, .int nd, .ref rl, .int ldi, .int sot, .int tie, .int ff, .int ft])), (rlA, .inl (K, 41, .inl lf)), (rl, .inr (4, [.ref rlA, .int (nI n)]))] := hD
  have hw_6 : r_5 = (nI n) := hw_6
  have hw_6 := hw_6.symm
  subst hw_6
  refine k_nrm (y := (nI n)) rfl ?_
  refine lv_iconst (v := 1) hx hb dX3_isRightGuardRight_28 (by decide) ?_
  refine lv_isub hx hb dX3_isRightGuardRight_29 ?_
  refine k_nrm (y := (nI n - 1)) (rfl) ?_
  have ct := k_cut_of (wc := [(rl, .inr (4, [.ref rlA, .int (nI n)])), (rlA, .inl (K, 41, .inl lf))]) (wr := [(re, .inr (3, [.ref rd, .int nd, .ref rl, .int ldi, .int sot, .int tie, .int ff, .int ft]))]) (tc := [(K, .int)]) hG hS hA hK hP hD [2, 1] [0] [0] rfl rfl (by decide) (by decide) (by decide) rfl
  refine k_endi (As := [.ref rl, .int (nI n - 1)]) ct (k_runV (As := [.int (nI n - 1)]) (rest := []) S0 Lv_X3_77 rfl (ci := 4) (q0 := 0) rfl rfl ct (c_Row_at l D rl rlA (nI n) K 41 lf (nI n - 1) (by first | assumption | decide) H.size) hl.1 rfl (Nat.le_of_ble_eq_true rfl) rfl dX3_isRightGuardRight_30 ⟨⟨Nat.le_of_ble_eq_true rfl, Nat.le_of_ble_eq_true rfl⟩, Nat.le_of_ble_eq_true rfl, Nat.le_of_ble_eq_true rfl⟩) rfl rfl (fun r_7 _ H locs hw_8 hP hD hK hS => ?_)
  have hK : va_K D vwCl [(K, .int)] s := hK
  have hP : va_P D vwCl [(re, .inr (3, [.ref rd, .int nd, .ref rl, .int ldi, .int sot, .int tie, .int ff, .int ft])), (rl, .inr (4, [.ref rlA, .int (nI n)])), (rlA, .inl (K, 41, .inl lf))] H := hP
  have hD : va_D A [(re, .inr (3, [.ref rd, .int nd, .ref rl, .int ldi, .int sot, .int tie, .int ff, .int ft])), (rl, .inr (4, [.ref rlA, .int (nI n)])), (rlA, .inl (K, 41, .inl lf))] := hD
  have hw_8 : r_7 = (rowAt 41 (nI n) lf (nI n - 1)) := hw_8
  have hw_8 := hw_8.symm
  subst hw_8
  refine k_nrm (y := (rowAt 41 (nI n) lf (nI n - 1))) rfl ?_
  refine lv_istore_n (lv' := [(2, .int (rowAt 41 (nI n) lf (nI n - 1))), (1, .int (rowAt 41 (nI n) lf (nI n - 2))), (0, .ref re)]) hx hb dX3_isRightGuardRight_33 rfl hl (by decide) rfl (fun ls hl => ?_)
  refine lv_iconst (v := 2) hx hb dX3_isRightGuardRight_34 (by decide) ?_
  refine lv_iload_n hx hb dX3_isRightGuardRight_35 rfl (lv_at hl 0 rfl) ?_
  refine lv_imul hx hb dX3_isRightGuardRight_36 ?_
  refine k_nrm (y := (2 * (rowAt 41 (nI n) lf (nI n - 1)))) (rfl) ?_
  refine lv_iconst (v := 3) hx hb dX3_isRightGuardRight_37 (by decide) ?_
  refine lv_iload_n hx hb dX3_isRightGuardRight_38 rfl (lv_at hl 1 rfl) ?_
  refine lv_imul hx hb dX3_isRightGuardRight_39 ?_
  refine k_nrm (y := (3 * (rowAt 41 (nI n) lf (nI n - 2)))) (rfl) ?_
  refine lv_icmp_le (tgt := 54) hx hb dX3_isRightGuardRight_40 (by decide) (fun c_9 => ?_) (fun c_9 => ?_)
  · have hc9 := c_9
    refine lv_iconst (v := 0) hx hb dX3_isRightGuardRight_54 (by decide) ?_
    have hP9 : va_P D vwCl [(re, .inr (3, [.ref rd, .int nd, .ref rl, .int ldi, .int sot, .int tie, .int ff, .int ft])), (rl, .inr (4, [.ref rlA, .int (nI n)])), (rlA, .inl (K, 41, .inl lf))] H := hP.sub [0, 1, 2] rfl
    have hD9 : va_D A [(re, .inr (3, [.ref rd, .int nd, .ref rl, .int ldi, .int sot, .int tie, .int ff, .int ft])), (rl, .inr (4, [.ref rlA, .int (nI n)])), (rlA, .inl (K, 41, .inl lf))] := hD.sub [0, 1, 2] (by decide) rfl
    have hK9 : va_K D vwCl [] s := hK.sub [] rfl
    exact W.zret (v := 0) hx hb hr (rfl) (fun t ht9 hW9 => ⟨⟨0, (), rfl, by (unfold rgF; rw [if_pos c_9]), ⟨by rw [ht9]; exact hP9, va_K.moved hW9.alike hK9, hD9⟩⟩, hS.F ht9⟩) hS.2.2 dX3_isRightGuardRight_55
  · have hc9 := c_9
    refine lv_iload_n hx hb dX3_isRightGuardRight_43 rfl (lv_at hl 0 rfl) ?_
    refine lv_iconst (v := 3) hx hb dX3_isRightGuardRight_44 (by decide) ?_
    refine lv_iload_n hx hb dX3_isRightGuardRight_45 rfl (lv_at hl 1 rfl) ?_
    refine lv_imul hx hb dX3_isRightGuardRight_46 ?_
    refine k_nrm (y := (3 * (rowAt 41 (nI n) lf (nI n - 2)))) (rfl) ?_
    refine lv_icmp_ge (tgt := 54) hx hb dX3_isRightGuardRight_47 (by decide) (fun c_10 => ?_) (fun c_10 => ?_)
    · have hc9 := c_10
      refine lv_iconst (v := 0) hx hb dX3_isRightGuardRight_54 (by decide) ?_
      have hP9 : va_P D vwCl [(re, .inr (3, [.ref rd, .int nd, .ref rl, .int ldi, .int sot, .int tie, .int ff, .int ft])), (rl, .inr (4, [.ref rlA, .int (nI n)])), (rlA, .inl (K, 41, .inl lf))] H := hP.sub [0, 1, 2] rfl
      have hD9 : va_D A [(re, .inr (3, [.ref rd, .int nd, .ref rl, .int ldi, .int sot, .int tie, .int ff, .int ft])), (rl, .inr (4, [.ref rlA, .int (nI n)])), (rlA, .inl (K, 41, .inl lf))] := hD.sub [0, 1, 2] (by decide) rfl
      have hK9 : va_K D vwCl [] s := hK.sub [] rfl
      exact W.zret (v := 0) hx hb hr (rfl) (fun t ht9 hW9 => ⟨⟨0, (), rfl, by (unfold rgF; rw [if_neg c_9, if_pos c_10]), ⟨by rw [ht9]; exact hP9, va_K.moved hW9.alike hK9, hD9⟩⟩, hS.F ht9⟩) hS.2.2 dX3_isRightGuardRight_55
    · have hc9 := c_10
      refine lv_iconst (v := 1) hx hb dX3_isRightGuardRight_50 (by decide) ?_
      refine lv_goto (tgt := 55) hx hb dX3_isRightGuardRight_51 (by decide) ?_
      have hP9 : va_P D vwCl [(re, .inr (3, [.ref rd, .int nd, .ref rl, .int ldi, .int sot, .int tie, .int ff, .int ft])), (rl, .inr (4, [.ref rlA, .int (nI n)])), (rlA, .inl (K, 41, .inl lf))] H := hP.sub [0, 1, 2] rfl
      have hD9 : va_D A [(re, .inr (3, [.ref rd, .int nd, .ref rl, .int ldi, .int sot, .int tie, .int ff, .int ft])), (rl, .inr (4, [.ref rlA, .int (nI n)])), (rlA, .inl (K, 41, .inl lf))] := hD.sub [0, 1, 2] (by decide) rfl
      have hK9 : va_K D vwCl [] s := hK.sub [] rfl
      exact W.zret (v := 1) hx hb hr (rfl) (fun t ht9 hW9 => ⟨⟨1, (), rfl, by (unfold rgF; rw [if_neg c_9, if_neg c_10]), ⟨by rw [ht9]; exact hP9, va_K.moved hW9.alike hK9, hD9⟩⟩, hS.F ht9⟩) hS.2.2 dX3_isRightGuardRight_55
