set_option maxRecDepth 20000 in
theorem Lv_X7_79 : k_LV RX7 79 yX4_at cX4_at 2 (some .int) 1 := ⟨mA 331 rfl rfl, lm_X4_at, le_X4_at, li_BarcodeWand_Row, lk_X4_at, ly_X4_at⟩
theorem Lv_X7_136 : k_LV RX7 136 yX4_size cX4_size 1 (some .int) 0 := ⟨mA 275 rfl rfl, lm_X4_size, le_X4_size, li_BarcodeWand_Row, lk_X4_size, ly_X4_size⟩
set_option maxRecDepth 20000 in
theorem lk_X4_fillWithZeros : Cond.code yX4_fillWithZeros cX4_fillWithZeros 3 none ∈ wsA := mA 605 rfl rfl
theorem ly_X4_fillWithZeros : k_y yX4_fillWithZeros 1 := ⟨by decide +kernel, by decide +kernel, by decide +kernel⟩
set_option maxRecDepth 20000 in
theorem lm_X4_fillWithZeros : Cond.instanceMethod yX4_fillWithZeros ∈ wsA := mA 603 rfl rfl
set_option maxRecDepth 20000 in
theorem le_X4_fillWithZeros : Cond.selects (yX4_fillWithZeros).cls yX4_fillWithZeros yX4_fillWithZeros ∈ wsA := mA 604 rfl rfl
set_option maxRecDepth 20000 in
theorem Lv_X2_27 : k_LV RX2 27 yX4_fillWithZeros cX4_fillWithZeros 3 none 1 := ⟨mA 602 rfl rfl, lm_X4_fillWithZeros, le_X4_fillWithZeros, li_BarcodeWand_Row, lk_X4_fillWithZeros, ly_X4_fillWithZeros⟩
theorem li_BarcodeWand : Cond.initialized "BarcodeWand" ∈ wsA := mA 1 rfl rfl
set_option maxRecDepth 20000 in
theorem lk_X7_checkDigitFor : Cond.code yX7_checkDigitFor cX7_checkDigitFor 5 (some .int) ∈ wsA := mA 330 rfl rfl
theorem ly_X7_checkDigitFor : k_y yX7_checkDigitFor 2 := ⟨by decide +kernel, by decide +kernel, by decide +kernel⟩
set_option maxRecDepth 20000 in
theorem ls_X7_checkDigitFor : Cond.static yX7_checkDigitFor ∈ wsA := mA 329 rfl rfl
set_option maxRecDepth 20000 in
theorem Ls_X2_34 : k_LSN RX2 34 "BarcodeWand" yX7_checkDigitFor cX7_checkDigitFor 5 (some .int) 2 := ⟨List.mem_of_getElem? (i := 607) rfl, ls_X7_checkDigitFor, li_BarcodeWand, lk_X7_checkDigitFor, ly_X7_checkDigitFor⟩
set_option maxRecDepth 20000 in
theorem Lv_X2_30 : k_LV RX2 30 yX4_put cX4_put 3 none 2 := ⟨mA 606 rfl rfl, lm_X4_put, le_X4_put, li_BarcodeWand_Row, lk_X4_put, ly_X4_put⟩
theorem dX7_powerOfTen_0 : decode cX7_powerOfTen 0 = .ok (.iconst 1, 1) := by decide +kernel
theorem dX7_powerOfTen_1 : decode cX7_powerOfTen 1 = .ok (.istore_n 1, 1) := by decide +kernel
theorem dX7_powerOfTen_2 : decode cX7_powerOfTen 2 = .ok (.iconst 0, 1) := by decide +kernel
theorem dX7_powerOfTen_3 : decode cX7_powerOfTen 3 = .ok (.istore_n 2, 1) := by decide +kernel
theorem dX7_powerOfTen_4 : decode cX7_powerOfTen 4 = .ok (.iload_n 2, 1) := by decide +kernel
theorem dX7_powerOfTen_5 : decode cX7_powerOfTen 5 = .ok (.iload_n 0, 1) := by decide +kernel
theorem dX7_powerOfTen_6 : decode cX7_powerOfTen 6 = .ok (.if_icmp .ge 14, 3) := by decide +kernel
theorem dX7_powerOfTen_9 : decode cX7_powerOfTen 9 = .ok (.iload_n 1, 1) := by decide +kernel
theorem dX7_powerOfTen_10 : decode cX7_powerOfTen 10 = .ok (.bipush 10, 2) := by decide +kernel
theorem dX7_powerOfTen_12 : decode cX7_powerOfTen 12 = .ok (.imul, 1) := by decide +kernel
theorem dX7_powerOfTen_13 : decode cX7_powerOfTen 13 = .ok (.istore_n 1, 1) := by decide +kernel
theorem dX7_powerOfTen_14 : decode cX7_powerOfTen 14 = .ok (.iinc 2 1, 3) := by decide +kernel
theorem dX7_powerOfTen_17 : decode cX7_powerOfTen 17 = .ok (.goto (-13), 3) := by decide +kernel
theorem dX7_powerOfTen_20 : decode cX7_powerOfTen 20 = .ok (.iload_n 1, 1) := by decide +kernel
theorem dX7_powerOfTen_21 : decode cX7_powerOfTen 21 = .ok (.ireturn, 1) := by decide +kernel
theorem dX7_checkDigitFor_0 : decode cX7_checkDigitFor 0 = .ok (.iconst 0, 1) := by decide +kernel
theorem dX7_checkDigitFor_1 : decode cX7_checkDigitFor 1 = .ok (.istore_n 2, 1) := by decide +kernel
theorem dX7_checkDigitFor_2 : decode cX7_checkDigitFor 2 = .ok (.iconst 3, 1) := by decide +kernel
theorem dX7_checkDigitFor_3 : decode cX7_checkDigitFor 3 = .ok (.istore_n 3, 1) := by decide +kernel
theorem dX7_checkDigitFor_4 : decode cX7_checkDigitFor 4 = .ok (.iload_n 1, 1) := by decide +kernel
theorem dX7_checkDigitFor_5 : decode cX7_checkDigitFor 5 = .ok (.iconst 1, 1) := by decide +kernel
theorem dX7_checkDigitFor_6 : decode cX7_checkDigitFor 6 = .ok (.isub, 1) := by decide +kernel
theorem dX7_checkDigitFor_7 : decode cX7_checkDigitFor 7 = .ok (.istore 4, 2) := by decide +kernel
theorem dX7_checkDigitFor_9 : decode cX7_checkDigitFor 9 = .ok (.iload 4, 2) := by decide +kernel
theorem dX7_checkDigitFor_11 : decode cX7_checkDigitFor 11 = .ok (.ifCond .lt 24, 3) := by decide +kernel
theorem dX7_checkDigitFor_14 : decode cX7_checkDigitFor 14 = .ok (.iload_n 2, 1) := by decide +kernel
theorem dX7_checkDigitFor_15 : decode cX7_checkDigitFor 15 = .ok (.iload_n 3, 1) := by decide +kernel
theorem dX7_checkDigitFor_16 : decode cX7_checkDigitFor 16 = .ok (.aload_n 0, 1) := by decide +kernel
theorem dX7_checkDigitFor_17 : decode cX7_checkDigitFor 17 = .ok (.iload 4, 2) := by decide +kernel
theorem dX7_checkDigitFor_19 : decode cX7_checkDigitFor 19 = .ok (.invokevirtual 79, 3) := by decide +kernel
theorem dX7_checkDigitFor_22 : decode cX7_checkDigitFor 22 = .ok (.imul, 1) := by decide +kernel
theorem dX7_checkDigitFor_23 : decode cX7_checkDigitFor 23 = .ok (.iadd, 1) := by decide +kernel
theorem dX7_checkDigitFor_24 : decode cX7_checkDigitFor 24 = .ok (.istore_n 2, 1) := by decide +kernel
theorem dX7_checkDigitFor_25 : decode cX7_checkDigitFor 25 = .ok (.iconst 4, 1) := by decide +kernel
theorem dX7_checkDigitFor_26 : decode cX7_checkDigitFor 26 = .ok (.iload_n 3, 1) := by decide +kernel
theorem dX7_checkDigitFor_27 : decode cX7_checkDigitFor 27 = .ok (.isub, 1) := by decide +kernel
theorem dX7_checkDigitFor_28 : decode cX7_checkDigitFor 28 = .ok (.istore_n 3, 1) := by decide +kernel
theorem dX7_checkDigitFor_29 : decode cX7_checkDigitFor 29 = .ok (.iinc 4 (-1), 3) := by decide +kernel
theorem dX7_checkDigitFor_32 : decode cX7_checkDigitFor 32 = .ok (.goto (-23), 3) := by decide +kernel
theorem dX7_checkDigitFor_35 : decode cX7_checkDigitFor 35 = .ok (.bipush 10, 2) := by decide +kernel
theorem dX7_checkDigitFor_37 : decode cX7_checkDigitFor 37 = .ok (.iload_n 2, 1) := by decide +kernel
theorem dX7_checkDigitFor_38 : decode cX7_checkDigitFor 38 = .ok (.bipush 10, 2) := by decide +kernel
theorem dX7_checkDigitFor_40 : decode cX7_checkDigitFor 40 = .ok (.irem, 1) := by decide +kernel
theorem dX7_checkDigitFor_41 : decode cX7_checkDigitFor 41 = .ok (.isub, 1) := by decide +kernel
theorem dX7_checkDigitFor_42 : decode cX7_checkDigitFor 42 = .ok (.bipush 10, 2) := by decide +kernel
theorem dX7_checkDigitFor_44 : decode cX7_checkDigitFor 44 = .ok (.irem, 1) := by decide +kernel
theorem dX7_checkDigitFor_45 : decode cX7_checkDigitFor 45 = .ok (.ireturn, 1) := by decide +kernel
theorem dX7_numberOf_0 : decode cX7_numberOf 0 = .ok (.iconst 0, 1) := by decide +kernel
theorem dX7_numberOf_1 : decode cX7_numberOf 1 = .ok (.istore_n 1, 1) := by decide +kernel
theorem dX7_numberOf_2 : decode cX7_numberOf 2 = .ok (.iconst 0, 1) := by decide +kernel
theorem dX7_numberOf_3 : decode cX7_numberOf 3 = .ok (.istore_n 2, 1) := by decide +kernel
theorem dX7_numberOf_4 : decode cX7_numberOf 4 = .ok (.iload_n 2, 1) := by decide +kernel
theorem dX7_numberOf_5 : decode cX7_numberOf 5 = .ok (.aload_n 0, 1) := by decide +kernel
theorem dX7_numberOf_6 : decode cX7_numberOf 6 = .ok (.invokevirtual 136, 3) := by decide +kernel
theorem dX7_numberOf_9 : decode cX7_numberOf 9 = .ok (.if_icmp .ge 20, 3) := by decide +kernel
theorem dX7_numberOf_12 : decode cX7_numberOf 12 = .ok (.bipush 10, 2) := by decide +kernel
theorem dX7_numberOf_14 : decode cX7_numberOf 14 = .ok (.iload_n 1, 1) := by decide +kernel
theorem dX7_numberOf_15 : decode cX7_numberOf 15 = .ok (.imul, 1) := by decide +kernel
theorem dX7_numberOf_16 : decode cX7_numberOf 16 = .ok (.aload_n 0, 1) := by decide +kernel
theorem dX7_numberOf_17 : decode cX7_numberOf 17 = .ok (.iload_n 2, 1) := by decide +kernel
theorem dX7_numberOf_18 : decode cX7_numberOf 18 = .ok (.invokevirtual 79, 3) := by decide +kernel
theorem dX7_numberOf_21 : decode cX7_numberOf 21 = .ok (.iadd, 1) := by decide +kernel
theorem dX7_numberOf_22 : decode cX7_numberOf 22 = .ok (.istore_n 1, 1) := by decide +kernel
theorem dX7_numberOf_23 : decode cX7_numberOf 23 = .ok (.iinc 2 1, 3) := by decide +kernel
theorem dX7_numberOf_26 : decode cX7_numberOf 26 = .ok (.goto (-22), 3) := by decide +kernel
theorem dX7_numberOf_29 : decode cX7_numberOf 29 = .ok (.iload_n 1, 1) := by decide +kernel
theorem dX7_numberOf_30 : decode cX7_numberOf 30 = .ok (.ireturn, 1) := by decide +kernel
theorem dX7_hasSucceeded_0 : decode cX7_hasSucceeded 0 = .ok (.iload_n 0, 1) := by decide +kernel
theorem dX7_hasSucceeded_1 : decode cX7_hasSucceeded 1 = .ok (.ifCond .eq 8, 3) := by decide +kernel
theorem dX7_hasSucceeded_4 : decode cX7_hasSucceeded 4 = .ok (.iload_n 0, 1) := by decide +kernel
theorem dX7_hasSucceeded_5 : decode cX7_hasSucceeded 5 = .ok (.iconst (-1), 1) := by decide +kernel
theorem dX7_hasSucceeded_6 : decode cX7_hasSucceeded 6 = .ok (.if_icmp .ne 7, 3) := by decide +kernel
theorem dX7_hasSucceeded_9 : decode cX7_hasSucceeded 9 = .ok (.iconst 1, 1) := by decide +kernel
theorem dX7_hasSucceeded_10 : decode cX7_hasSucceeded 10 = .ok (.goto 4, 3) := by decide +kernel
theorem dX7_hasSucceeded_13 : decode cX7_hasSucceeded 13 = .ok (.iconst 0, 1) := by decide +kernel
theorem dX7_hasSucceeded_14 : decode cX7_hasSucceeded 14 = .ok (.ireturn, 1) := by decide +kernel
theorem dX2_setDigits_0 : decode cX2_setDigits 0 = .ok (.aload_n 0, 1) := by decide +kernel
theorem dX2_setDigits_1 : decode cX2_setDigits 1 = .ok (.getfield 14, 3) := by decide +kernel
theorem dX2_setDigits_4 : decode cX2_setDigits 4 = .ok (.iload_n 2, 1) := by decide +kernel
theorem dX2_setDigits_5 : decode cX2_setDigits 5 = .ok (.iconst 1, 1) := by decide +kernel
theorem dX2_setDigits_6 : decode cX2_setDigits 6 = .ok (.iadd, 1) := by decide +kernel
theorem dX2_setDigits_7 : decode cX2_setDigits 7 = .ok (.invokevirtual 27, 3) := by decide +kernel
theorem dX2_setDigits_10 : decode cX2_setDigits 10 = .ok (.iload_n 1, 1) := by decide +kernel
theorem dX2_setDigits_11 : decode cX2_setDigits 11 = .ok (.istore_n 3, 1) := by decide +kernel
theorem dX2_setDigits_12 : decode cX2_setDigits 12 = .ok (.iload_n 2, 1) := by decide +kernel
theorem dX2_setDigits_13 : decode cX2_setDigits 13 = .ok (.iconst 1, 1) := by decide +kernel
theorem dX2_setDigits_14 : decode cX2_setDigits 14 = .ok (.isub, 1) := by decide +kernel
theorem dX2_setDigits_15 : decode cX2_setDigits 15 = .ok (.istore 4, 2) := by decide +kernel
theorem dX2_setDigits_17 : decode cX2_setDigits 17 = .ok (.iload 4, 2) := by decide +kernel
theorem dX2_setDigits_19 : decode cX2_setDigits 19 = .ok (.ifCond .lt 27, 3) := by decide +kernel
theorem dX2_setDigits_22 : decode cX2_setDigits 22 = .ok (.aload_n 0, 1) := by decide +kernel
theorem dX2_setDigits_23 : decode cX2_setDigits 23 = .ok (.getfield 14, 3) := by decide +kernel
theorem dX2_setDigits_26 : decode cX2_setDigits 26 = .ok (.iload 4, 2) := by decide +kernel
theorem dX2_setDigits_28 : decode cX2_setDigits 28 = .ok (.iload_n 3, 1) := by decide +kernel
theorem dX2_setDigits_29 : decode cX2_setDigits 29 = .ok (.bipush 10, 2) := by decide +kernel
theorem dX2_setDigits_31 : decode cX2_setDigits 31 = .ok (.irem, 1) := by decide +kernel
theorem dX2_setDigits_32 : decode cX2_setDigits 32 = .ok (.invokevirtual 30, 3) := by decide +kernel
theorem dX2_setDigits_35 : decode cX2_setDigits 35 = .ok (.iload_n 3, 1) := by decide +kernel
theorem dX2_setDigits_36 : decode cX2_setDigits 36 = .ok (.bipush 10, 2) := by decide +kernel
theorem dX2_setDigits_38 : decode cX2_setDigits 38 = .ok (.idiv, 1) := by decide +kernel
theorem dX2_setDigits_39 : decode cX2_setDigits 39 = .ok (.istore_n 3, 1) := by decide +kernel
theorem dX2_setDigits_40 : decode cX2_setDigits 40 = .ok (.iinc 4 (-1), 3) := by decide +kernel
theorem dX2_setDigits_43 : decode cX2_setDigits 43 = .ok (.goto (-26), 3) := by decide +kernel
theorem dX2_setDigits_46 : decode cX2_setDigits 46 = .ok (.aload_n 0, 1) := by decide +kernel
theorem dX2_setDigits_47 : decode cX2_setDigits 47 = .ok (.getfield 14, 3) := by decide +kernel
theorem dX2_setDigits_50 : decode cX2_setDigits 50 = .ok (.iload_n 2, 1) := by decide +kernel
theorem dX2_setDigits_51 : decode cX2_setDigits 51 = .ok (.aload_n 0, 1) := by decide +kernel
theorem dX2_setDigits_52 : decode cX2_setDigits 52 = .ok (.getfield 14, 3) := by decide +kernel
theorem dX2_setDigits_55 : decode cX2_setDigits 55 = .ok (.iload_n 2, 1) := by decide +kernel
theorem dX2_setDigits_56 : decode cX2_setDigits 56 = .ok (.invokestatic 34, 3) := by decide +kernel
theorem dX2_setDigits_59 : decode cX2_setDigits 59 = .ok (.invokevirtual 30, 3) := by decide +kernel
theorem dX2_setDigits_62 : decode cX2_setDigits 62 = .ok (.aload_n 0, 1) := by decide +kernel
theorem dX2_setDigits_63 : decode cX2_setDigits 63 = .ok (.getfield 20, 3) := by decide +kernel
theorem dX2_setDigits_66 : decode cX2_setDigits 66 = .ok (.iconst 3, 1) := by decide +kernel
theorem dX2_setDigits_67 : decode cX2_setDigits 67 = .ok (.iconst 4, 1) := by decide +kernel
theorem dX2_setDigits_68 : decode cX2_setDigits 68 = .ok (.aload_n 0, 1) := by decide +kernel
theorem dX2_setDigits_69 : decode cX2_setDigits 69 = .ok (.getfield 14, 3) := by decide +kernel
theorem dX2_setDigits_72 : decode cX2_setDigits 72 = .ok (.invokevirtual 23, 3) := by decide +kernel
theorem dX2_setDigits_75 : decode cX2_setDigits 75 = .ok (.imul, 1) := by decide +kernel
theorem dX2_setDigits_76 : decode cX2_setDigits 76 = .ok (.iadd, 1) := by decide +kernel
theorem dX2_setDigits_77 : decode cX2_setDigits 77 = .ok (.iconst 2, 1) := by decide +kernel
theorem dX2_setDigits_78 : decode cX2_setDigits 78 = .ok (.iadd, 1) := by decide +kernel
theorem dX2_setDigits_79 : decode cX2_setDigits 79 = .ok (.invokevirtual 27, 3) := by decide +kernel
theorem dX2_setDigits_82 : decode cX2_setDigits 82 = .ok (.return_, 1) := by decide +kernel
def pw10 : Nat → Int32
  | 0 => 1
  | k + 1 => pw10 k * 10
def rem10 (x : Int32) : Int32 := x - x / 10 * 10
def rs (d : Int32) : Nat → Int32
  | 0 => d
  | i + 1 => rs d i / 10
def wt : Nat → Int32
  | 0 => 3
  | i + 1 => 4 - wt i
/-- the weighted sum of a row's first j numbers, from the last one on, behind i steps -/
def csum (f : Nat → Int32) (j : Nat) : Nat → Int32
  | 0 => 0
  | i + 1 => csum f j i + wt i * f (j - 1 - i)
def chkd (x : Int32) : Int32 := rem10 (10 - rem10 x)
/-- the place that is looked at behind i steps down from j -/
def kd (j i : Nat) : Int32 := nI j - nI (i + 1)
theorem kd_0 (j : Nat) : nI j - 1 = kd j 0 := rfl
theorem kd_s (j i : Nat) : kd j i + (-1) = kd j (i + 1) := by
  unfold kd
  rw [← nI_1 (i + 1), Int32.sub_eq_add_neg, Int32.sub_eq_add_neg, Int32.neg_add, Int32.add_assoc, Int32.sub_eq_add_neg (-nI (i + 1))]
theorem kd_lt {j i : Nat} (h : i < j) : kd j i = nI (j - 1 - i) := by
  unfold kd
  rw [pk_sub (by omega), Nat.sub_sub, Nat.add_comm 1 i]
theorem kd_neg {j i : Nat} (h : j ≤ i) (hi : i < 2 ^ 29) : kd j i < 0 := pk_sneg (by omega) (by omega)
theorem kd_pos {j i : Nat} (h : i < j) (hj : j < 2 ^ 29) : ¬ kd j i < 0 := by
  rw [kd_lt h]
  exact nI_pos (by omega)
/-- digits written from the last place of j down, behind i steps, over f, from a place o on -/
def dgs (d : Int32) (o j : Nat) (f : Nat → Int32) (i : Nat) : Nat → Int32 := fun x => if o + (j - i) ≤ x ∧ x < o + j then rem10 (rs d (o + j - 1 - x)) else f x
theorem dgs_0 (d : Int32) (o j : Nat) (f : Nat → Int32) : dgs d o j f 0 = f := by
  funext x
  unfold dgs
  rw [if_neg (by omega)]
theorem dgs_s {d : Int32} {o j : Nat} {f : Nat → Int32} {i : Nat} (h : i < j) : upd (dgs d o j f i) (o + (j - 1 - i)) (rem10 (rs d i)) = dgs d o j f (i + 1) := by
  funext x
  unfold upd dgs
  by_cases hx : x = o + (j - 1 - i)
  · rw [if_pos hx, if_pos (by omega)]
    have e9 : o + j - 1 - x = i := by omega
    rw [e9]
  · rw [if_neg hx]
    by_cases h2 : o + (j - i) ≤ x ∧ x < o + j
    · rw [if_pos h2, if_pos (by omega)]
    · rw [if_neg h2, if_neg (by omega)]
theorem dgs_at {d : Int32} {o j : Nat} {f : Nat → Int32} {x : Nat} (h : x < j) : dgs d o j f j (o + x) = rem10 (rs d (j - 1 - x)) := by
  unfold dgs
  rw [if_pos (by omega)]
  have e9 : o + j - 1 - (o + x) = j - 1 - x := by omega
  rw [e9]
/-- the sum of the digits of d, from the last one on -/
def cS (d : Int32) : Nat → Int32
  | 0 => 0
  | i + 1 => cS d i + wt i * rem10 (rs d i)
theorem csum_dgs {d : Int32} {j : Nat} {f g : Nat → Int32} (hg : ∀ x, x < j → g x = dgs d 0 j f j (0 + x)) : ∀ i, i ≤ j → csum g j i = cS d i := by
  intro i
  induction i with
  | zero => intro _; rfl
  | succ i ih =>
    intro hi
    unfold csum cS
    rw [ih (by omega), hg _ (by omega), dgs_at (by omega), show j - 1 - (j - 1 - i) = i from by omega]
theorem wt_eq (i : Nat) : wt i = if i % 2 = 0 then 3 else 1 := by
  induction i with
  | zero => rfl
  | succ i ih =>
    unfold wt
    rw [ih]
    by_cases h : i % 2 = 0
    · rw [if_pos h, if_neg (by omega)]; decide
    · rw [if_neg h, if_pos (by omega)]; decide
/-- the same sum from the first one on -/
def tS (g : Nat → Int32) (j : Nat) : Nat → Int32
  | 0 => 0
  | k + 1 => tS g j k + (if (j - 1 - k) % 2 = 0 then 3 * g k else g k)
theorem tS_cS {d : Int32} {j : Nat} {g : Nat → Int32} (hg : ∀ x, x < j → g x = rem10 (rs d (j - 1 - x))) : ∀ k, k ≤ j → tS g j k + cS d (j - k) = cS d j := by
  intro k
  induction k with
  | zero => intro _; unfold tS; rw [Int32.zero_add, Nat.sub_zero]
  | succ k ih =>
    intro hk
    have e1 : j - k = (j - (k + 1)) + 1 := by omega
    have h1 := ih (by omega)
    rw [e1] at h1
    rw [← h1]
    rw [show tS g j (k + 1) = tS g j k + (if (j - 1 - k) % 2 = 0 then 3 * g k else g k) from rfl]
    rw [show cS d (j - (k + 1) + 1) = cS d (j - (k + 1)) + wt (j - (k + 1)) * rem10 (rs d (j - (k + 1))) from rfl]
    rw [hg k (by omega), show j - 1 - k = j - (k + 1) from by omega, wt_eq]
    by_cases h : (j - (k + 1)) % 2 = 0
    · rw [if_pos h, if_pos h, Int32.add_assoc, Int32.add_comm (3 * _) (cS d (j - (k + 1)))]
    · rw [if_neg h, if_neg h, Int32.one_mul, Int32.add_assoc, Int32.add_comm (rem10 _) (cS d (j - (k + 1)))]
def pOk (d z : Int32) : Prop := ¬ z < 1 ∧ z ≤ 8 ∧ ¬ d < 0 ∧ d < pw10 z.toNatClampNeg
theorem cnt_of {z : Int32} (h : ¬ z < 1) (h8 : z ≤ 8) : ∃ j : Nat, 1 ≤ j ∧ j ≤ 8 ∧ z = nI j := by
  have h0 : ¬ z < 0 := by
    rw [fa_lt] at h ⊢
    have e1 : (1 : Int32).toInt = 1 := by decide
    have e0 : (0 : Int32).toInt = 0 := by decide
    omega
  obtain ⟨j, hj, rfl⟩ := nI_of2 (M := 8) (n := 8) (by decide) h0 h8
  refine ⟨j, ?_, hj, rfl⟩
  rcases Nat.lt_or_ge j 1 with q | q
  · exact absurd (nI_lt (b := 1) q (by omega)) h
  · exact q
theorem pw10_pred : ∀ j, j ≤ 8 → (pw10 j - 1).toInt = (pw10 j).toInt - 1 := by decide +kernel
theorem pw_y {d : Int32} {j : Nat} (hj : j ≤ 8) (h : ¬ pw10 j - 1 < d) : d < pw10 j := by
  rw [fa_lt] at h ⊢
  have := pw10_pred j hj
  omega
theorem pw_n {d : Int32} {j : Nat} (hj : j ≤ 8) (h : pw10 j - 1 < d) : ¬ d < pw10 j := by
  rw [fa_lt] at h ⊢
  have := pw10_pred j hj
  omega
set_option maxHeartbeats 4000000 in
set_option maxRecDepth 100000 in
theorem c_check (l : Launch) (D : va_G) (cd : Nat) (cdA : Nat) (n : Nat) (K : ClassId) (cap : Nat) (f : Nat → Int32) (z : Int32) (j : Nat) (hcap : cap < 2 ^ 31) (hz : z = nI j) (hjn : j ≤ n) (hnc : n ≤ cap) (hj : j ≤ 64) (sz : Nat) : k_Mi (S := Unit) l D yX7_checkDigitFor cX7_checkDigitFor 5 (some .int) 1 0 0 21 [.ref cd, .int z] [(cd, .inr (4, [.ref cdA, .int (nI n)])), (cdA, .inl (K, cap, .inl f))] [(K, .int)] (fun (r : Int32) (_ : Unit) => r = (chkd (csum f j j))) (fun _ => [(cd, .inr (4, [.ref cdA, .int (nI n)])), (cdA, .inl (K, cap, .inl f))]) (fun _ => []) sz := by
  refine Met.ofW (cc := cX7_checkDigitFor) (maxL := 5) (ret := (some .int)) (by decide) rfl ?_
  intro p e s m args below meth c s₁ B hml hv
  obtain ⟨rfl, hsz, hP, hK, hD0, hG⟩ := hv
  have hx := B.exec
  have hb := B.bytes
  have hr := B.returns
  have ht : ∀ v9 ∈ wsA, v9.before ([.ref cd, .int z] : List Value).toArray s = true := fun v9 h9 => atoms_spec (ws := k_ws yX7_checkDigitFor cX7_checkDigitFor 5 (some .int)) B.pre v9 (List.mem_cons_of_mem _ h9)
  have hown : s.vm.findClass RX7 = some m.cls := findClass_of_methodNamed B.named
  have S0 : k_C p s m ([.ref cd, .int z] : List Value).toArray c cX7_checkDigitFor 5 RX7 := ⟨hx, hb, hml, hown, ht⟩
  have hlocks := B.notSynchronized
  subst hsz
  have hD := hD0.self (sz := s.heap.size)
  generalize hAe : va_A [(cd, .inr (4, [.ref cdA, .int (nI n)])), (cdA, .inl (K, cap, .inl f))] s.heap.size = A at hD hG ⊢
  have hA : ∀ q : Nat, s.heap.size ≤ q → A q := fun q h => by rw [← hAe]; exact Or.inr h
  have hS : va_S A s.heap s.heap [] := va_S.rf
  have hl := lv_entry ([.ref cd, .int z]) (n := 5) (Nat.le_of_ble_eq_true rfl)
  rw [lg_entry_eq]
  generalize (lg_sl ([.ref cd, .int z]) ++ List.replicate (5 - (lg_sl ([.ref cd, .int z])).length) Slot.unset).toArray = ls at hl ⊢
  have hl : lv_has ls 5 [(0, .ref cd), (1, .int z)] := hl
  have hP : va_P D vwCl [(cd, .inr (4, [.ref cdA, .int (nI n)])), (cdA, .inl (K, cap, .inl f))] s.heap := hP
  have he9 : z = (nI j) := hz
  rw [he9] at hl
  have hl : lv_has ls 5 [(0, .ref cd), (1, .int (nI j))] := hl
  refine lv_iconst (v := 0) hx hb dX7_checkDigitFor_0 (by decide) ?_
  refine lv_istore_n (lv' := [(2, .int 0), (0, .ref cd), (1, .int (nI j))]) hx hb dX7_checkDigitFor_1 rfl hl (by decide) rfl (fun ls hl => ?_)
  refine lv_iconst (v := 3) hx hb dX7_checkDigitFor_2 (by decide) ?_
  refine lv_istore_n (lv' := [(3, .int 3), (2, .int 0), (0, .ref cd), (1, .int (nI j))]) hx hb dX7_checkDigitFor_3 rfl hl (by decide) rfl (fun ls hl => ?_)
  refine lv_iload_n hx hb dX7_checkDigitFor_4 rfl (lv_at hl 3 rfl) ?_
  refine lv_iconst (v := 1) hx hb dX7_checkDigitFor_5 (by decide) ?_
  refine lv_isub hx hb dX7_checkDigitFor_6 ?_
  refine k_nrm (y := (kd j 0)) (rfl) ?_
  refine lv_istore (lv' := [(4, .int (kd j 0)), (3, .int 3), (2, .int 0), (0, .ref cd), (1, .int (nI j))]) hx hb dX7_checkDigitFor_7 hl (by decide) rfl (fun ls hl => ?_)
  have hl : lv_has ls 5 [(4, .int (kd j 0)), (3, .int 3), (2, .int (csum f j 0)), (0, .ref cd), (1, .int (nI j))] := hl
  have hl : lv_has ls 5 [(4, .int (kd j 0)), (3, .int (wt 0)), (2, .int (csum f j 0)), (0, .ref cd), (1, .int (nI j))] := hl
  refine k_loop (ι := Nat) (fun (i : Nat) H9 locs9 ls9 => (i ≤ j) ∧ va_P D vwCl [(cd, .inr (4, [.ref cdA, .int (nI n)])), (cdA, .inl (K, cap, .inl f))] H9 ∧ va_D A [(cd, .inr (4, [.ref cdA, .int (nI n)])), (cdA, .inl (K, cap, .inl f))] ∧ va_S A s.heap H9 locs9 ∧ lv_has ls9 5 [(2, .int (csum f j i)), (3, .int (wt i)), (4, .int (kd j i)), (0, .ref cd), (1, .int (nI j))]) (fun (i : Nat) => j - i) ?_ (0) ⟨(Nat.zero_le _), hP.sub [0, 1] rfl, hD.sub [0, 1] (by decide) rfl, hS, lv_sub hl [2, 1, 0, 3, 4] rfl⟩
  intro x9 H locs ls hF9 ih9
  obtain ⟨i, hv9⟩ : ∃ z, z = x9 := ⟨_, rfl⟩
  subst hv9
  obtain ⟨hi, hP, hD, hS, hl⟩ := hF9
  try dsimp only at ih9
  have hP : va_P D vwCl [(cd, .inr (4, [.ref cdA, .int (nI n)])), (cdA, .inl (K, cap, .inl f))] H := hP
  have hD : va_D A [(cd, .inr (4, [.ref cdA, .int (nI n)])), (cdA, .inl (K, cap, .inl f))] := hD
  have hl : lv_has ls 5 [(2, .int (csum f j i)), (3, .int (wt i)), (4, .int (kd j i)), (0, .ref cd), (1, .int (nI j))] := hl
  refine lv_iload hx hb dX7_checkDigitFor_9 (lv_at hl 2 rfl) ?_
  refine lv_if_lt (tgt := 35) hx hb dX7_checkDigitFor_11 (by decide) (fun c_1 => ?_) (fun c_1 => ?_)
  · have hc9 := c_1
    obtain rfl : j = i := by rcases Nat.lt_or_ge i j with q9 | q9; exact absurd c_1 (kd_pos q9 (by omega)); omega
    refine lv_bipush (v := 10) hx hb dX7_checkDigitFor_35 (by decide) ?_
    refine lv_iload_n hx hb dX7_checkDigitFor_37 rfl (lv_at hl 0 rfl) ?_
    refine lv_bipush (v := 10) hx hb dX7_checkDigitFor_38 (by decide) ?_
    refine lv_irem hx hb dX7_checkDigitFor_40 (by decide) ?_
    refine k_nrm (y := (rem10 (csum f j j))) (rfl) ?_
    refine lv_isub hx hb dX7_checkDigitFor_41 ?_
    refine k_nrm (y := (10 - rem10 (csum f j j))) (rfl) ?_
    refine lv_bipush (v := 10) hx hb dX7_checkDigitFor_42 (by decide) ?_
    refine lv_irem hx hb dX7_checkDigitFor_44 (by decide) ?_
    refine k_nrm (y := (chkd (csum f j j))) (rfl) ?_
    have hP9 : va_P D vwCl [(cd, .inr (4, [.ref cdA, .int (nI n)])), (cdA, .inl (K, cap, .inl f))] H := hP.sub [0, 1] rfl
    have hD9 : va_D A [(cd, .inr (4, [.ref cdA, .int (nI n)])), (cdA, .inl (K, cap, .inl f))] := hD.sub [0, 1] (by decide) rfl
    have hK9 : va_K D vwCl [] s := hK.sub [] rfl
    exact W.iret (v := (chkd (csum f j j))) hx hb hr (fun t ht9 hW9 => ⟨⟨(chkd (csum f j j)), (), rfl, by first | rfl | trivial | (simp only [hi, c_1, if_true, if_false, reduceIte, and_self]; done) | simp_all, ⟨by rw [ht9]; exact hP9, va_K.moved hW9.alike hK9, hD9⟩⟩, hS.F ht9⟩) hS.2.2 dX7_checkDigitFor_45
  · have hc9 := c_1
    have hik : i + 1 ≤ j := by rcases Nat.lt_or_ge i j with q9 | q9; exact q9; exact absurd (kd_neg q9 (by omega)) c_1
    refine lv_iload_n hx hb dX7_checkDigitFor_14 rfl (lv_at hl 0 rfl) ?_
    refine lv_iload_n hx hb dX7_checkDigitFor_15 rfl (lv_at hl 1 rfl) ?_
    refine lv_aload_n hx hb dX7_checkDigitFor_16 rfl (lv_at hl 3 rfl) ?_
    refine lv_iload hx hb dX7_checkDigitFor_17 (lv_at hl 2 rfl) ?_
    have ct := k_cut_of (wc := [(cd, .inr (4, [.ref cdA, .int (nI n)])), (cdA, .inl (K, cap, .inl f))]) (wr := []) (tc := [(K, .int)]) hG hS hA hK hP hD [0, 1] [] [0] rfl rfl (by decide) (by decide) (by decide) rfl
    refine k_endi (As := [.ref cd, .int (kd j i)]) ct (k_runV (As := [.int (kd j i)]) (rest := [.int (wt i), .int (csum f j i)]) S0 Lv_X7_79 rfl (ci := 4) (q0 := 0) rfl rfl ct (c_Row_at l D cd cdA (nI n) K cap f (kd j i) (by first | assumption | decide) H.size) hl.1 rfl (Nat.le_of_ble_eq_true rfl) rfl dX7_checkDigitFor_19 ⟨⟨Nat.le_of_ble_eq_true rfl, Nat.le_of_ble_eq_true rfl⟩, Nat.le_of_ble_eq_true rfl, Nat.le_of_ble_eq_true rfl⟩) rfl rfl (fun r_2 _ H locs hw_3 hP hD hK hS => ?_)
    have hK : va_K D vwCl [(K, .int)] s := hK
    have hP : va_P D vwCl [(cd, .inr (4, [.ref cdA, .int (nI n)])), (cdA, .inl (K, cap, .inl f))] H := hP
    have hD : va_D A [(cd, .inr (4, [.ref cdA, .int (nI n)])), (cdA, .inl (K, cap, .inl f))] := hD
    have hw_3 : r_2 = (rowAt cap (nI n) f (kd j i)) := hw_3
    have hw_3 := hw_3.symm
    subst hw_3
    refine k_nrm (y := (rowAt cap (nI n) f (kd j i))) rfl ?_
    refine k_nrm (y := f (j - 1 - i)) (by rw [kd_lt hik, rowAt_lt (by omega) hnc hcap]) ?_
    refine lv_imul hx hb dX7_checkDigitFor_22 ?_
    refine k_nrm (y := (wt i * f (j - 1 - i))) (rfl) ?_
    refine lv_iadd hx hb dX7_checkDigitFor_23 ?_
    refine k_nrm (y := (csum f j (i + 1))) (rfl) ?_
    refine lv_istore_n (lv' := [(2, .int (csum f j (i + 1))), (3, .int (wt i)), (4, .int (kd j i)), (0, .ref cd), (1, .int (nI j))]) hx hb dX7_checkDigitFor_24 rfl hl (by decide) rfl (fun ls hl => ?_)
    refine lv_iconst (v := 4) hx hb dX7_checkDigitFor_25 (by decide) ?_
    refine lv_iload_n hx hb dX7_checkDigitFor_26 rfl (lv_at hl 1 rfl) ?_
    refine lv_isub hx hb dX7_checkDigitFor_27 ?_
    refine k_nrm (y := (wt (i + 1))) (rfl) ?_
    refine lv_istore_n (lv' := [(3, .int (wt (i + 1))), (2, .int (csum f j (i + 1))), (4, .int (kd j i)), (0, .ref cd), (1, .int (nI j))]) hx hb dX7_checkDigitFor_28 rfl hl (by decide) rfl (fun ls hl => ?_)
    obtain ⟨x_4, ex_4⟩ : ∃ z : Int32, z = (kd j i) + (-1) := ⟨_, rfl⟩
    refine lv_iinc (v := x_4) (lv' := [(4, .int x_4), (3, .int (wt (i + 1))), (2, .int (csum f j (i + 1))), (0, .ref cd), (1, .int (nI j))]) hx hb dX7_checkDigitFor_29 hl (k := 2) rfl (by rw [ex_4]; rfl) (by decide) rfl (fun ls hl => ?_)
    refine lv_goto (tgt := 9) hx hb dX7_checkDigitFor_32 (by decide) ?_
    have he9 : x_4 = (kd j (i + 1)) := by rw [ex_4]; exact kd_s j i
    rw [he9] at hl
    have hl : lv_has ls 5 [(4, .int (kd j (i + 1))), (3, .int (wt (i + 1))), (2, .int (csum f j (i + 1))), (0, .ref cd), (1, .int (nI j))] := hl
    exact ih9 (i + 1) H locs ls (by omega) ⟨hik, hP.sub [0, 1] rfl, hD.sub [0, 1] (by decide) rfl, hS, lv_sub hl [2, 1, 0, 3, 4] rfl⟩
set_option maxHeartbeats 4000000 in
set_option maxRecDepth 100000 in
theorem c_pow (l : Launch) (D : va_G) (z : Int32) (k : Nat) (hz : z = nI k) (hk : k < 2 ^ 31) (sz : Nat) : k_Mi (S := Unit) l D yX7_powerOfTen cX7_powerOfTen 3 (some .int) 0 0 0 0 [.int z] [] [] (fun (r : Int32) (_ : Unit) => r = (pw10 k)) (fun _ => []) (fun _ => []) sz := by
  refine Met.ofW (cc := cX7_powerOfTen) (maxL := 3) (ret := (some .int)) (by decide) rfl ?_
  intro p e s m args below meth c s₁ B hml hv
  obtain ⟨rfl, hsz, hP, hK, hD0, hG⟩ := hv
  have hx := B.exec
  have hb := B.bytes
  have hr := B.returns
  have ht : ∀ v9 ∈ wsA, v9.before ([.int z] : List Value).toArray s = true := fun v9 h9 => atoms_spec (ws := k_ws yX7_powerOfTen cX7_powerOfTen 3 (some .int)) B.pre v9 (List.mem_cons_of_mem _ h9)
  have hown : s.vm.findClass RX7 = some m.cls := findClass_of_methodNamed B.named
  have S0 : k_C p s m ([.int z] : List Value).toArray c cX7_powerOfTen 3 RX7 := ⟨hx, hb, hml, hown, ht⟩
  have hlocks := B.notSynchronized
  subst hsz
  have hD := hD0.self (sz := s.heap.size)
  generalize hAe : va_A [] s.heap.size = A at hD hG ⊢
  have hA : ∀ q : Nat, s.heap.size ≤ q → A q := fun q h => by rw [← hAe]; exact Or.inr h
  have hS : va_S A s.heap s.heap [] := va_S.rf
  have hl := lv_entry ([.int z]) (n := 3) (Nat.le_of_ble_eq_true rfl)
  rw [lg_entry_eq]
  generalize (lg_sl ([.int z]) ++ List.replicate (3 - (lg_sl ([.int z])).length) Slot.unset).toArray = ls at hl ⊢
  have hl : lv_has ls 3 [(0, .int z)] := hl
  have hP : va_P D vwCl [] s.heap := hP
  have he9 : z = (nI k) := hz
  rw [he9] at hl
  have hl : lv_has ls 3 [(0, .int (nI k))] := hl
  refine lv_iconst (v := 1) hx hb dX7_powerOfTen_0 (by decide) ?_
  refine lv_istore_n (lv' := [(1, .int 1), (0, .int (nI k))]) hx hb dX7_powerOfTen_1 rfl hl (by decide) rfl (fun ls hl => ?_)
  refine lv_iconst (v := 0) hx hb dX7_powerOfTen_2 (by decide) ?_
  refine lv_istore_n (lv' := [(2, .int 0), (1, .int 1), (0, .int (nI k))]) hx hb dX7_powerOfTen_3 rfl hl (by decide) rfl (fun ls hl => ?_)
  have hl : lv_has ls 3 [(2, .int 0), (1, .int (pw10 0)), (0, .int (nI k))] := hl
  have hl : lv_has ls 3 [(2, .int (nI 0)), (1, .int (pw10 0)), (0, .int (nI k))] := hl
  refine k_loop (ι := Nat) (fun (i : Nat) H9 locs9 ls9 => (i ≤ k) ∧ va_P D vwCl [] H9 ∧ va_D A [] ∧ va_S A s.heap H9 locs9 ∧ lv_has ls9 3 [(1, .int (pw10 i)), (2, .int (nI i)), (0, .int (nI k))]) (fun (i : Nat) => k - i) ?_ (0) ⟨(Nat.zero_le _), hP.sub [] rfl, hD.sub [] (by decide) rfl, hS, lv_sub hl [1, 0, 2] rfl⟩
  intro x9 H locs ls hF9 ih9
  obtain ⟨i, hv9⟩ : ∃ z, z = x9 := ⟨_, rfl⟩
  subst hv9
  obtain ⟨hi, hP, hD, hS, hl⟩ := hF9
  try dsimp only at ih9
  have hP : va_P D vwCl [] H := hP
  have hD : va_D A [] := hD
  have hl : lv_has ls 3 [(1, .int (pw10 i)), (2, .int (nI i)), (0, .int (nI k))] := hl
  refine lv_iload_n hx hb dX7_powerOfTen_4 rfl (lv_at hl 1 rfl) ?_
  refine lv_iload_n hx hb dX7_powerOfTen_5 rfl (lv_at hl 2 rfl) ?_
  refine lv_icmp_ge (tgt := 20) hx hb dX7_powerOfTen_6 (by decide) (fun c_1 => ?_) (fun c_1 => ?_)
  · have hc9 := c_1
    obtain rfl : k = i := by rcases Nat.lt_or_ge i k with q9 | q9; exact absurd c_1 (nI_ge q9 (by omega)); omega
    refine lv_iload_n hx hb dX7_powerOfTen_20 rfl (lv_at hl 0 rfl) ?_
    have hP9 : va_P D vwCl [] H := hP.sub [] rfl
    have hD9 : va_D A [] := hD.sub [] (by decide) rfl
    have hK9 : va_K D vwCl [] s := hK.sub [] rfl
    exact W.iret (v := (pw10 k)) hx hb hr (fun t ht9 hW9 => ⟨⟨(pw10 k), (), rfl, by first | rfl | trivial | (simp only [hi, c_1, if_true, if_false, reduceIte, and_self]; done) | simp_all, ⟨by rw [ht9]; exact hP9, va_K.moved hW9.alike hK9, hD9⟩⟩, hS.F ht9⟩) hS.2.2 dX7_powerOfTen_21
  · have hc9 := c_1
    have hik : i + 1 ≤ k := by rcases Nat.lt_or_ge i k with q9 | q9; exact q9; exact absurd (nI_le q9 (by omega)) c_1
    refine lv_iload_n hx hb dX7_powerOfTen_9 rfl (lv_at hl 0 rfl) ?_
    refine lv_bipush (v := 10) hx hb dX7_powerOfTen_10 (by decide) ?_
    refine lv_imul hx hb dX7_powerOfTen_12 ?_
    refine k_nrm (y := (pw10 (i + 1))) (rfl) ?_
    refine lv_istore_n (lv' := [(1, .int (pw10 (i + 1))), (2, .int (nI i)), (0, .int (nI k))]) hx hb dX7_powerOfTen_13 rfl hl (by decide) rfl (fun ls hl => ?_)
    obtain ⟨x_2, ex_2⟩ : ∃ z : Int32, z = (nI i) + 1 := ⟨_, rfl⟩
    refine lv_iinc (v := x_2) (lv' := [(2, .int x_2), (1, .int (pw10 (i + 1))), (0, .int (nI k))]) hx hb dX7_powerOfTen_14 hl (k := 1) rfl (by rw [ex_2]; rfl) (by decide) rfl (fun ls hl => ?_)
    refine lv_goto (tgt := 4) hx hb dX7_powerOfTen_17 (by decide) ?_
    have he9 : x_2 = (nI (i + 1)) := by rw [ex_2]; exact nI_1 i
    rw [he9] at hl
    have hl : lv_has ls 3 [(2, .int (nI (i + 1))), (1, .int (pw10 (i + 1))), (0, .int (nI k))] := hl
    exact ih9 (i + 1) H locs ls (by omega) ⟨hik, hP.sub [] rfl, hD.sub [] (by decide) rfl, hS, lv_sub hl [1, 0, 2] rfl⟩
def numF (f : Nat → Int32) : Nat → Int32
  | 0 => 0
  | i + 1 => 10 * numF f i + f i
set_option maxHeartbeats 4000000 in
set_option maxRecDepth 100000 in
theorem c_numberOf (l : Launch) (D : va_G) (cd : Nat) (cdA : Nat) (n : Nat) (K : ClassId) (cap : Nat) (f : Nat → Int32) (hcap : cap < 2 ^ 31) (hnc : n ≤ cap) (sz : Nat) : k_Mi (S := Unit) l D yX7_numberOf cX7_numberOf 3 (some .int) 1 0 0 21 [.ref cd] [(cd, .inr (4, [.ref cdA, .int (nI n)])), (cdA, .inl (K, cap, .inl f))] [(K, .int)] (fun (r : Int32) (_ : Unit) => r = (numF f n)) (fun _ => [(cd, .inr (4, [.ref cdA, .int (nI n)])), (cdA, .inl (K, cap, .inl f))]) (fun _ => []) sz := by
  refine Met.ofW (cc := cX7_numberOf) (maxL := 3) (ret := (some .int)) (by decide) rfl ?_
  intro p e s m args below meth c s₁ B hml hv
  obtain ⟨rfl, hsz, hP, hK, hD0, hG⟩ := hv
  have hx := B.exec
  have hb := B.bytes
  have hr := B.returns
  have ht : ∀ v9 ∈ wsA, v9.before ([.ref cd] : List Value).toArray s = true := fun v9 h9 => atoms_spec (ws := k_ws yX7_numberOf cX7_numberOf 3 (some .int)) B.pre v9 (List.mem_cons_of_mem _ h9)
  have hown : s.vm.findClass RX7 = some m.cls := findClass_of_methodNamed B.named
  have S0 : k_C p s m ([.ref cd] : List Value).toArray c cX7_numberOf 3 RX7 := ⟨hx, hb, hml, hown, ht⟩
  have hlocks := B.notSynchronized
  subst hsz
  have hD := hD0.self (sz := s.heap.size)
  generalize hAe : va_A [(cd, .inr (4, [.ref cdA, .int (nI n)])), (cdA, .inl (K, cap, .inl f))] s.heap.size = A at hD hG ⊢
  have hA : ∀ q : Nat, s.heap.size ≤ q → A q := fun q h => by rw [← hAe]; exact Or.inr h
  have hS : va_S A s.heap s.heap [] := va_S.rf
  have hl := lv_entry ([.ref cd]) (n := 3) (Nat.le_of_ble_eq_true rfl)
  rw [lg_entry_eq]
  generalize (lg_sl ([.ref cd]) ++ List.replicate (3 - (lg_sl ([.ref cd])).length) Slot.unset).toArray = ls at hl ⊢
  have hl : lv_has ls 3 [(0, .ref cd)] := hl
  have hP : va_P D vwCl [(cd, .inr (4, [.ref cdA, .int (nI n)])), (cdA, .inl (K, cap, .inl f))] s.heap := hP
  refine lv_iconst (v := 0) hx hb dX7_numberOf_0 (by decide) ?_
  refine lv_istore_n (lv' := [(1, .int 0), (0, .ref cd)]) hx hb dX7_numberOf_1 rfl hl (by decide) rfl (fun ls hl => ?_)
  refine lv_iconst (v := 0) hx hb dX7_numberOf_2 (by decide) ?_
  refine lv_istore_n (lv' := [(2, .int 0), (1, .int 0), (0, .ref cd)]) hx hb dX7_numberOf_3 rfl hl (by decide) rfl (fun ls hl => ?_)
  have hl : lv_has ls 3 [(2, .int 0), (1, .int (numF f 0)), (0, .ref cd)] := hl
  have hl : lv_has ls 3 [(2, .int (nI 0)), (1, .int (numF f 0)), (0, .ref cd)] := hl
  refine k_loop (ι := Nat) (fun (i : Nat) H9 locs9 ls9 => (i ≤ n) ∧ va_P D vwCl [(cd, .inr (4, [.ref cdA, .int (nI n)])), (cdA, .inl (K, cap, .inl f))] H9 ∧ va_D A [(cd, .inr (4, [.ref cdA, .int (nI n)])), (cdA, .inl (K, cap, .inl f))] ∧ va_S A s.heap H9 locs9 ∧ lv_has ls9 3 [(1, .int (numF f i)), (2, .int (nI i)), (0, .ref cd)]) (fun (i : Nat) => n - i) ?_ (0) ⟨(Nat.zero_le _), hP.sub [0, 1] rfl, hD.sub [0, 1] (by decide) rfl, hS, lv_sub hl [1, 0, 2] rfl⟩
  intro x9 H locs ls hF9 ih9
  obtain ⟨i, hv9⟩ : ∃ z, z = x9 := ⟨_, rfl⟩
  subst hv9
  obtain ⟨hi, hP, hD, hS, hl⟩ := hF9
  try dsimp only at ih9
  have hP : va_P D vwCl [(cd, .inr (4, [.ref cdA, .int (nI n)])), (cdA, .inl (K, cap, .inl f))] H := hP
  have hD : va_D A [(cd, .inr (4, [.ref cdA, .int (nI n)])), (cdA, .inl (K, cap, .inl f))] := hD
  have hl : lv_has ls 3 [(1, .int (numF f i)), (2, .int (nI i)), (0, .ref cd)] := hl
  refine lv_iload_n hx hb dX7_numberOf_4 rfl (lv_at hl 1 rfl) ?_
  refine lv_aload_n hx hb dX7_numberOf_5 rfl (lv_at hl 2 rfl) ?_
  have ct := k_cut_of (wc := [(cd, .inr (4, [.ref cdA, .int (nI n)]))]) (wr := [(cdA, .inl (K, cap, .inl f))]) (tc := []) hG hS hA hK hP hD [0] [1] [] rfl rfl (by decide) (by decide) (by decide) rfl
  refine k_endi (As := [.ref cd]) ct (k_runV (As := []) (rest := [.int (nI i)]) S0 Lv_X7_136 rfl (ci := 4) (q0 := 0) rfl rfl ct (c_Row_size l D cd cdA (nI n) H.size) hl.1 rfl (Nat.le_of_ble_eq_true rfl) rfl dX7_numberOf_6 ⟨⟨Nat.le_of_ble_eq_true rfl, Nat.le_of_ble_eq_true rfl⟩, Nat.le_of_ble_eq_true rfl, Nat.le_of_ble_eq_true rfl⟩) rfl rfl (fun r_1 _ H locs hw_2 hP hD hK hS => ?_)
  have hK : va_K D vwCl [(K, .int)] s := hK
  have hP : va_P D vwCl [(cdA, .inl (K, cap, .inl f)), (cd, .inr (4, [.ref cdA, .int (nI n)]))] H := hP
  have hD : va_D A [(cdA, .inl (K, cap, .inl f)), (cd, .inr (4, [.ref cdA, .int (nI n)]))] := hD
  have hw_2 : r_1 = (nI n) := hw_2
  have hw_2 := hw_2.symm
  subst hw_2
  refine k_nrm (y := (nI n)) rfl ?_
  refine lv_icmp_ge (tgt := 29) hx hb dX7_numberOf_9 (by decide) (fun c_3 => ?_) (fun c_3 => ?_)
  · have hc9 := c_3
    obtain rfl : n = i := by rcases Nat.lt_or_ge i n with q9 | q9; exact absurd c_3 (nI_ge q9 (by omega)); omega
    refine lv_iload_n hx hb dX7_numberOf_29 rfl (lv_at hl 0 rfl) ?_
    have hP9 : va_P D vwCl [(cd, .inr (4, [.ref cdA, .int (nI n)])), (cdA, .inl (K, cap, .inl f))] H := hP.sub [1, 0] rfl
    have hD9 : va_D A [(cd, .inr (4, [.ref cdA, .int (nI n)])), (cdA, .inl (K, cap, .inl f))] := hD.sub [1, 0] (by decide) rfl
    have hK9 : va_K D vwCl [] s := hK.sub [] rfl
    exact W.iret (v := (numF f n)) hx hb hr (fun t ht9 hW9 => ⟨⟨(numF f n), (), rfl, by first | rfl | trivial | (simp only [hi, c_3, if_true, if_false, reduceIte, and_self]; done) | simp_all, ⟨by rw [ht9]; exact hP9, va_K.moved hW9.alike hK9, hD9⟩⟩, hS.F ht9⟩) hS.2.2 dX7_numberOf_30
  · have hc9 := c_3
    have hik : i + 1 ≤ n := by rcases Nat.lt_or_ge i n with q9 | q9; exact q9; exact absurd (nI_le q9 (by omega)) c_3
    refine lv_bipush (v := 10) hx hb dX7_numberOf_12 (by decide) ?_
    refine lv_iload_n hx hb dX7_numberOf_14 rfl (lv_at hl 0 rfl) ?_
    refine lv_imul hx hb dX7_numberOf_15 ?_
    refine k_nrm (y := (10 * numF f i)) (rfl) ?_
    refine lv_aload_n hx hb dX7_numberOf_16 rfl (lv_at hl 2 rfl) ?_
    refine lv_iload_n hx hb dX7_numberOf_17 rfl (lv_at hl 1 rfl) ?_
    have ct := k_cut_of (wc := [(cd, .inr (4, [.ref cdA, .int (nI n)])), (cdA, .inl (K, cap, .inl f))]) (wr := []) (tc := [(K, .int)]) hG hS hA hK hP hD [1, 0] [] [0] rfl rfl (by decide) (by decide) (by decide) rfl
    refine k_endi (As := [.ref cd, .int (nI i)]) ct (k_runV (As := [.int (nI i)]) (rest := [.int (10 * numF f i)]) S0 Lv_X7_79 rfl (ci := 4) (q0 := 0) rfl rfl ct (c_Row_at l D cd cdA (nI n) K cap f (nI i) (by first | assumption | decide) H.size) hl.1 rfl (Nat.le_of_ble_eq_true rfl) rfl dX7_numberOf_18 ⟨⟨Nat.le_of_ble_eq_true rfl, Nat.le_of_ble_eq_true rfl⟩, Nat.le_of_ble_eq_true rfl, Nat.le_of_ble_eq_true rfl⟩) rfl rfl (fun r_4 _ H locs hw_5 hP hD hK hS => ?_)
    have hK : va_K D vwCl [(K, .int)] s := hK
    have hP : va_P D vwCl [(cd, .inr (4, [.ref cdA, .int (nI n)])), (cdA, .inl (K, cap, .inl f))] H := hP
    have hD : va_D A [(cd, .inr (4, [.ref cdA, .int (nI n)])), (cdA, .inl (K, cap, .inl f))] := hD
    have hw_5 : r_4 = (rowAt cap (nI n) f (nI i)) := hw_5
    have hw_5 := hw_5.symm
    subst hw_5
    refine k_nrm (y := (rowAt cap (nI n) f (nI i))) rfl ?_
    refine k_nrm (y := f i) (rowAt_lt (by omega) hnc hcap) ?_
    refine lv_iadd hx hb dX7_numberOf_21 ?_
    refine k_nrm (y := (numF f (i + 1))) (rfl) ?_
    refine lv_istore_n (lv' := [(1, .int (numF f (i + 1))), (2, .int (nI i)), (0, .ref cd)]) hx hb dX7_numberOf_22 rfl hl (by decide) rfl (fun ls hl => ?_)
    obtain ⟨x_6, ex_6⟩ : ∃ z : Int32, z = (nI i) + 1 := ⟨_, rfl⟩
    refine lv_iinc (v := x_6) (lv' := [(2, .int x_6), (1, .int (numF f (i + 1))), (0, .ref cd)]) hx hb dX7_numberOf_23 hl (k := 1) rfl (by rw [ex_6]; rfl) (by decide) rfl (fun ls hl => ?_)
    refine lv_goto (tgt := 4) hx hb dX7_numberOf_26 (by decide) ?_
    have he9 : x_6 = (nI (i + 1)) := by rw [ex_6]; exact nI_1 i
    rw [he9] at hl
    have hl : lv_has ls 3 [(2, .int (nI (i + 1))), (1, .int (numF f (i + 1))), (0, .ref cd)] := hl
    exact ih9 (i + 1) H locs ls (by omega) ⟨hik, hP.sub [0, 1] rfl, hD.sub [0, 1] (by decide) rfl, hS, lv_sub hl [1, 0, 2] rfl⟩
set_option maxHeartbeats 4000000 in
set_option maxRecDepth 100000 in
theorem c_hasSucceeded (l : Launch) (D : va_G) (n : Int32) (sz : Nat) : k_Mi (S := Unit) l D yX7_hasSucceeded cX7_hasSucceeded 1 (some .boolean) 0 0 0 0 [.int n] [] [] (fun (r : Int32) (_ : Unit) => r = (if n = 0 then 1 else if n = (-1) then 1 else 0)) (fun _ => []) (fun _ => []) sz := by
  refine Met.ofW (cc := cX7_hasSucceeded) (maxL := 1) (ret := (some .boolean)) (by decide) rfl ?_
  intro p e s m args below meth c s₁ B hml hv
  obtain ⟨rfl, hsz, hP, hK, hD0, hG⟩ := hv
  have hx := B.exec
  have hb := B.bytes
  have hr := B.returns
  have ht : ∀ v9 ∈ wsA, v9.before ([.int n] : List Value).toArray s = true := fun v9 h9 => atoms_spec (ws := k_ws yX7_hasSucceeded cX7_hasSucceeded 1 (some .boolean)) B.pre v9 (List.mem_cons_of_mem _ h9)
  have hown : s.vm.findClass RX7 = some m.cls := findClass_of_methodNamed B.named
  have S0 : k_C p s m ([.int n] : List Value).toArray c cX7_hasSucceeded 1 RX7 := ⟨hx, hb, hml, hown, ht⟩
  have hlocks := B.notSynchronized
  subst hsz
  have hD := hD0.self (sz := s.heap.size)
  generalize hAe : va_A [] s.heap.size = A at hD hG ⊢
  have hA : ∀ q : Nat, s.heap.size ≤ q → A q := fun q h => by rw [← hAe]; exact Or.inr h
  have hS : va_S A s.heap s.heap [] := va_S.rf
  have hl := lv_entry ([.int n]) (n := 1) (Nat.le_of_ble_eq_true rfl)
  rw [lg_entry_eq]
  generalize (lg_sl ([.int n]) ++ List.replicate (1 - (lg_sl ([.int n])).length) Slot.unset).toArray = ls at hl ⊢
  have hl : lv_has ls 1 [(0, .int n)] := hl
  have hP : va_P D vwCl [] s.heap := hP
  refine lv_iload_n hx hb dX7_hasSucceeded_0 rfl (lv_at hl 0 rfl) ?_
  refine lv_if_eq (tgt := 9) hx hb dX7_hasSucceeded_1 (by decide) (fun c_1 => ?_) (fun c_1 => ?_)
  · have hc9 := c_1
    refine lv_iconst (v := 1) hx hb dX7_hasSucceeded_9 (by decide) ?_
    refine lv_goto (tgt := 14) hx hb dX7_hasSucceeded_10 (by decide) ?_
    have hP9 : va_P D vwCl [] s.heap := hP.sub [] rfl
    have hD9 : va_D A [] := hD.sub [] (by decide) rfl
    have hK9 : va_K D vwCl [] s := hK.sub [] rfl
    exact W.zret (v := 1) hx hb hr (rfl) (fun t ht9 hW9 => ⟨⟨1, (), rfl, by first | rfl | trivial | (simp only [c_1, if_true, if_false, reduceIte, and_self]; done) | simp_all, ⟨by rw [ht9]; exact hP9, va_K.moved hW9.alike hK9, hD9⟩⟩, hS.F ht9⟩) hS.2.2 dX7_hasSucceeded_14
  · have hc9 := c_1
    refine lv_iload_n hx hb dX7_hasSucceeded_4 rfl (lv_at hl 0 rfl) ?_
    refine lv_iconst (v := (-1)) hx hb dX7_hasSucceeded_5 (by decide) ?_
    refine lv_icmp_ne (tgt := 13) hx hb dX7_hasSucceeded_6 (by decide) (fun c_2 => ?_) (fun c_2 => ?_)
    · have hc9 := c_2
      refine lv_iconst (v := 0) hx hb dX7_hasSucceeded_13 (by decide) ?_
      have hP9 : va_P D vwCl [] s.heap := hP.sub [] rfl
      have hD9 : va_D A [] := hD.sub [] (by decide) rfl
      have hK9 : va_K D vwCl [] s := hK.sub [] rfl
      exact W.zret (v := 0) hx hb hr (rfl) (fun t ht9 hW9 => ⟨⟨0, (), rfl, by first | rfl | trivial | (simp only [c_1, c_2, if_true, if_false, reduceIte, and_self]; done) | simp_all, ⟨by rw [ht9]; exact hP9, va_K.moved hW9.alike hK9, hD9⟩⟩, hS.F ht9⟩) hS.2.2 dX7_hasSucceeded_14
    · have hc9 := c_2
      refine lv_iconst (v := 1) hx hb dX7_hasSucceeded_9 (by decide) ?_
      refine lv_goto (tgt := 14) hx hb dX7_hasSucceeded_10 (by decide) ?_
      have hP9 : va_P D vwCl [] s.heap := hP.sub [] rfl
      have hD9 : va_D A [] := hD.sub [] (by decide) rfl
      have hK9 : va_K D vwCl [] s := hK.sub [] rfl
      exact W.zret (v := 1) hx hb hr (rfl) (fun t ht9 hW9 => ⟨⟨1, (), rfl, by first | rfl | trivial | (simp only [c_1, c_2, if_true, if_false, reduceIte, and_self]; done) | simp_all, ⟨by rw [ht9]; exact hP9, va_K.moved hW9.alike hK9, hD9⟩⟩, hS.F ht9⟩) hS.2.2 dX7_hasSucceeded_14
set_option maxHeartbeats 4000000 in
set_option maxRecDepth 100000 in
theorem c_setDigits (l : Launch) (D : va_G) (la : Nat) (ld : Nat) (lz : Nat) (ldA : Nat) (ldN : Int32) (K : ClassId) (ldf : Nat → Int32) (lzA : Nat) (lzN : Int32) (lzf : Nat → Int32) (d : Int32) (z : Int32) (j : Nat) (hz : z = nI j) (hj1 : 1 ≤ j) (hj8 : j ≤ 8) (sz : Nat) : k_Mv (S := Unit) l D yX2_setDigits cX2_setDigits 5 none 2 0 0 45 [.ref la, .int d, .int z] [(la, .inr (2, [.ref ld, .ref lz])), (ld, .inr (4, [.ref ldA, .int ldN])), (ldA, .inl (K, 9, .inl ldf)), (lz, .inr (4, [.ref lzA, .int lzN])), (lzA, .inl (K, 41, .inl lzf))] [(K, .int)] (fun (_ : Unit) => True) (fun _ => [(la, .inr (2, [.ref ld, .ref lz])), (ld, .inr (4, [.ref ldA, .int (nI (j + 1))])), (ldA, .inl (K, 9, .inl (upd (dgs d 0 j (zrf ldf (j + 1)) j) j (chkd (csum (dgs d 0 j (zrf ldf (j + 1)) j) j j))))), (lz, .inr (4, [.ref lzA, .int (nI (4 * j + 9))])), (lzA, .inl (K, 41, .inl (zrf lzf (4 * j + 9))))]) (fun _ => []) sz := by
  refine Met.ofW (cc := cX2_setDigits) (maxL := 5) (ret := none) (by decide) rfl ?_
  intro p e s m args below meth c s₁ B hml hv
  obtain ⟨rfl, hsz, hP, hK, hD0, hG⟩ := hv
  have hx := B.exec
  have hb := B.bytes
  have hr := B.returns
  have ht : ∀ v9 ∈ wsA, v9.before ([.ref la, .int d, .int z] : List Value).toArray s = true := fun v9 h9 => atoms_spec (ws := k_ws yX2_setDigits cX2_setDigits 5 none) B.pre v9 (List.mem_cons_of_mem _ h9)
  have hown : s.vm.findClass RX2 = some m.cls := findClass_of_methodNamed B.named
  have S0 : k_C p s m ([.ref la, .int d, .int z] : List Value).toArray c cX2_setDigits 5 RX2 := ⟨hx, hb, hml, hown, ht⟩
  have hlocks := B.notSynchronized
  subst hsz
  have hD := hD0.self (sz := s.heap.size)
  generalize hAe : va_A [(la, .inr (2, [.ref ld, .ref lz])), (ld, .inr (4, [.ref ldA, .int ldN])), (ldA, .inl (K, 9, .inl ldf)), (lz, .inr (4, [.ref lzA, .int lzN])), (lzA, .inl (K, 41, .inl lzf))] s.heap.size = A at hD hG ⊢
  have hA : ∀ q : Nat, s.heap.size ≤ q → A q := fun q h => by rw [← hAe]; exact Or.inr h
  have hS : va_S A s.heap s.heap [] := va_S.rf
  have hl := lv_entry ([.ref la, .int d, .int z]) (n := 5) (Nat.le_of_ble_eq_true rfl)
  rw [lg_entry_eq]
  generalize (lg_sl ([.ref la, .int d, .int z]) ++ List.replicate (5 - (lg_sl ([.ref la, .int d, .int z])).length) Slot.unset).toArray = ls at hl ⊢
  have hl : lv_has ls 5 [(0, .ref la), (1, .int d), (2, .int z)] := hl
  have hP : va_P D vwCl [(la, .inr (2, [.ref ld, .ref lz])), (ld, .inr (4, [.ref ldA, .int ldN])), (ldA, .inl (K, 9, .inl ldf)), (lz, .inr (4, [.ref lzA, .int lzN])), (lzA, .inl (K, 41, .inl lzf))] s.heap := hP
  have he9 : z = (nI j) := hz
  rw [he9] at hl
  have hl : lv_has ls 5 [(0, .ref la), (1, .int d), (2, .int (nI j))] := hl
  refine lv_aload_n hx hb dX2_setDigits_0 rfl (lv_at hl 0 rfl) ?_
  refine va_get (D := D) (ci := 2) (v := .ref ld) (C := RX2) (T := TX2) (N := 2) hx hb ht inA_X2 hown hK hP 0 rfl rfl 0 (by decide) (ht _ lf_X2_14) (fun _ h9 => h9) rfl dX2_setDigits_1 ?_
  refine lv_iload_n hx hb dX2_setDigits_4 rfl (lv_at hl 2 rfl) ?_
  refine lv_iconst (v := 1) hx hb dX2_setDigits_5 (by decide) ?_
  refine lv_iadd hx hb dX2_setDigits_6 ?_
  refine k_nrm (y := (nI (j + 1))) (nI_1 j) ?_
  have ct := k_cut_of (wc := [(ld, .inr (4, [.ref ldA, .int ldN])), (ldA, .inl (K, 9, .inl ldf))]) (wr := [(la, .inr (2, [.ref ld, .ref lz])), (lz, .inr (4, [.ref lzA, .int lzN])), (lzA, .inl (K, 41, .inl lzf))]) (tc := [(K, .int)]) hG hS hA hK hP hD [1, 2] [0, 3, 4] [0] rfl rfl (by decide) (by decide) (by decide) rfl
  refine k_endv (As := [.ref ld, .int (nI (j + 1))]) ct (k_runV (As := [.int (nI (j + 1))]) (rest := []) S0 Lv_X2_27 rfl (ci := 4) (q0 := 0) rfl rfl ct (c_Row_fill l D ld ldA ldN K 9 ldf (nI (j + 1)) (j + 1) (by first | assumption | decide) rfl (by omega) s.heap.size) hl.1 rfl (Nat.le_of_ble_eq_true rfl) rfl dX2_setDigits_7 ⟨⟨Nat.le_of_ble_eq_true rfl, Nat.le_of_ble_eq_true rfl⟩, Nat.le_of_ble_eq_true rfl, Nat.le_of_ble_eq_true rfl⟩) rfl rfl (fun _ _ H locs hw_2 hP hD hK hS => ?_)
  have hK : va_K D vwCl [(K, .int)] s := hK
  have hP : va_P D vwCl [(la, .inr (2, [.ref ld, .ref lz])), (lz, .inr (4, [.ref lzA, .int lzN])), (lzA, .inl (K, 41, .inl lzf)), (ld, .inr (4, [.ref ldA, .int (nI (j + 1))])), (ldA, .inl (K, 9, .inl (zrf ldf (j + 1))))] H := hP
  have hD : va_D A [(la, .inr (2, [.ref ld, .ref lz])), (lz, .inr (4, [.ref lzA, .int lzN])), (lzA, .inl (K, 41, .inl lzf)), (ld, .inr (4, [.ref ldA, .int (nI (j + 1))])), (ldA, .inl (K, 9, .inl (zrf ldf (j + 1))))] := hD
  refine lv_iload_n hx hb dX2_setDigits_10 rfl (lv_at hl 1 rfl) ?_
  refine lv_istore_n (lv' := [(3, .int d), (0, .ref la), (1, .int d), (2, .int (nI j))]) hx hb dX2_setDigits_11 rfl hl (by decide) rfl (fun ls hl => ?_)
  refine lv_iload_n hx hb dX2_setDigits_12 rfl (lv_at hl 3 rfl) ?_
  refine lv_iconst (v := 1) hx hb dX2_setDigits_13 (by decide) ?_
  refine lv_isub hx hb dX2_setDigits_14 ?_
  refine k_nrm (y := (kd j 0)) (rfl) ?_
  refine lv_istore (lv' := [(4, .int (kd j 0)), (3, .int d), (0, .ref la), (1, .int d), (2, .int (nI j))]) hx hb dX2_setDigits_15 hl (by decide) rfl (fun ls hl => ?_)
  have hl : lv_has ls 5 [(4, .int (kd j 0)), (3, .int (rs d 0)), (0, .ref la), (1, .int d), (2, .int (nI j))] := hl
  have hf_3 : ((zrf ldf (j + 1)) : Nat → Int32) = (dgs d 0 j (zrf ldf (j + 1)) 0) := (dgs_0 d 0 j _).symm
  have hP : va_P D vwCl [(la, .inr (2, [.ref ld, .ref lz])), (lz, .inr (4, [.ref lzA, .int lzN])), (lzA, .inl (K, 41, .inl lzf)), (ld, .inr (4, [.ref ldA, .int (nI (j + 1))])), (ldA, .inl (K, 9, .inl (dgs d 0 j (zrf ldf (j + 1)) 0)))] H := (congrArg (fun z9 : Nat → Int32 => va_P D vwCl [(la, .inr (2, [.ref ld, .ref lz])), (lz, .inr (4, [.ref lzA, .int lzN])), (lzA, .inl (K, 41, .inl lzf)), (ld, .inr (4, [.ref ldA, .int (nI (j + 1))])), (ldA, .inl (K, 9, .inl z9))] H) hf_3).mp hP
  have hD : va_D A [(la, .inr (2, [.ref ld, .ref lz])), (lz, .inr (4, [.ref lzA, .int lzN])), (lzA, .inl (K, 41, .inl lzf)), (ld, .inr (4, [.ref ldA, .int (nI (j + 1))])), (ldA, .inl (K, 9, .inl (dgs d 0 j (zrf ldf (j + 1)) 0)))] := (congrArg (fun z9 : Nat → Int32 => va_D A [(la, .inr (2, [.ref ld, .ref lz])), (lz, .inr (4, [.ref lzA, .int lzN])), (lzA, .inl (K, 41, .inl lzf)), (ld, .inr (4, [.ref ldA, .int (nI (j + 1))])), (ldA, .inl (K, 9, .inl z9))]) hf_3).mp hD
  refine k_loop (ι := Nat) (fun (i : Nat) H9 locs9 ls9 => (i ≤ j) ∧ va_P D vwCl [(la, .inr (2, [.ref ld, .ref lz])), (ld, .inr (4, [.ref ldA, .int (nI (j + 1))])), (ldA, .inl (K, 9, .inl (dgs d 0 j (zrf ldf (j + 1)) i))), (lz, .inr (4, [.ref lzA, .int lzN])), (lzA, .inl (K, 41, .inl lzf))] H9 ∧ va_D A [(la, .inr (2, [.ref ld, .ref lz])), (ld, .inr (4, [.ref ldA, .int (nI (j + 1))])), (ldA, .inl (K, 9, .inl (dgs d 0 j (zrf ldf (j + 1)) i))), (lz, .inr (4, [.ref lzA, .int lzN])), (lzA, .inl (K, 41, .inl lzf))] ∧ va_S A s.heap H9 locs9 ∧ lv_has ls9 5 [(3, .int (rs d i)), (4, .int (kd j i)), (0, .ref la), (1, .int d), (2, .int (nI j))]) (fun (i : Nat) => j - i) ?_ (0) ⟨(Nat.zero_le _), hP.sub [0, 3, 4, 1, 2] rfl, hD.sub [0, 3, 4, 1, 2] (by decide) rfl, hS, lv_sub hl [1, 0, 2, 3, 4] rfl⟩
  intro x9 H locs ls hF9 ih9
  obtain ⟨i, hv9⟩ : ∃ z, z = x9 := ⟨_, rfl⟩
  subst hv9
  obtain ⟨hi, hP, hD, hS, hl⟩ := hF9
  try dsimp only at ih9
  have hP : va_P D vwCl [(la, .inr (2, [.ref ld, .ref lz])), (ld, .inr (4, [.ref ldA, .int (nI (j + 1))])), (ldA, .inl (K, 9, .inl (dgs d 0 j (zrf ldf (j + 1)) i))), (lz, .inr (4, [.ref lzA, .int lzN])), (lzA, .inl (K, 41, .inl lzf))] H := hP
  have hD : va_D A [(la, .inr (2, [.ref ld, .ref lz])), (ld, .inr (4, [.ref ldA, .int (nI (j + 1))])), (ldA, .inl (K, 9, .inl (dgs d 0 j (zrf ldf (j + 1)) i))), (lz, .inr (4, [.ref lzA, .int lzN])), (lzA, .inl (K, 41, .inl lzf))] := hD
  have hl : lv_has ls 5 [(3, .int (rs d i)), (4, .int (kd j i)), (0, .ref la), (1, .int d), (2, .int (nI j))] := hl
  refine lv_iload hx hb dX2_setDigits_17 (lv_at hl 1 rfl) ?_
  refine lv_if_lt (tgt := 46) hx hb dX2_setDigits_19 (by decide) (fun c_4 => ?_) (fun c_4 => ?_)
  · have hc9 := c_4
    obtain rfl : j = i := by rcases Nat.lt_or_ge i j with q9 | q9; exact absurd c_4 (kd_pos q9 (by omega)); omega
    refine lv_aload_n hx hb dX2_setDigits_46 rfl (lv_at hl 2 rfl) ?_
    refine va_get (D := D) (ci := 2) (v := .ref ld) (C := RX2) (T := TX2) (N := 2) hx hb ht inA_X2 hown hK hP 0 rfl rfl 0 (by decide) (ht _ lf_X2_14) (fun _ h9 => h9) rfl dX2_setDigits_47 ?_
    refine lv_iload_n hx hb dX2_setDigits_50 rfl (lv_at hl 4 rfl) ?_
    refine lv_aload_n hx hb dX2_setDigits_51 rfl (lv_at hl 2 rfl) ?_
    refine va_get (D := D) (ci := 2) (v := .ref ld) (C := RX2) (T := TX2) (N := 2) hx hb ht inA_X2 hown hK hP 0 rfl rfl 0 (by decide) (ht _ lf_X2_14) (fun _ h9 => h9) rfl dX2_setDigits_52 ?_
    refine lv_iload_n hx hb dX2_setDigits_55 rfl (lv_at hl 4 rfl) ?_
    have ct := k_cut_of (wc := [(ld, .inr (4, [.ref ldA, .int (nI (j + 1))])), (ldA, .inl (K, 9, .inl (dgs d 0 j (zrf ldf (j + 1)) j)))]) (wr := [(la, .inr (2, [.ref ld, .ref lz])), (lz, .inr (4, [.ref lzA, .int lzN])), (lzA, .inl (K, 41, .inl lzf))]) (tc := [(K, .int)]) hG hS hA hK hP hD [1, 2] [0, 3, 4] [0] rfl rfl (by decide) (by decide) (by decide) rfl
    refine k_endi (As := [.ref ld, .int (nI j)]) ct (k_runSN (As := [.ref ld, .int (nI j)]) (rest := [.int (nI j), .ref ld]) S0 Ls_X2_34 ct (c_check l D ld ldA (j + 1) K 9 (dgs d 0 j (zrf ldf (j + 1)) j) (nI j) j (by first | assumption | decide) rfl (by omega) (by omega) (by omega) H.size) hl.1 rfl (Nat.le_of_ble_eq_true rfl) rfl dX2_setDigits_56 ⟨⟨Nat.le_of_ble_eq_true rfl, Nat.le_of_ble_eq_true rfl⟩, Nat.le_of_ble_eq_true rfl, Nat.le_of_ble_eq_true rfl⟩) rfl rfl (fun r_5 _ H locs hw_6 hP hD hK hS => ?_)
    have hK : va_K D vwCl [(K, .int)] s := hK
    have hP : va_P D vwCl [(la, .inr (2, [.ref ld, .ref lz])), (lz, .inr (4, [.ref lzA, .int lzN])), (lzA, .inl (K, 41, .inl lzf)), (ld, .inr (4, [.ref ldA, .int (nI (j + 1))])), (ldA, .inl (K, 9, .inl (dgs d 0 j (zrf ldf (j + 1)) j)))] H := hP
    have hD : va_D A [(la, .inr (2, [.ref ld, .ref lz])), (lz, .inr (4, [.ref lzA, .int lzN])), (lzA, .inl (K, 41, .inl lzf)), (ld, .inr (4, [.ref ldA, .int (nI (j + 1))])), (ldA, .inl (K, 9, .inl (dgs d 0 j (zrf ldf (j + 1)) j)))] := hD
    have hw_6 : r_5 = (chkd (csum (dgs d 0 j (zrf ldf (j + 1)) j) j j)) := hw_6
    have hw_6 := hw_6.symm
    subst hw_6
    refine k_nrm (y := (chkd (csum (dgs d 0 j (zrf ldf (j + 1)) j) j j))) rfl ?_
    have ct := k_cut_of (wc := [(ld, .inr (4, [.ref ldA, .int (nI (j + 1))])), (ldA, .inl (K, 9, .inl (dgs d 0 j (zrf ldf (j + 1)) j)))]) (wr := [(la, .inr (2, [.ref ld, .ref lz])), (lz, .inr (4, [.ref lzA, .int lzN])), (lzA, .inl (K, 41, .inl lzf))]) (tc := [(K, .int)]) hG hS hA hK hP hD [3, 4] [0, 1, 2] [0] rfl rfl (by decide) (by decide) (by decide) rfl
    refine k_endv (As := [.ref ld, .int (nI j), .int (chkd (csum (dgs d 0 j (zrf ldf (j + 1)) j) j j))]) ct (k_runV (As := [.int (nI j), .int (chkd (csum (dgs d 0 j (zrf ldf (j + 1)) j) j j))]) (rest := []) S0 Lv_X2_30 rfl (ci := 4) (q0 := 0) rfl rfl ct (c_Row_put l D ld ldA (nI (j + 1)) K 9 (dgs d 0 j (zrf ldf (j + 1)) j) (nI j) (chkd (csum (dgs d 0 j (zrf ldf (j + 1)) j) j j)) (by first | assumption | decide) H.size) hl.1 rfl (Nat.le_of_ble_eq_true rfl) rfl dX2_setDigits_59 ⟨⟨Nat.le_of_ble_eq_true rfl, Nat.le_of_ble_eq_true rfl⟩, Nat.le_of_ble_eq_true rfl, Nat.le_of_ble_eq_true rfl⟩) rfl rfl (fun _ _ H locs hw_8 hP hD hK hS => ?_)
    have hK : va_K D vwCl [(K, .int)] s := hK
    have hP : va_P D vwCl [(la, .inr (2, [.ref ld, .ref lz])), (lz, .inr (4, [.ref lzA, .int lzN])), (lzA, .inl (K, 41, .inl lzf)), (ld, .inr (4, [.ref ldA, .int (nI (j + 1))])), (ldA, .inl (K, 9, .inl (rowPut 9 (nI (j + 1)) (dgs d 0 j (zrf ldf (j + 1)) j) (nI j) (chkd (csum (dgs d 0 j (zrf ldf (j + 1)) j) j j)))))] H := hP
    have hD : va_D A [(la, .inr (2, [.ref ld, .ref lz])), (lz, .inr (4, [.ref lzA, .int lzN])), (lzA, .inl (K, 41, .inl lzf)), (ld, .inr (4, [.ref ldA, .int (nI (j + 1))])), (ldA, .inl (K, 9, .inl (rowPut 9 (nI (j + 1)) (dgs d 0 j (zrf ldf (j + 1)) j) (nI j) (chkd (csum (dgs d 0 j (zrf ldf (j + 1)) j) j j)))))] := hD
    have hf_9 : ((rowPut 9 (nI (j + 1)) (dgs d 0 j (zrf ldf (j + 1)) j) (nI j) (chkd (csum (dgs d 0 j (zrf ldf (j + 1)) j) j j))) : Nat → Int32) = (upd (dgs d 0 j (zrf ldf (j + 1)) j) j (chkd (csum (dgs d 0 j (zrf ldf (j + 1)) j) j j))) := rowPut_lt (by omega) (by omega) (by decide)
    have hP : va_P D vwCl [(la, .inr (2, [.ref ld, .ref lz])), (lz, .inr (4, [.ref lzA, .int lzN])), (lzA, .inl (K, 41, .inl lzf)), (ld, .inr (4, [.ref ldA, .int (nI (j + 1))])), (ldA, .inl (K, 9, .inl (upd (dgs d 0 j (zrf ldf (j + 1)) j) j (chkd (csum (dgs d 0 j (zrf ldf (j + 1)) j) j j)))))] H := (congrArg (fun z9 : Nat → Int32 => va_P D vwCl [(la, .inr (2, [.ref ld, .ref lz])), (lz, .inr (4, [.ref lzA, .int lzN])), (lzA, .inl (K, 41, .inl lzf)), (ld, .inr (4, [.ref ldA, .int (nI (j + 1))])), (ldA, .inl (K, 9, .inl z9))] H) hf_9).mp hP
    have hD : va_D A [(la, .inr (2, [.ref ld, .ref lz])), (lz, .inr (4, [.ref lzA, .int lzN])), (lzA, .inl (K, 41, .inl lzf)), (ld, .inr (4, [.ref ldA, .int (nI (j + 1))])), (ldA, .inl (K, 9, .inl (upd (dgs d 0 j (zrf ldf (j + 1)) j) j (chkd (csum (dgs d 0 j (zrf ldf (j + 1)) j) j j)))))] := (congrArg (fun z9 : Nat → Int32 => va_D A [(la, .inr (2, [.ref ld, .ref lz])), (lz, .inr (4, [.ref lzA, .int lzN])), (lzA, .inl (K, 41, .inl lzf)), (ld, .inr (4, [.ref ldA, .int (nI (j + 1))])), (ldA, .inl (K, 9, .inl z9))]) hf_9).mp hD
    refine lv_aload_n hx hb dX2_setDigits_62 rfl (lv_at hl 2 rfl) ?_
    refine va_get (D := D) (ci := 2) (v := .ref lz) (C := RX2) (T := TX2) (N := 2) hx hb ht inA_X2 hown hK hP 0 rfl rfl 1 (by decide) (ht _ lf_X2_20) (fun _ h9 => h9) rfl dX2_setDigits_63 ?_
    refine lv_iconst (v := 3) hx hb dX2_setDigits_66 (by decide) ?_
    refine lv_iconst (v := 4) hx hb dX2_setDigits_67 (by decide) ?_
    refine lv_aload_n hx hb dX2_setDigits_68 rfl (lv_at hl 2 rfl) ?_
    refine va_get (D := D) (ci := 2) (v := .ref ld) (C := RX2) (T := TX2) (N := 2) hx hb ht inA_X2 hown hK hP 0 rfl rfl 0 (by decide) (ht _ lf_X2_14) (fun _ h9 => h9) rfl dX2_setDigits_69 ?_
    have ct := k_cut_of (wc := [(ld, .inr (4, [.ref ldA, .int (nI (j + 1))]))]) (wr := [(la, .inr (2, [.ref ld, .ref lz])), (lz, .inr (4, [.ref lzA, .int lzN])), (lzA, .inl (K, 41, .inl lzf)), (ldA, .inl (K, 9, .inl (upd (dgs d 0 j (zrf ldf (j + 1)) j) j (chkd (csum (dgs d 0 j (zrf ldf (j + 1)) j) j j)))))]) (tc := []) hG hS hA hK hP hD [3] [0, 1, 2, 4] [] rfl rfl (by decide) (by decide) (by decide) rfl
    refine k_endi (As := [.ref ld]) ct (k_runV (As := []) (rest := [.int 4, .int 3, .ref lz]) S0 Lv_X2_23 rfl (ci := 4) (q0 := 0) rfl rfl ct (c_Row_size l D ld ldA (nI (j + 1)) H.size) hl.1 rfl (Nat.le_of_ble_eq_true rfl) rfl dX2_setDigits_72 ⟨⟨Nat.le_of_ble_eq_true rfl, Nat.le_of_ble_eq_true rfl⟩, Nat.le_of_ble_eq_true rfl, Nat.le_of_ble_eq_true rfl⟩) rfl rfl (fun r_10 _ H locs hw_11 hP hD hK hS => ?_)
    have hK : va_K D vwCl [(K, .int)] s := hK
    have hP : va_P D vwCl [(la, .inr (2, [.ref ld, .ref lz])), (lz, .inr (4, [.ref lzA, .int lzN])), (lzA, .inl (K, 41, .inl lzf)), (ldA, .inl (K, 9, .inl (upd (dgs d 0 j (zrf ldf (j + 1)) j) j (chkd (csum (dgs d 0 j (zrf ldf (j + 1)) j) j j))))), (ld, .inr (4, [.ref ldA, .int (nI (j + 1))]))] H := hP
    have hD : va_D A [(la, .inr (2, [.ref ld, .ref lz])), (lz, .inr (4, [.ref lzA, .int lzN])), (lzA, .inl (K, 41, .inl lzf)), (ldA, .inl (K, 9, .inl (upd (dgs d 0 j (zrf ldf (j + 1)) j) j (chkd (csum (dgs d 0 j (zrf ldf (j + 1)) j) j j))))), (ld, .inr (4, [.ref ldA, .int (nI (j + 1))]))] := hD
    have hw_11 : r_10 = (nI (j + 1)) := hw_11
    have hw_11 := hw_11.symm
    subst hw_11
    refine k_nrm (y := (nI (j + 1))) rfl ?_
    refine lv_imul hx hb dX2_setDigits_75 ?_
    refine k_nrm (y := (nI (4 * (j + 1)))) (pk_mul 4 (j + 1)) ?_
    refine lv_iadd hx hb dX2_setDigits_76 ?_
    refine k_nrm (y := (nI (3 + 4 * (j + 1)))) (nI_add 3 (4 * (j + 1))) ?_
    refine lv_iconst (v := 2) hx hb dX2_setDigits_77 (by decide) ?_
    refine lv_iadd hx hb dX2_setDigits_78 ?_
    refine k_nrm (y := (nI (4 * j + 9))) (by rw [show (2 : Int32) = nI 2 from rfl, nI_add, show 3 + 4 * (j + 1) + 2 = 4 * j + 9 from by omega]) ?_
    have ct := k_cut_of (wc := [(lz, .inr (4, [.ref lzA, .int lzN])), (lzA, .inl (K, 41, .inl lzf))]) (wr := [(la, .inr (2, [.ref ld, .ref lz])), (ldA, .inl (K, 9, .inl (upd (dgs d 0 j (zrf ldf (j + 1)) j) j (chkd (csum (dgs d 0 j (zrf ldf (j + 1)) j) j j))))), (ld, .inr (4, [.ref ldA, .int (nI (j + 1))]))]) (tc := [(K, .int)]) hG hS hA hK hP hD [1, 2] [0, 3, 4] [0] rfl rfl (by decide) (by decide) (by decide) rfl
    refine k_endv (As := [.ref lz, .int (nI (4 * j + 9))]) ct (k_runV (As := [.int (nI (4 * j + 9))]) (rest := []) S0 Lv_X2_27 rfl (ci := 4) (q0 := 0) rfl rfl ct (c_Row_fill l D lz lzA lzN K 41 lzf (nI (4 * j + 9)) (4 * j + 9) (by first | assumption | decide) rfl (by omega) H.size) hl.1 rfl (Nat.le_of_ble_eq_true rfl) rfl dX2_setDigits_79 ⟨⟨Nat.le_of_ble_eq_true rfl, Nat.le_of_ble_eq_true rfl⟩, Nat.le_of_ble_eq_true rfl, Nat.le_of_ble_eq_true rfl⟩) rfl rfl (fun _ _ H locs hw_13 hP hD hK hS => ?_)
    have hK : va_K D vwCl [(K, .int)] s := hK
    have hP : va_P D vwCl [(la, .inr (2, [.ref ld, .ref lz])), (ldA, .inl (K, 9, .inl (upd (dgs d 0 j (zrf ldf (j + 1)) j) j (chkd (csum (dgs d 0 j (zrf ldf (j + 1)) j) j j))))), (ld, .inr (4, [.ref ldA, .int (nI (j + 1))])), (lz, .inr (4, [.ref lzA, .int (nI (4 * j + 9))])), (lzA, .inl (K, 41, .inl (zrf lzf (4 * j + 9))))] H := hP
    have hD : va_D A [(la, .inr (2, [.ref ld, .ref lz])), (ldA, .inl (K, 9, .inl (upd (dgs d 0 j (zrf ldf (j + 1)) j) j (chkd (csum (dgs d 0 j (zrf ldf (j + 1)) j) j j))))), (ld, .inr (4, [.ref ldA, .int (nI (j + 1))])), (lz, .inr (4, [.ref lzA, .int (nI (4 * j + 9))])), (lzA, .inl (K, 41, .inl (zrf lzf (4 * j + 9))))] := hD
    have hP9 : va_P D vwCl [(la, .inr (2, [.ref ld, .ref lz])), (ld, .inr (4, [.ref ldA, .int (nI (j + 1))])), (ldA, .inl (K, 9, .inl (upd (dgs d 0 j (zrf ldf (j + 1)) j) j (chkd (csum (dgs d 0 j (zrf ldf (j + 1)) j) j j))))), (lz, .inr (4, [.ref lzA, .int (nI (4 * j + 9))])), (lzA, .inl (K, 41, .inl (zrf lzf (4 * j + 9))))] H := hP.sub [0, 2, 1, 3, 4] rfl
    have hD9 : va_D A [(la, .inr (2, [.ref ld, .ref lz])), (ld, .inr (4, [.ref ldA, .int (nI (j + 1))])), (ldA, .inl (K, 9, .inl (upd (dgs d 0 j (zrf ldf (j + 1)) j) j (chkd (csum (dgs d 0 j (zrf ldf (j + 1)) j) j j))))), (lz, .inr (4, [.ref lzA, .int (nI (4 * j + 9))])), (lzA, .inl (K, 41, .inl (zrf lzf (4 * j + 9))))] := hD.sub [0, 2, 1, 3, 4] (by decide) rfl
    have hK9 : va_K D vwCl [] s := hK.sub [] rfl
    exact W.vret hx hb hr (fun t ht9 hW9 => ⟨⟨(), rfl, by first | rfl | trivial | (simp only [hi, c_4, if_true, if_false, reduceIte, and_self]; done) | simp_all, ⟨by rw [ht9]; exact hP9, va_K.moved hW9.alike hK9, hD9⟩⟩, hS.F ht9⟩) hS.2.2 dX2_setDigits_82
  · have hc9 := c_4
    have hik : i + 1 ≤ j := by rcases Nat.lt_or_ge i j with q9 | q9; exact q9; exact absurd (kd_neg q9 (by omega)) c_4
    refine lv_aload_n hx hb dX2_setDigits_22 rfl (lv_at hl 2 rfl) ?_
    refine va_get (D := D) (ci := 2) (v := .ref ld) (C := RX2) (T := TX2) (N := 2) hx hb ht inA_X2 hown hK hP 0 rfl rfl 0 (by decide) (ht _ lf_X2_14) (fun _ h9 => h9) rfl dX2_setDigits_23 ?_
    refine lv_iload hx hb dX2_setDigits_26 (lv_at hl 1 rfl) ?_
    refine lv_iload_n hx hb dX2_setDigits_28 rfl (lv_at hl 0 rfl) ?_
    refine lv_bipush (v := 10) hx hb dX2_setDigits_29 (by decide) ?_
    refine lv_irem hx hb dX2_setDigits_31 (by decide) ?_
    refine k_nrm (y := (rem10 (rs d i))) (rfl) ?_
    have ct := k_cut_of (wc := [(ld, .inr (4, [.ref ldA, .int (nI (j + 1))])), (ldA, .inl (K, 9, .inl (dgs d 0 j (zrf ldf (j + 1)) i)))]) (wr := [(la, .inr (2, [.ref ld, .ref lz])), (lz, .inr (4, [.ref lzA, .int lzN])), (lzA, .inl (K, 41, .inl lzf))]) (tc := [(K, .int)]) hG hS hA hK hP hD [1, 2] [0, 3, 4] [0] rfl rfl (by decide) (by decide) (by decide) rfl
    refine k_endv (As := [.ref ld, .int (kd j i), .int (rem10 (rs d i))]) ct (k_runV (As := [.int (kd j i), .int (rem10 (rs d i))]) (rest := []) S0 Lv_X2_30 rfl (ci := 4) (q0 := 0) rfl rfl ct (c_Row_put l D ld ldA (nI (j + 1)) K 9 (dgs d 0 j (zrf ldf (j + 1)) i) (kd j i) (rem10 (rs d i)) (by first | assumption | decide) H.size) hl.1 rfl (Nat.le_of_ble_eq_true rfl) rfl dX2_setDigits_32 ⟨⟨Nat.le_of_ble_eq_true rfl, Nat.le_of_ble_eq_true rfl⟩, Nat.le_of_ble_eq_true rfl, Nat.le_of_ble_eq_true rfl⟩) rfl rfl (fun _ _ H locs hw_15 hP hD hK hS => ?_)
    have hK : va_K D vwCl [(K, .int)] s := hK
    have hP : va_P D vwCl [(la, .inr (2, [.ref ld, .ref lz])), (lz, .inr (4, [.ref lzA, .int lzN])), (lzA, .inl (K, 41, .inl lzf)), (ld, .inr (4, [.ref ldA, .int (nI (j + 1))])), (ldA, .inl (K, 9, .inl (rowPut 9 (nI (j + 1)) (dgs d 0 j (zrf ldf (j + 1)) i) (kd j i) (rem10 (rs d i)))))] H := hP
    have hD : va_D A [(la, .inr (2, [.ref ld, .ref lz])), (lz, .inr (4, [.ref lzA, .int lzN])), (lzA, .inl (K, 41, .inl lzf)), (ld, .inr (4, [.ref ldA, .int (nI (j + 1))])), (ldA, .inl (K, 9, .inl (rowPut 9 (nI (j + 1)) (dgs d 0 j (zrf ldf (j + 1)) i) (kd j i) (rem10 (rs d i)))))] := hD
    have hf_16 : ((rowPut 9 (nI (j + 1)) (dgs d 0 j (zrf ldf (j + 1)) i) (kd j i) (rem10 (rs d i))) : Nat → Int32) = (dgs d 0 j (zrf ldf (j + 1)) (i + 1)) := by rw [kd_lt hik, rowPut_lt (by omega) (by omega) (by decide)]; exact (congrArg (fun q9 => upd (dgs d 0 j (zrf ldf (j + 1)) i) q9 (rem10 (rs d i))) (Nat.zero_add _).symm).trans (dgs_s hik)
    have hP : va_P D vwCl [(la, .inr (2, [.ref ld, .ref lz])), (lz, .inr (4, [.ref lzA, .int lzN])), (lzA, .inl (K, 41, .inl lzf)), (ld, .inr (4, [.ref ldA, .int (nI (j + 1))])), (ldA, .inl (K, 9, .inl (dgs d 0 j (zrf ldf (j + 1)) (i + 1))))] H := (congrArg (fun z9 : Nat → Int32 => va_P D vwCl [(la, .inr (2, [.ref ld, .ref lz])), (lz, .inr (4, [.ref lzA, .int lzN])), (lzA, .inl (K, 41, .inl lzf)), (ld, .inr (4, [.ref ldA, .int (nI (j + 1))])), (ldA, .inl (K, 9, .inl z9))] H) hf_16).mp hP
    have hD : va_D A [(la, .inr (2, [.ref ld, .ref lz])), (lz, .inr (4, [.ref lzA, .int lzN])), (lzA, .inl (K, 41, .inl lzf)), (ld, .inr (4, [.ref ldA, .int (nI (j + 1))])), (ldA, .inl (K, 9, .inl (dgs d 0 j (zrf ldf (j + 1)) (i + 1))))] := (congrArg (fun z9 : Nat → Int32 => va_D A [(la, .inr (2, [.ref ld, .ref lz])), (lz, .inr (4, [.ref lzA, .int lzN])), (lzA, .inl (K, 41, .inl lzf)), (ld, .inr (4, [.ref ldA, .int (nI (j + 1))])), (ldA, .inl (K, 9, .inl z9))]) hf_16).mp hD
    refine lv_iload_n hx hb dX2_setDigits_35 rfl (lv_at hl 0 rfl) ?_
    refine lv_bipush (v := 10) hx hb dX2_setDigits_36 (by decide) ?_
    refine lv_idiv hx hb dX2_setDigits_38 (by decide) ?_
    refine k_nrm (y := (rs d (i + 1))) (rfl) ?_
    refine lv_istore_n (lv' := [(3, .int (rs d (i + 1))), (4, .int (kd j i)), (0, .ref la), (1, .int d), (2, .int (nI j))]) hx hb dX2_setDigits_39 rfl hl (by decide) rfl (fun ls hl => ?_)
    obtain ⟨x_17, ex_17⟩ : ∃ z : Int32, z = (kd j i) + (-1) := ⟨_, rfl⟩
    refine lv_iinc (v := x_17) (lv' := [(4, .int x_17), (3, .int (rs d (i + 1))), (0, .ref la), (1, .int d), (2, .int (nI j))]) hx hb dX2_setDigits_40 hl (k := 1) rfl (by rw [ex_17]; rfl) (by decide) rfl (fun ls hl => ?_)
    refine lv_goto (tgt := 17) hx hb dX2_setDigits_43 (by decide) ?_
    have he9 : x_17 = (kd j (i + 1)) := by rw [ex_17]; exact kd_s j i
    rw [he9] at hl
    have hl : lv_has ls 5 [(4, .int (kd j (i + 1))), (3, .int (rs d (i + 1))), (0, .ref la), (1, .int d), (2, .int (nI j))] := hl
    exact ih9 (i + 1) H locs ls (by omega) ⟨hik, hP.sub [0, 3, 4, 1, 2] rfl, hD.sub [0, 3, 4, 1, 2] (by decide) rfl, hS, lv_sub hl [1, 0, 2, 3, 4] rfl⟩
