set_option maxRecDepth 20000 in
theorem lk_X8_time : Cond.code yX8_time cX8_time 3 (some .int) ∈ wsA := mA 934 rfl rfl
theorem ly_X8_time : k_y yX8_time 2 := ⟨by decide +kernel, by decide +kernel, by decide +kernel⟩
set_option maxRecDepth 20000 in
theorem lm_X8_time : Cond.instanceMethod yX8_time ∈ wsA := mA 933 rfl rfl
theorem le_X8_time : Cond.selects (yX8_time).cls yX8_time yX8_time ∈ wsA := mS 36 rfl rfl
set_option maxRecDepth 20000 in
theorem Lv_X8_81 : k_LV RX8 81 yX8_time cX8_time 3 (some .int) 2 := ⟨mA 931 rfl rfl, lm_X8_time, le_X8_time, li_BarcodeWandModel, lk_X8_time, ly_X8_time⟩
set_option maxRecDepth 20000 in
theorem lk_X8_sumOfFour : Cond.code yX8_sumOfFour cX8_sumOfFour 5 (some .int) ∈ wsA := mA 950 rfl rfl
theorem ly_X8_sumOfFour : k_y yX8_sumOfFour 2 := ⟨by decide +kernel, by decide +kernel, by decide +kernel⟩
set_option maxRecDepth 20000 in
theorem lm_X8_sumOfFour : Cond.instanceMethod yX8_sumOfFour ∈ wsA := mA 949 rfl rfl
theorem le_X8_sumOfFour : Cond.selects (yX8_sumOfFour).cls yX8_sumOfFour yX8_sumOfFour ∈ wsA := mS 40 rfl rfl
set_option maxRecDepth 20000 in
theorem Lv_X8_85 : k_LV RX8 85 yX8_sumOfFour cX8_sumOfFour 5 (some .int) 2 := ⟨mA 947 rfl rfl, lm_X8_sumOfFour, le_X8_sumOfFour, li_BarcodeWandModel, lk_X8_sumOfFour, ly_X8_sumOfFour⟩
set_option maxRecDepth 20000 in
theorem lk_X8_size : Cond.code yX8_size cX8_size 1 (some .int) ∈ wsA := mA 953 rfl rfl
theorem ly_X8_size : k_y yX8_size 1 := ⟨by decide +kernel, by decide +kernel, by decide +kernel⟩
set_option maxRecDepth 20000 in
theorem ls_X8_size : Cond.static yX8_size ∈ wsA := mA 952 rfl rfl
set_option maxRecDepth 20000 in
theorem Ls_X8_88 : k_LS RX8 88 yX8_size cX8_size 1 (some .int) 1 := ⟨mA 951 rfl rfl, ls_X8_size, li_BarcodeWandModel, lk_X8_size, ly_X8_size⟩
theorem dX8_time_0 : decode cX8_time 0 = .ok (.aload_n 0, 1) := by decide +kernel
theorem dX8_time_1 : decode cX8_time 1 = .ok (.getfield 17, 3) := by decide +kernel
theorem dX8_time_4 : decode cX8_time 4 = .ok (.iload_n 2, 1) := by decide +kernel
theorem dX8_time_5 : decode cX8_time 5 = .ok (.ifCond .eq 14, 3) := by decide +kernel
theorem dX8_time_8 : decode cX8_time 8 = .ok (.aload_n 0, 1) := by decide +kernel
theorem dX8_time_9 : decode cX8_time 9 = .ok (.getfield 78, 3) := by decide +kernel
theorem dX8_time_12 : decode cX8_time 12 = .ok (.iconst 1, 1) := by decide +kernel
theorem dX8_time_13 : decode cX8_time 13 = .ok (.isub, 1) := by decide +kernel
theorem dX8_time_14 : decode cX8_time 14 = .ok (.iload_n 1, 1) := by decide +kernel
theorem dX8_time_15 : decode cX8_time 15 = .ok (.isub, 1) := by decide +kernel
theorem dX8_time_16 : decode cX8_time 16 = .ok (.goto 4, 3) := by decide +kernel
theorem dX8_time_19 : decode cX8_time 19 = .ok (.iload_n 1, 1) := by decide +kernel
theorem dX8_time_20 : decode cX8_time 20 = .ok (.iaload, 1) := by decide +kernel
theorem dX8_time_21 : decode cX8_time 21 = .ok (.ireturn, 1) := by decide +kernel
theorem dX8_sumOfFour_0 : decode cX8_sumOfFour 0 = .ok (.iconst 0, 1) := by decide +kernel
theorem dX8_sumOfFour_1 : decode cX8_sumOfFour 1 = .ok (.istore_n 3, 1) := by decide +kernel
theorem dX8_sumOfFour_2 : decode cX8_sumOfFour 2 = .ok (.iconst 0, 1) := by decide +kernel
theorem dX8_sumOfFour_3 : decode cX8_sumOfFour 3 = .ok (.istore 4, 2) := by decide +kernel
theorem dX8_sumOfFour_5 : decode cX8_sumOfFour 5 = .ok (.iload 4, 2) := by decide +kernel
theorem dX8_sumOfFour_7 : decode cX8_sumOfFour 7 = .ok (.iconst 4, 1) := by decide +kernel
theorem dX8_sumOfFour_8 : decode cX8_sumOfFour 8 = .ok (.if_icmp .ge 21, 3) := by decide +kernel
theorem dX8_sumOfFour_11 : decode cX8_sumOfFour 11 = .ok (.iload_n 3, 1) := by decide +kernel
theorem dX8_sumOfFour_12 : decode cX8_sumOfFour 12 = .ok (.aload_n 0, 1) := by decide +kernel
theorem dX8_sumOfFour_13 : decode cX8_sumOfFour 13 = .ok (.iload_n 1, 1) := by decide +kernel
theorem dX8_sumOfFour_14 : decode cX8_sumOfFour 14 = .ok (.iload 4, 2) := by decide +kernel
theorem dX8_sumOfFour_16 : decode cX8_sumOfFour 16 = .ok (.iadd, 1) := by decide +kernel
theorem dX8_sumOfFour_17 : decode cX8_sumOfFour 17 = .ok (.iload_n 2, 1) := by decide +kernel
theorem dX8_sumOfFour_18 : decode cX8_sumOfFour 18 = .ok (.invokevirtual 81, 3) := by decide +kernel
theorem dX8_sumOfFour_21 : decode cX8_sumOfFour 21 = .ok (.iadd, 1) := by decide +kernel
theorem dX8_sumOfFour_22 : decode cX8_sumOfFour 22 = .ok (.istore_n 3, 1) := by decide +kernel
theorem dX8_sumOfFour_23 : decode cX8_sumOfFour 23 = .ok (.iinc 4 1, 3) := by decide +kernel
theorem dX8_sumOfFour_26 : decode cX8_sumOfFour 26 = .ok (.goto (-21), 3) := by decide +kernel
theorem dX8_sumOfFour_29 : decode cX8_sumOfFour 29 = .ok (.iload_n 3, 1) := by decide +kernel
theorem dX8_sumOfFour_30 : decode cX8_sumOfFour 30 = .ok (.ireturn, 1) := by decide +kernel
theorem dX8_distance_0 : decode cX8_distance 0 = .ok (.aload_n 0, 1) := by decide +kernel
theorem dX8_distance_1 : decode cX8_distance 1 = .ok (.iload_n 2, 1) := by decide +kernel
theorem dX8_distance_2 : decode cX8_distance 2 = .ok (.iload_n 3, 1) := by decide +kernel
theorem dX8_distance_3 : decode cX8_distance 3 = .ok (.invokevirtual 85, 3) := by decide +kernel
theorem dX8_distance_6 : decode cX8_distance 6 = .ok (.istore 4, 2) := by decide +kernel
theorem dX8_distance_8 : decode cX8_distance 8 = .ok (.iconst 0, 1) := by decide +kernel
theorem dX8_distance_9 : decode cX8_distance 9 = .ok (.istore 5, 2) := by decide +kernel
theorem dX8_distance_11 : decode cX8_distance 11 = .ok (.iconst 0, 1) := by decide +kernel
theorem dX8_distance_12 : decode cX8_distance 12 = .ok (.istore 6, 2) := by decide +kernel
theorem dX8_distance_14 : decode cX8_distance 14 = .ok (.iload 6, 2) := by decide +kernel
theorem dX8_distance_16 : decode cX8_distance 16 = .ok (.iconst 4, 1) := by decide +kernel
theorem dX8_distance_17 : decode cX8_distance 17 = .ok (.if_icmp .ge 39, 3) := by decide +kernel
theorem dX8_distance_20 : decode cX8_distance 20 = .ok (.iload 5, 2) := by decide +kernel
theorem dX8_distance_22 : decode cX8_distance 22 = .ok (.bipush 7, 2) := by decide +kernel
theorem dX8_distance_24 : decode cX8_distance 24 = .ok (.aload_n 0, 1) := by decide +kernel
theorem dX8_distance_25 : decode cX8_distance 25 = .ok (.iload_n 2, 1) := by decide +kernel
theorem dX8_distance_26 : decode cX8_distance 26 = .ok (.iload 6, 2) := by decide +kernel
theorem dX8_distance_28 : decode cX8_distance 28 = .ok (.iadd, 1) := by decide +kernel
theorem dX8_distance_29 : decode cX8_distance 29 = .ok (.iload_n 3, 1) := by decide +kernel
theorem dX8_distance_30 : decode cX8_distance 30 = .ok (.invokevirtual 81, 3) := by decide +kernel
theorem dX8_distance_33 : decode cX8_distance 33 = .ok (.imul, 1) := by decide +kernel
theorem dX8_distance_34 : decode cX8_distance 34 = .ok (.iload 4, 2) := by decide +kernel
theorem dX8_distance_36 : decode cX8_distance 36 = .ok (.iload_n 1, 1) := by decide +kernel
theorem dX8_distance_37 : decode cX8_distance 37 = .ok (.iload 6, 2) := by decide +kernel
theorem dX8_distance_39 : decode cX8_distance 39 = .ok (.invokestatic 42, 3) := by decide +kernel
theorem dX8_distance_42 : decode cX8_distance 42 = .ok (.imul, 1) := by decide +kernel
theorem dX8_distance_43 : decode cX8_distance 43 = .ok (.isub, 1) := by decide +kernel
theorem dX8_distance_44 : decode cX8_distance 44 = .ok (.invokestatic 88, 3) := by decide +kernel
theorem dX8_distance_47 : decode cX8_distance 47 = .ok (.iadd, 1) := by decide +kernel
theorem dX8_distance_48 : decode cX8_distance 48 = .ok (.istore 5, 2) := by decide +kernel
theorem dX8_distance_50 : decode cX8_distance 50 = .ok (.iinc 6 1, 3) := by decide +kernel
theorem dX8_distance_53 : decode cX8_distance 53 = .ok (.goto (-39), 3) := by decide +kernel
theorem dX8_distance_56 : decode cX8_distance 56 = .ok (.iload 5, 2) := by decide +kernel
theorem dX8_distance_58 : decode cX8_distance 58 = .ok (.ireturn, 1) := by decide +kernel
/-! ===== how the reference reads ===== -/
theorem lnF_b0 {n j : Nat} {tf : Nat → Int32} {b : Int32} (hb : b = 0) (hj : j < n) (hn : n ≤ 41) : lnF n tf b j = tf j := by
  unfold lnF
  rw [show elF (nI n) b j = nI j from if_pos hb, rowAt_lt hj hn (by decide)]
theorem lnF_b1 {n j : Nat} {tf : Nat → Int32} {b : Int32} (hb : ¬ b = 0) (hj : j < n) (hn : n ≤ 41) : lnF n tf b j = tf (n - 1 - j) := by
  unfold lnF elF
  rw [if_neg hb, show nI n - 1 = nI (n - 1) from pk_sub (b := 1) (by omega), pk_sub (by omega), rowAt_lt (by omega) hn (by decide)]
theorem i32_or (a b : Int32) : a < b ∨ b ≤ a := by
  by_cases h : a < b
  · exact Or.inl h
  · exact Or.inr (fa_of_nlt h)
def sm4 (f : Nat → Int32) (i : Nat) : Int32 := f i + f (i + 1) + f (i + 2) + f (i + 3)
/-- the distance of the times from the i-th on to the d-th digit -/
def dsM (n : Nat) (tf : Nat → Int32) (b : Int32) (i : Nat) : Nat → Int32 := dsF (lnF n tf b i) (lnF n tf b (i + 1)) (lnF n tf b (i + 2)) (lnF n tf b (i + 3)) (sm4 (lnF n tf b) i)
/-- the nearest of the digits 0 to j -/
def nbN (dd : Nat → Int32) : Nat → Nat
  | 0 => 0
  | j + 1 => if dd (j + 1) < dd (nbN dd j) then j + 1 else nbN dd j
theorem nb_lt {dd : Nat → Int32} {j : Nat} (h : dd (j + 1) < dd (nbN dd j)) : nbN dd (j + 1) = j + 1 := if_pos h
theorem nb_ge {dd : Nat → Int32} {j : Nat} (h : dd (nbN dd j) ≤ dd (j + 1)) : nbN dd (j + 1) = nbN dd j := if_neg (Int32.not_lt.mpr h)
theorem nbN_le (dd : Nat → Int32) : ∀ j, nbN dd j ≤ j := by
  intro j
  induction j with
  | zero => exact Nat.le_refl _
  | succ j ih =>
    rcases i32_or (dd (j + 1)) (dd (nbN dd j)) with h | h
    · rw [nb_lt h]; exact Nat.le_refl _
    · rw [nb_ge h]; omega
/-- whether the digits behind bs are farther than bs: of the first j of them -/
def alF (dd : Nat → Int32) (bs : Nat) : Nat → Int32
  | 0 => 1
  | j + 1 => if alF dd bs j = 0 then 0 else if dd (bs + 1 + j) ≤ dd bs then 0 else 1
theorem al_0 {dd : Nat → Int32} {bs j : Nat} (h : alF dd bs j = 0) : 0 = alF dd bs (j + 1) := (if_pos h).symm
theorem al_1 {dd : Nat → Int32} {bs j : Nat} (h : ¬ alF dd bs j = 0) (h2 : dd (bs + 1 + j) ≤ dd bs) : 0 = alF dd bs (j + 1) := by
  show _ = ite _ _ _
  rw [if_neg h, if_pos h2]
theorem al_2 {dd : Nat → Int32} {bs j : Nat} (h : ¬ alF dd bs j = 0) (h2 : ¬ dd (bs + 1 + j) ≤ dd bs) : 1 = alF dd bs (j + 1) := by
  show _ = ite _ _ _
  rw [if_neg h, if_neg h2]
theorem alF_iff (dd : Nat → Int32) (bs : Nat) : ∀ j, ¬ alF dd bs j = 0 ↔ ∀ m, m < j → dd bs < dd (bs + 1 + m) := by
  intro j
  induction j with
  | zero => exact ⟨fun _ m hm => absurd hm (Nat.not_lt_zero m), fun _ => show ¬ (1 : Int32) = 0 by decide⟩
  | succ j ih =>
    by_cases h : alF dd bs j = 0
    · rw [← al_0 h]
      exact ⟨fun q => absurd rfl q, fun q => absurd h (ih.mpr (fun m hm => q m (by omega)))⟩
    · have hj := ih.mp h
      by_cases h2 : dd (bs + 1 + j) ≤ dd bs
      · rw [← al_1 h h2]
        exact ⟨fun q => absurd rfl q, fun q => absurd (q j (Nat.lt_succ_self j)) (Int32.not_lt.mpr h2)⟩
      · rw [← al_2 h h2]
        exact ⟨fun _ m hm => by
          rcases Nat.lt_succ_iff_lt_or_eq.mp hm with q | rfl
          · exact hj m q
          · exact fa_of_nle h2, fun _ => by decide⟩
def dgB (dd : Nat → Int32) (bs : Nat) (sm to : Int32) : Int32 := if alF dd bs (9 - bs) = 0 then (-1) else if 4 * dd bs ≤ sm * to then nI bs else (-1)
def dgA (dd : Nat → Int32) (sm to : Int32) : Int32 := dgB dd (nbN dd 9) sm to
/-- the class's search and the reference's -/
theorem nb_nr (dd : Nat → Int32) : ∀ j, j ≤ 9 → (nrF dd 0 0 (j + 1)).1 = nI (nbN dd j) ∧ (nrF dd 0 0 (j + 1)).2.1 = dd (nbN dd j) ∧ ((nrF dd 0 0 (j + 1)).2.2 = 0 ↔ ∀ m, nbN dd j < m → m ≤ j → dd (nbN dd j) < dd m) ∧ ∀ m, m ≤ j → dd (nbN dd j) ≤ dd m := by
  intro j
  induction j with
  | zero =>
    intro _
    rw [nrF_lt (Or.inl rfl)]
    refine ⟨rfl, rfl, ⟨fun _ m h1 h2 => ?_, fun _ => rfl⟩, fun m hm => ?_⟩
    · have : nbN dd 0 = 0 := rfl
      omega
    · rw [Nat.le_zero.mp hm]
      exact Int32.le_refl _
  | succ j ih =>
    intro h9
    obtain ⟨e1, e2, e3, e4⟩ := ih (by omega)
    have hle := nbN_le dd j
    rcases i32_or (dd (j + 1)) (dd (nbN dd j)) with h | h
    · rw [nrF_lt (Or.inr (by rw [e2]; exact h)), nb_lt h]
      refine ⟨rfl, rfl, ⟨fun _ m h1 h2 => by omega, fun _ => rfl⟩, fun m hm => ?_⟩
      rcases Nat.lt_or_ge m (j + 1) with q | q
      · have h9 := e4 m (by omega)
        rw [fa_le] at h9 ⊢
        rw [fa_lt] at h
        omega
      · rw [show m = j + 1 by omega]
        exact Int32.le_refl _
    · rw [nb_ge h]
      have hall : ∀ m, m ≤ j + 1 → dd (nbN dd j) ≤ dd m := fun m hm => by
        rcases Nat.lt_or_ge m (j + 1) with q | q
        · exact e4 m (by omega)
        · rw [show m = j + 1 by omega]
          exact h
      have h1 : ¬ (nrF dd 0 0 (j + 1)).1 = -1 := by
        rw [e1]
        intro q
        have := (fa_eq _ _).mp q
        rw [nI_toInt (by omega)] at this
        have h0 : (-1 : Int32).toInt = -1 := by decide
        omega
      have h2 : ¬ dd (j + 1) < (nrF dd 0 0 (j + 1)).2.1 := by
        rw [e2]
        exact Int32.not_lt.mpr h
      by_cases h3 : dd (j + 1) = (nrF dd 0 0 (j + 1)).2.1
      · rw [nrF_eq h1 h2 h3]
        refine ⟨e1, e2, ⟨fun q => absurd (show (1 : Int32) = 0 from q) (by decide), fun q => ?_⟩, hall⟩
        have := q (j + 1) (by omega) (Nat.le_refl _)
        rw [h3, e2, fa_lt] at this
        omega
      · rw [nrF_ge h1 h2 h3]
        refine ⟨e1, e2, ⟨fun q m hm hj => ?_, fun q => e3.mpr (fun m hm hj => q m hm (by omega))⟩, hall⟩
        rcases Nat.lt_or_ge m (j + 1) with w | w
        · exact e3.mp q m hm (by omega)
        · rw [show m = j + 1 by omega]
          rw [e2] at h3
          exact fa_le_ne h (fun q9 => h3 q9.symm)
theorem nb_10 (dd : Nat → Int32) : (nrF dd 0 0 10).1 = nI (nbN dd 9) ∧ (nrF dd 0 0 10).2.1 = dd (nbN dd 9) ∧ ((nrF dd 0 0 10).2.2 = 0 ↔ ∀ m, nbN dd 9 < m → m ≤ 9 → dd (nbN dd 9) < dd m) ∧ ∀ m, m ≤ 9 → dd (nbN dd 9) ≤ dd m := by
  have h := nb_nr dd 9 (Nat.le_refl _)
  have e : (9 : Nat) + 1 = 10 := rfl
  rw [e] at h
  exact h
theorem dg_ok {dd : Nat → Int32} {sm to : Int32} (h1 : (nrF dd 0 0 10).2.2 = 0) (h2 : 4 * (nrF dd 0 0 10).2.1 ≤ sm * to) : dgA dd sm to = (nrF dd 0 0 10).1 := by
  obtain ⟨e1, e2, e3, e4⟩ := nb_10 dd
  have hle := nbN_le dd 9
  have ha : ¬ alF dd (nbN dd 9) (9 - nbN dd 9) = 0 := (alF_iff dd _ _).mpr (fun m hm => (e3.mp h1) _ (by omega) (by omega))
  rw [e2] at h2
  unfold dgA dgB
  rw [if_neg ha, if_pos h2]
  exact e1.symm
theorem dg_no {dd : Nat → Int32} {sm to : Int32} (h : ¬ ((nrF dd 0 0 10).2.2 = 0 ∧ 4 * (nrF dd 0 0 10).2.1 ≤ sm * to)) : dgA dd sm to = (-1) := by
  obtain ⟨e1, e2, e3, e4⟩ := nb_10 dd
  have hle := nbN_le dd 9
  unfold dgA dgB
  by_cases ha : alF dd (nbN dd 9) (9 - nbN dd 9) = 0
  · rw [if_pos ha]
  · rw [if_neg ha]
    have h1 : (nrF dd 0 0 10).2.2 = 0 := e3.mpr (fun m hm hj => by
      have := (alF_iff dd _ _).mp ha (m - nbN dd 9 - 1) (by omega)
      rw [show nbN dd 9 + 1 + (m - nbN dd 9 - 1) = m from by omega] at this
      exact this)
    rw [if_neg (fun q => h ⟨h1, by rw [e2]; exact q⟩)]
theorem nr_ge0 (dd : Nat → Int32) : ¬ (nrF dd 0 0 10).1 = (-1) := by
  obtain ⟨e1, -⟩ := nb_10 dd
  have hle := nbN_le dd 9
  rw [e1]
  intro q
  have := (fa_eq _ _).mp q
  rw [nI_toInt (by omega)] at this
  have h0 : (-1 : Int32).toInt = -1 := by decide
  omega
theorem mnI_as (a b c : Int32) : mnI (mnI a b) c = mnI a (mnI b c) := by
  unfold mnI
  by_cases h1 : b < a <;> by_cases h2 : c < b <;> by_cases h3 : c < a <;> simp only [h1, h2, h3, if_true, if_false] <;> (rw [fa_lt] at h1 h2 h3; omega)
theorem mxI_as (a b c : Int32) : mxI (mxI a b) c = mxI a (mxI b c) := by
  unfold mxI
  by_cases h1 : a < b <;> by_cases h2 : b < c <;> by_cases h3 : a < c <;> simp only [h1, h2, h3, if_true, if_false] <;> (rw [fa_lt] at h1 h2 h3; omega)
theorem lg_n {a b c : Int32} (h : ¬ 3 * mnI (mnI a b) c ≤ 2 * mxI (mxI a b) c) : 1 = lgF a b c := by
  rw [mnI_as, mxI_as] at h
  exact (if_neg h).symm
theorem lg_p {a b c : Int32} (h : 3 * mnI (mnI a b) c ≤ 2 * mxI (mxI a b) c) : 0 = lgF a b c := by
  rw [mnI_as, mxI_as] at h
  exact (if_pos h).symm
theorem tS_cs {j : Nat} {g : Nat → Int32} : ∀ k, k ≤ j → tS g j k + csum g j (j - k) = csum g j j := by
  intro k
  induction k with
  | zero => intro _; unfold tS; rw [Int32.zero_add, Nat.sub_zero]
  | succ k ih =>
    intro hk
    have e1 : j - k = (j - (k + 1)) + 1 := by omega
    have h1 := ih (by omega)
    rw [e1] at h1
    rw [← h1]
    rw [show tS g j (k + 1) = tS g j k + (if (j - 1 - k) % 2 = 0 then 3 * g k else g k) from rfl]
    rw [show csum g j (j - (k + 1) + 1) = csum g j (j - (k + 1)) + wt (j - (k + 1)) * g (j - 1 - (j - (k + 1))) from rfl]
    rw [show j - 1 - (j - (k + 1)) = k from by omega, show j - 1 - k = j - (k + 1) from by omega, wt_eq]
    by_cases h : (j - (k + 1)) % 2 = 0
    · rw [if_pos h, if_pos h, Int32.add_assoc, Int32.add_comm (3 * _) (csum g j (j - (k + 1)))]
    · rw [if_neg h, if_neg h, Int32.one_mul, Int32.add_assoc, Int32.add_comm (g k) (csum g j (j - (k + 1)))]
theorem tS_csum (g : Nat → Int32) (j : Nat) : tS g j j = csum g j j := by
  have h := tS_cs (g := g) j (Nat.le_refl j)
  rw [Nat.sub_self, show csum g j 0 = 0 from rfl, Int32.add_zero] at h
  exact h

set_option maxHeartbeats 4000000 in
set_option maxRecDepth 100000 in
theorem c_M_time (l : Launch) (D : va_G) (mo : Nat) (ms : Nat) (sv : Int32) (mb : Nat) (ty : Int32) (th : Int32) (mk : Nat) (lm : Nat) (mfd : Nat) (mf : Int32) (sp : Int32) (on : Int32) (tw : Int32) (K : ClassId) (lk : Nat → Int32) (i : Nat) (b : Int32) (hi : i < lm) (hlm : lm ≤ 41) (sz : Nat) : k_Mi (S := Unit) l D yX8_time cX8_time 3 (some .int) 0 0 0 0 [.ref mo, .int (nI i), .int b] [(mo, .inr (8, [.ref ms, .int sv, .ref mb, .int ty, .int th, .ref mk, .int (nI lm), .ref mfd, .int mf, .int sp, .int on, .int tw])), (mk, .inl (K, 41, .inl lk))] [(K, .int)] (fun (r : Int32) (_ : Unit) => r = (lnF lm lk b i)) (fun _ => [(mo, .inr (8, [.ref ms, .int sv, .ref mb, .int ty, .int th, .ref mk, .int (nI lm), .ref mfd, .int mf, .int sp, .int on, .int tw])), (mk, .inl (K, 41, .inl lk))]) (fun _ => []) sz := by
  refine Met.ofW (cc := cX8_time) (maxL := 3) (ret := (some .int)) (by decide) rfl ?_
  intro p e s m args below meth c s₁ B hml hv
  obtain ⟨rfl, hsz, hP, hK, hD0, hG⟩ := hv
  have hx := B.exec
  have hb := B.bytes
  have hr := B.returns
  have ht : ∀ v9 ∈ wsA, v9.before ([.ref mo, .int (nI i), .int b] : List Value).toArray s = true := fun v9 h9 => atoms_spec (ws := k_ws yX8_time cX8_time 3 (some .int)) B.pre v9 (List.mem_cons_of_mem _ h9)
  have hown : s.vm.findClass RX8 = some m.cls := findClass_of_methodNamed B.named
  have S0 : k_C p s m ([.ref mo, .int (nI i), .int b] : List Value).toArray c cX8_time 3 RX8 := ⟨hx, hb, hml, hown, ht⟩
  have hlocks := B.notSynchronized
  subst hsz
  have hD := hD0.self (sz := s.heap.size)
  generalize hAe : va_A [(mo, .inr (8, [.ref ms, .int sv, .ref mb, .int ty, .int th, .ref mk, .int (nI lm), .ref mfd, .int mf, .int sp, .int on, .int tw])), (mk, .inl (K, 41, .inl lk))] s.heap.size = A at hD hG ⊢
  have hA : ∀ q : Nat, s.heap.size ≤ q → A q := fun q h => by rw [← hAe]; exact Or.inr h
  have hS : va_S A s.heap s.heap [] := va_S.rf
  have hl := lv_entry ([.ref mo, .int (nI i), .int b]) (n := 3) (Nat.le_of_ble_eq_true rfl)
  rw [lg_entry_eq]
  generalize (lg_sl ([.ref mo, .int (nI i), .int b]) ++ List.replicate (3 - (lg_sl ([.ref mo, .int (nI i), .int b])).length) Slot.unset).toArray = ls at hl ⊢
  have hl : lv_has ls 3 [(0, .ref mo), (1, .int (nI i)), (2, .int b)] := hl
  have hP : va_P D vwCl [(mo, .inr (8, [.ref ms, .int sv, .ref mb, .int ty, .int th, .ref mk, .int (nI lm), .ref mfd, .int mf, .int sp, .int on, .int tw])), (mk, .inl (K, 41, .inl lk))] s.heap := hP
  refine lv_aload_n hx hb dX8_time_0 rfl (lv_at hl 0 rfl) ?_
  refine va_get (D := D) (ci := 8) (v := .ref mk) (C := RX8) (T := TX8) (N := 12) hx hb ht inA_X8 hown hK hP 0 rfl rfl 5 (by decide) (ht _ lf_X8_17) (fun _ h9 => h9) rfl dX8_time_1 ?_
  refine lv_iload_n hx hb dX8_time_4 rfl (lv_at hl 2 rfl) ?_
  refine lv_if_eq (tgt := 19) hx hb dX8_time_5 (by decide) (fun c_1 => ?_) (fun c_1 => ?_)
  · have hc9 := c_1
    refine lv_iload_n hx hb dX8_time_19 rfl (lv_at hl 1 rfl) ?_
    refine va_iald hx hb hK hP 1 0 rfl rfl (vp_in_nI (by omega) (by omega)) dX8_time_20 ?_
    refine k_nrm (y := (lnF lm lk b i)) (by rw [nI_clamp (by omega)]; exact (lnF_b0 c_1 hi hlm).symm) ?_
    have hP9 : va_P D vwCl [(mo, .inr (8, [.ref ms, .int sv, .ref mb, .int ty, .int th, .ref mk, .int (nI lm), .ref mfd, .int mf, .int sp, .int on, .int tw])), (mk, .inl (K, 41, .inl lk))] s.heap := hP.sub [0, 1] rfl
    have hD9 : va_D A [(mo, .inr (8, [.ref ms, .int sv, .ref mb, .int ty, .int th, .ref mk, .int (nI lm), .ref mfd, .int mf, .int sp, .int on, .int tw])), (mk, .inl (K, 41, .inl lk))] := hD.sub [0, 1] (by decide) rfl
    have hK9 : va_K D vwCl [] s := hK.sub [] rfl
    exact W.iret (v := (lnF lm lk b i)) hx hb hr (fun t ht9 hW9 => ⟨⟨(lnF lm lk b i), (), rfl, by first | rfl | trivial | (simp only [c_1, if_true, if_false, reduceIte, and_self]; done) | simp_all, ⟨by rw [ht9]; exact hP9, va_K.moved hW9.alike hK9, hD9⟩⟩, hS.F ht9⟩) hS.2.2 dX8_time_21
  · have hc9 := c_1
    refine lv_aload_n hx hb dX8_time_8 rfl (lv_at hl 0 rfl) ?_
    refine va_get (D := D) (ci := 8) (v := .int (nI lm)) (C := RX8) (T := TX8) (N := 12) hx hb ht inA_X8 hown hK hP 0 rfl rfl 6 (by decide) (ht _ lf_X8_78) (fun _ h9 => h9) rfl dX8_time_9 ?_
    refine lv_iconst (v := 1) hx hb dX8_time_12 (by decide) ?_
    refine lv_isub hx hb dX8_time_13 ?_
    refine k_nrm (y := (nI (lm - 1))) (pk_sub (b := 1) (by omega)) ?_
    refine lv_iload_n hx hb dX8_time_14 rfl (lv_at hl 1 rfl) ?_
    refine lv_isub hx hb dX8_time_15 ?_
    refine k_nrm (y := (nI (lm - 1 - i))) (pk_sub (by omega)) ?_
    refine lv_goto (tgt := 20) hx hb dX8_time_16 (by decide) ?_
    refine va_iald hx hb hK hP 1 0 rfl rfl (vp_in_nI (by omega) (by omega)) dX8_time_20 ?_
    refine k_nrm (y := (lnF lm lk b i)) (by rw [nI_clamp (by omega)]; exact (lnF_b1 c_1 hi hlm).symm) ?_
    have hP9 : va_P D vwCl [(mo, .inr (8, [.ref ms, .int sv, .ref mb, .int ty, .int th, .ref mk, .int (nI lm), .ref mfd, .int mf, .int sp, .int on, .int tw])), (mk, .inl (K, 41, .inl lk))] s.heap := hP.sub [0, 1] rfl
    have hD9 : va_D A [(mo, .inr (8, [.ref ms, .int sv, .ref mb, .int ty, .int th, .ref mk, .int (nI lm), .ref mfd, .int mf, .int sp, .int on, .int tw])), (mk, .inl (K, 41, .inl lk))] := hD.sub [0, 1] (by decide) rfl
    have hK9 : va_K D vwCl [] s := hK.sub [] rfl
    exact W.iret (v := (lnF lm lk b i)) hx hb hr (fun t ht9 hW9 => ⟨⟨(lnF lm lk b i), (), rfl, by first | rfl | trivial | (simp only [c_1, if_true, if_false, reduceIte, and_self]; done) | simp_all, ⟨by rw [ht9]; exact hP9, va_K.moved hW9.alike hK9, hD9⟩⟩, hS.F ht9⟩) hS.2.2 dX8_time_21
set_option maxHeartbeats 4000000 in
set_option maxRecDepth 100000 in
theorem c_M_sum (l : Launch) (D : va_G) (mo : Nat) (ms : Nat) (sv : Int32) (mb : Nat) (ty : Int32) (th : Int32) (mk : Nat) (lm : Nat) (mfd : Nat) (mf : Int32) (sp : Int32) (on : Int32) (tw : Int32) (K : ClassId) (lk : Nat → Int32) (i : Nat) (b : Int32) (hi : i + 4 ≤ lm) (hlm : lm ≤ 41) (sz : Nat) : k_Mi (S := Unit) l D yX8_sumOfFour cX8_sumOfFour 5 (some .int) 1 0 0 22 [.ref mo, .int (nI i), .int b] [(mo, .inr (8, [.ref ms, .int sv, .ref mb, .int ty, .int th, .ref mk, .int (nI lm), .ref mfd, .int mf, .int sp, .int on, .int tw])), (mk, .inl (K, 41, .inl lk))] [(K, .int)] (fun (r : Int32) (_ : Unit) => r = (sm4 (lnF lm lk b) i)) (fun _ => [(mo, .inr (8, [.ref ms, .int sv, .ref mb, .int ty, .int th, .ref mk, .int (nI lm), .ref mfd, .int mf, .int sp, .int on, .int tw])), (mk, .inl (K, 41, .inl lk))]) (fun _ => []) sz := by
  refine Met.ofW (cc := cX8_sumOfFour) (maxL := 5) (ret := (some .int)) (by decide) rfl ?_
  intro p e s m args below meth c s₁ B hml hv
  obtain ⟨rfl, hsz, hP, hK, hD0, hG⟩ := hv
  have hx := B.exec
  have hb := B.bytes
  have hr := B.returns
  have ht : ∀ v9 ∈ wsA, v9.before ([.ref mo, .int (nI i), .int b] : List Value).toArray s = true := fun v9 h9 => atoms_spec (ws := k_ws yX8_sumOfFour cX8_sumOfFour 5 (some .int)) B.pre v9 (List.mem_cons_of_mem _ h9)
  have hown : s.vm.findClass RX8 = some m.cls := findClass_of_methodNamed B.named
  have S0 : k_C p s m ([.ref mo, .int (nI i), .int b] : List Value).toArray c cX8_sumOfFour 5 RX8 := ⟨hx, hb, hml, hown, ht⟩
  have hlocks := B.notSynchronized
  subst hsz
  have hD := hD0.self (sz := s.heap.size)
  generalize hAe : va_A [(mo, .inr (8, [.ref ms, .int sv, .ref mb, .int ty, .int th, .ref mk, .int (nI lm), .ref mfd, .int mf, .int sp, .int on, .int tw])), (mk, .inl (K, 41, .inl lk))] s.heap.size = A at hD hG ⊢
  have hA : ∀ q : Nat, s.heap.size ≤ q → A q := fun q h => by rw [← hAe]; exact Or.inr h
  have hS : va_S A s.heap s.heap [] := va_S.rf
  have hl := lv_entry ([.ref mo, .int (nI i), .int b]) (n := 5) (Nat.le_of_ble_eq_true rfl)
  rw [lg_entry_eq]
  generalize (lg_sl ([.ref mo, .int (nI i), .int b]) ++ List.replicate (5 - (lg_sl ([.ref mo, .int (nI i), .int b])).length) Slot.unset).toArray = ls at hl ⊢
  have hl : lv_has ls 5 [(0, .ref mo), (1, .int (nI i)), (2, .int b)] := hl
  have hP : va_P D vwCl [(mo, .inr (8, [.ref ms, .int sv, .ref mb, .int ty, .int th, .ref mk, .int (nI lm), .ref mfd, .int mf, .int sp, .int on, .int tw])), (mk, .inl (K, 41, .inl lk))] s.heap := hP
  refine lv_iconst (v := 0) hx hb dX8_sumOfFour_0 (by decide) ?_
  refine lv_istore_n (lv' := [(3, .int 0), (0, .ref mo), (1, .int (nI i)), (2, .int b)]) hx hb dX8_sumOfFour_1 rfl hl (by decide) rfl (fun ls hl => ?_)
  refine lv_iconst (v := 0) hx hb dX8_sumOfFour_2 (by decide) ?_
  refine lv_istore (lv' := [(4, .int 0), (3, .int 0), (0, .ref mo), (1, .int (nI i)), (2, .int b)]) hx hb dX8_sumOfFour_3 hl (by decide) rfl (fun ls hl => ?_)
  refine lv_iload hx hb dX8_sumOfFour_5 (lv_at hl 0 rfl) ?_
  refine lv_iconst (v := 4) hx hb dX8_sumOfFour_7 (by decide) ?_
  refine lv_icmp_ge (tgt := 29) hx hb dX8_sumOfFour_8 (by decide) (fun c9 => absurd c9 (by decide)) (fun _ => ?_)
  refine lv_iload_n hx hb dX8_sumOfFour_11 rfl (lv_at hl 1 rfl) ?_
  refine lv_aload_n hx hb dX8_sumOfFour_12 rfl (lv_at hl 2 rfl) ?_
  refine lv_iload_n hx hb dX8_sumOfFour_13 rfl (lv_at hl 3 rfl) ?_
  refine lv_iload hx hb dX8_sumOfFour_14 (lv_at hl 0 rfl) ?_
  refine lv_iadd hx hb dX8_sumOfFour_16 ?_
  refine k_nrm (y := (nI i)) (Int32.add_zero _) ?_
  refine lv_iload_n hx hb dX8_sumOfFour_17 rfl (lv_at hl 4 rfl) ?_
  have ct := k_cut_of (wc := [(mo, .inr (8, [.ref ms, .int sv, .ref mb, .int ty, .int th, .ref mk, .int (nI lm), .ref mfd, .int mf, .int sp, .int on, .int tw])), (mk, .inl (K, 41, .inl lk))]) (wr := []) (tc := [(K, .int)]) hG hS hA hK hP hD [0, 1] [] [0] rfl rfl (by decide) (by decide) (by decide) rfl
  refine k_endi (As := [.ref mo, .int (nI i), .int b]) ct (k_runV (As := [.int (nI i), .int b]) (rest := [.int 0]) S0 Lv_X8_81 rfl (ci := 8) (q0 := 0) rfl rfl ct (c_M_time l D mo ms sv mb ty th mk lm mfd mf sp on tw K lk i b (by first | assumption | omega) (by first | assumption | omega) s.heap.size) hl.1 rfl (Nat.le_of_ble_eq_true rfl) rfl dX8_sumOfFour_18 ⟨⟨Nat.le_of_ble_eq_true rfl, Nat.le_of_ble_eq_true rfl⟩, Nat.le_of_ble_eq_true rfl, Nat.le_of_ble_eq_true rfl⟩) rfl rfl (fun r_1 _ H locs hw_2 hP hD hK hS => ?_)
  have hK : va_K D vwCl [(K, .int)] s := hK
  have hP : va_P D vwCl [(mo, .inr (8, [.ref ms, .int sv, .ref mb, .int ty, .int th, .ref mk, .int (nI lm), .ref mfd, .int mf, .int sp, .int on, .int tw])), (mk, .inl (K, 41, .inl lk))] H := hP
  have hD : va_D A [(mo, .inr (8, [.ref ms, .int sv, .ref mb, .int ty, .int th, .ref mk, .int (nI lm), .ref mfd, .int mf, .int sp, .int on, .int tw])), (mk, .inl (K, 41, .inl lk))] := hD
  have hw_2 : r_1 = (lnF lm lk b i) := hw_2
  have hw_2 := hw_2.symm
  subst hw_2
  refine k_nrm (y := (lnF lm lk b i)) rfl ?_
  refine lv_iadd hx hb dX8_sumOfFour_21 ?_
  refine k_nrm (y := (lnF lm lk b i)) (Int32.zero_add _) ?_
  refine lv_istore_n (lv' := [(3, .int (lnF lm lk b i)), (4, .int 0), (0, .ref mo), (1, .int (nI i)), (2, .int b)]) hx hb dX8_sumOfFour_22 rfl hl (by decide) rfl (fun ls hl => ?_)
  refine lv_iinc (v := 1) (lv' := [(4, .int 1), (3, .int (lnF lm lk b i)), (0, .ref mo), (1, .int (nI i)), (2, .int b)]) hx hb dX8_sumOfFour_23 hl (k := 1) rfl (by decide) (by decide) rfl (fun ls hl => ?_)
  refine lv_goto (tgt := 5) hx hb dX8_sumOfFour_26 (by decide) ?_
  refine lv_iload hx hb dX8_sumOfFour_5 (lv_at hl 0 rfl) ?_
  refine lv_iconst (v := 4) hx hb dX8_sumOfFour_7 (by decide) ?_
  refine lv_icmp_ge (tgt := 29) hx hb dX8_sumOfFour_8 (by decide) (fun c9 => absurd c9 (by decide)) (fun _ => ?_)
  refine lv_iload_n hx hb dX8_sumOfFour_11 rfl (lv_at hl 1 rfl) ?_
  refine lv_aload_n hx hb dX8_sumOfFour_12 rfl (lv_at hl 2 rfl) ?_
  refine lv_iload_n hx hb dX8_sumOfFour_13 rfl (lv_at hl 3 rfl) ?_
  refine lv_iload hx hb dX8_sumOfFour_14 (lv_at hl 0 rfl) ?_
  refine lv_iadd hx hb dX8_sumOfFour_16 ?_
  refine k_nrm (y := (nI (i + 1))) (nI_add i 1) ?_
  refine lv_iload_n hx hb dX8_sumOfFour_17 rfl (lv_at hl 4 rfl) ?_
  have ct := k_cut_of (wc := [(mo, .inr (8, [.ref ms, .int sv, .ref mb, .int ty, .int th, .ref mk, .int (nI lm), .ref mfd, .int mf, .int sp, .int on, .int tw])), (mk, .inl (K, 41, .inl lk))]) (wr := []) (tc := [(K, .int)]) hG hS hA hK hP hD [0, 1] [] [0] rfl rfl (by decide) (by decide) (by decide) rfl
  refine k_endi (As := [.ref mo, .int (nI (i + 1)), .int b]) ct (k_runV (As := [.int (nI (i + 1)), .int b]) (rest := [.int (lnF lm lk b i)]) S0 Lv_X8_81 rfl (ci := 8) (q0 := 0) rfl rfl ct (c_M_time l D mo ms sv mb ty th mk lm mfd mf sp on tw K lk (i + 1) b (by first | assumption | omega) (by first | assumption | omega) H.size) hl.1 rfl (Nat.le_of_ble_eq_true rfl) rfl dX8_sumOfFour_18 ⟨⟨Nat.le_of_ble_eq_true rfl, Nat.le_of_ble_eq_true rfl⟩, Nat.le_of_ble_eq_true rfl, Nat.le_of_ble_eq_true rfl⟩) rfl rfl (fun r_3 _ H locs hw_4 hP hD hK hS => ?_)
  have hK : va_K D vwCl [(K, .int)] s := hK
  have hP : va_P D vwCl [(mo, .inr (8, [.ref ms, .int sv, .ref mb, .int ty, .int th, .ref mk, .int (nI lm), .ref mfd, .int mf, .int sp, .int on, .int tw])), (mk, .inl (K, 41, .inl lk))] H := hP
  have hD : va_D A [(mo, .inr (8, [.ref ms, .int sv, .ref mb, .int ty, .int th, .ref mk, .int (nI lm), .ref mfd, .int mf, .int sp, .int on, .int tw])), (mk, .inl (K, 41, .inl lk))] := hD
  have hw_4 : r_3 = (lnF lm lk b (i + 1)) := hw_4
  have hw_4 := hw_4.symm
  subst hw_4
  refine k_nrm (y := (lnF lm lk b (i + 1))) rfl ?_
  refine lv_iadd hx hb dX8_sumOfFour_21 ?_
  refine k_nrm (y := ((lnF lm lk b i) + (lnF lm lk b (i + 1)))) (rfl) ?_
  refine lv_istore_n (lv' := [(3, .int ((lnF lm lk b i) + (lnF lm lk b (i + 1)))), (4, .int 1), (0, .ref mo), (1, .int (nI i)), (2, .int b)]) hx hb dX8_sumOfFour_22 rfl hl (by decide) rfl (fun ls hl => ?_)
  refine lv_iinc (v := 2) (lv' := [(4, .int 2), (3, .int ((lnF lm lk b i) + (lnF lm lk b (i + 1)))), (0, .ref mo), (1, .int (nI i)), (2, .int b)]) hx hb dX8_sumOfFour_23 hl (k := 1) rfl (by decide) (by decide) rfl (fun ls hl => ?_)
  refine lv_goto (tgt := 5) hx hb dX8_sumOfFour_26 (by decide) ?_
  refine lv_iload hx hb dX8_sumOfFour_5 (lv_at hl 0 rfl) ?_
  refine lv_iconst (v := 4) hx hb dX8_sumOfFour_7 (by decide) ?_
  refine lv_icmp_ge (tgt := 29) hx hb dX8_sumOfFour_8 (by decide) (fun c9 => absurd c9 (by decide)) (fun _ => ?_)
  refine lv_iload_n hx hb dX8_sumOfFour_11 rfl (lv_at hl 1 rfl) ?_
  refine lv_aload_n hx hb dX8_sumOfFour_12 rfl (lv_at hl 2 rfl) ?_
  refine lv_iload_n hx hb dX8_sumOfFour_13 rfl (lv_at hl 3 rfl) ?_
  refine lv_iload hx hb dX8_sumOfFour_14 (lv_at hl 0 rfl) ?_
  refine lv_iadd hx hb dX8_sumOfFour_16 ?_
  refine k_nrm (y := (nI (i + 2))) (nI_add i 2) ?_
  refine lv_iload_n hx hb dX8_sumOfFour_17 rfl (lv_at hl 4 rfl) ?_
  have ct := k_cut_of (wc := [(mo, .inr (8, [.ref ms, .int sv, .ref mb, .int ty, .int th, .ref mk, .int (nI lm), .ref mfd, .int mf, .int sp, .int on, .int tw])), (mk, .inl (K, 41, .inl lk))]) (wr := []) (tc := [(K, .int)]) hG hS hA hK hP hD [0, 1] [] [0] rfl rfl (by decide) (by decide) (by decide) rfl
  refine k_endi (As := [.ref mo, .int (nI (i + 2)), .int b]) ct (k_runV (As := [.int (nI (i + 2)), .int b]) (rest := [.int ((lnF lm lk b i) + (lnF lm lk b (i + 1)))]) S0 Lv_X8_81 rfl (ci := 8) (q0 := 0) rfl rfl ct (c_M_time l D mo ms sv mb ty th mk lm mfd mf sp on tw K lk (i + 2) b (by first | assumption | omega) (by first | assumption | omega) H.size) hl.1 rfl (Nat.le_of_ble_eq_true rfl) rfl dX8_sumOfFour_18 ⟨⟨Nat.le_of_ble_eq_true rfl, Nat.le_of_ble_eq_true rfl⟩, Nat.le_of_ble_eq_true rfl, Nat.le_of_ble_eq_true rfl⟩) rfl rfl (fun r_5 _ H locs hw_6 hP hD hK hS => ?_)
  have hK : va_K D vwCl [(K, .int)] s := hK
  have hP : va_P D vwCl [(mo, .inr (8, [.ref ms, .int sv, .ref mb, .int ty, .int th, .ref mk, .int (nI lm), .ref mfd, .int mf, .int sp, .int on, .int tw])), (mk, .inl (K, 41, .inl lk))] H := hP
  have hD : va_D A [(mo, .inr (8, [.ref ms, .int sv, .ref mb, .int ty, .int th, .ref mk, .int (nI lm), .ref mfd, .int mf, .int sp, .int on, .int tw])), (mk, .inl (K, 41, .inl lk))] := hD
  have hw_6 : r_5 = (lnF lm lk b (i + 2)) := hw_6
  have hw_6 := hw_6.symm
  subst hw_6
  refine k_nrm (y := (lnF lm lk b (i + 2))) rfl ?_
  refine lv_iadd hx hb dX8_sumOfFour_21 ?_
  refine k_nrm (y := ((lnF lm lk b i) + (lnF lm lk b (i + 1)) + (lnF lm lk b (i + 2)))) (rfl) ?_
  refine lv_istore_n (lv' := [(3, .int ((lnF lm lk b i) + (lnF lm lk b (i + 1)) + (lnF lm lk b (i + 2)))), (4, .int 2), (0, .ref mo), (1, .int (nI i)), (2, .int b)]) hx hb dX8_sumOfFour_22 rfl hl (by decide) rfl (fun ls hl => ?_)
  refine lv_iinc (v := 3) (lv' := [(4, .int 3), (3, .int ((lnF lm lk b i) + (lnF lm lk b (i + 1)) + (lnF lm lk b (i + 2)))), (0, .ref mo), (1, .int (nI i)), (2, .int b)]) hx hb dX8_sumOfFour_23 hl (k := 1) rfl (by decide) (by decide) rfl (fun ls hl => ?_)
  refine lv_goto (tgt := 5) hx hb dX8_sumOfFour_26 (by decide) ?_
  refine lv_iload hx hb dX8_sumOfFour_5 (lv_at hl 0 rfl) ?_
  refine lv_iconst (v := 4) hx hb dX8_sumOfFour_7 (by decide) ?_
  refine lv_icmp_ge (tgt := 29) hx hb dX8_sumOfFour_8 (by decide) (fun c9 => absurd c9 (by decide)) (fun _ => ?_)
  refine lv_iload_n hx hb dX8_sumOfFour_11 rfl (lv_at hl 1 rfl) ?_
  refine lv_aload_n hx hb dX8_sumOfFour_12 rfl (lv_at hl 2 rfl) ?_
  refine lv_iload_n hx hb dX8_sumOfFour_13 rfl (lv_at hl 3 rfl) ?_
  refine lv_iload hx hb dX8_sumOfFour_14 (lv_at hl 0 rfl) ?_
  refine lv_iadd hx hb dX8_sumOfFour_16 ?_
  refine k_nrm (y := (nI (i + 3))) (nI_add i 3) ?_
  refine lv_iload_n hx hb dX8_sumOfFour_17 rfl (lv_at hl 4 rfl) ?_
  have ct := k_cut_of (wc := [(mo, .inr (8, [.ref ms, .int sv, .ref mb, .int ty, .int th, .ref mk, .int (nI lm), .ref mfd, .int mf, .int sp, .int on, .int tw])), (mk, .inl (K, 41, .inl lk))]) (wr := []) (tc := [(K, .int)]) hG hS hA hK hP hD [0, 1] [] [0] rfl rfl (by decide) (by decide) (by decide) rfl
  refine k_endi (As := [.ref mo, .int (nI (i + 3)), .int b]) ct (k_runV (As := [.int (nI (i + 3)), .int b]) (rest := [.int ((lnF lm lk b i) + (lnF lm lk b (i + 1)) + (lnF lm lk b (i + 2)))]) S0 Lv_X8_81 rfl (ci := 8) (q0 := 0) rfl rfl ct (c_M_time l D mo ms sv mb ty th mk lm mfd mf sp on tw K lk (i + 3) b (by first | assumption | omega) (by first | assumption | omega) H.size) hl.1 rfl (Nat.le_of_ble_eq_true rfl) rfl dX8_sumOfFour_18 ⟨⟨Nat.le_of_ble_eq_true rfl, Nat.le_of_ble_eq_true rfl⟩, Nat.le_of_ble_eq_true rfl, Nat.le_of_ble_eq_true rfl⟩) rfl rfl (fun r_7 _ H locs hw_8 hP hD hK hS => ?_)
  have hK : va_K D vwCl [(K, .int)] s := hK
  have hP : va_P D vwCl [(mo, .inr (8, [.ref ms, .int sv, .ref mb, .int ty, .int th, .ref mk, .int (nI lm), .ref mfd, .int mf, .int sp, .int on, .int tw])), (mk, .inl (K, 41, .inl lk))] H := hP
  have hD : va_D A [(mo, .inr (8, [.ref ms, .int sv, .ref mb, .int ty, .int th, .ref mk, .int (nI lm), .ref mfd, .int mf, .int sp, .int on, .int tw])), (mk, .inl (K, 41, .inl lk))] := hD
  have hw_8 : r_7 = (lnF lm lk b (i + 3)) := hw_8
  have hw_8 := hw_8.symm
  subst hw_8
  refine k_nrm (y := (lnF lm lk b (i + 3))) rfl ?_
  refine lv_iadd hx hb dX8_sumOfFour_21 ?_
  refine k_nrm (y := (sm4 (lnF lm lk b) i)) (rfl) ?_
  refine lv_istore_n (lv' := [(3, .int (sm4 (lnF lm lk b) i)), (4, .int 3), (0, .ref mo), (1, .int (nI i)), (2, .int b)]) hx hb dX8_sumOfFour_22 rfl hl (by decide) rfl (fun ls hl => ?_)
  refine lv_iinc (v := 4) (lv' := [(4, .int 4), (3, .int (sm4 (lnF lm lk b) i)), (0, .ref mo), (1, .int (nI i)), (2, .int b)]) hx hb dX8_sumOfFour_23 hl (k := 1) rfl (by decide) (by decide) rfl (fun ls hl => ?_)
  refine lv_goto (tgt := 5) hx hb dX8_sumOfFour_26 (by decide) ?_
  refine lv_iload hx hb dX8_sumOfFour_5 (lv_at hl 0 rfl) ?_
  refine lv_iconst (v := 4) hx hb dX8_sumOfFour_7 (by decide) ?_
  refine lv_icmp_ge (tgt := 29) hx hb dX8_sumOfFour_8 (by decide) (fun _ => ?_) (fun c9 => absurd (by decide) c9)
  refine lv_iload_n hx hb dX8_sumOfFour_29 rfl (lv_at hl 1 rfl) ?_
  have hP9 : va_P D vwCl [(mo, .inr (8, [.ref ms, .int sv, .ref mb, .int ty, .int th, .ref mk, .int (nI lm), .ref mfd, .int mf, .int sp, .int on, .int tw])), (mk, .inl (K, 41, .inl lk))] H := hP.sub [0, 1] rfl
  have hD9 : va_D A [(mo, .inr (8, [.ref ms, .int sv, .ref mb, .int ty, .int th, .ref mk, .int (nI lm), .ref mfd, .int mf, .int sp, .int on, .int tw])), (mk, .inl (K, 41, .inl lk))] := hD.sub [0, 1] (by decide) rfl
  have hK9 : va_K D vwCl [] s := hK.sub [] rfl
  exact W.iret (v := (sm4 (lnF lm lk b) i)) hx hb hr (fun t ht9 hW9 => ⟨⟨(sm4 (lnF lm lk b) i), (), rfl, by first | rfl | trivial | (simp only [if_true, if_false, reduceIte, and_self]; done) | simp_all, ⟨by rw [ht9]; exact hP9, va_K.moved hW9.alike hK9, hD9⟩⟩, hS.F ht9⟩) hS.2.2 dX8_sumOfFour_30
set_option maxHeartbeats 4000000 in
set_option maxRecDepth 100000 in
theorem c_M_dist (l : Launch) (D : va_G) (mo : Nat) (ms : Nat) (sv : Int32) (mb : Nat) (ty : Int32) (th : Int32) (mk : Nat) (lm : Nat) (mfd : Nat) (mf : Int32) (sp : Int32) (on : Int32) (tw : Int32) (K : ClassId) (lk : Nat → Int32) (d : Nat) (i : Nat) (b : Int32) (hd : d ≤ 9) (hi : i + 4 ≤ lm) (hlm : lm ≤ 41) (sz : Nat) : k_Mi (S := Unit) l D yX8_distance cX8_distance 7 (some .int) 2 0 0 46 [.ref mo, .int (nI d), .int (nI i), .int b] [(mo, .inr (8, [.ref ms, .int sv, .ref mb, .int ty, .int th, .ref mk, .int (nI lm), .ref mfd, .int mf, .int sp, .int on, .int tw])), (mk, .inl (K, 41, .inl lk))] [(K, .int)] (fun (r : Int32) (_ : Unit) => r = (dsM lm lk b i d)) (fun _ => [(mo, .inr (8, [.ref ms, .int sv, .ref mb, .int ty, .int th, .ref mk, .int (nI lm), .ref mfd, .int mf, .int sp, .int on, .int tw])), (mk, .inl (K, 41, .inl lk))]) (fun _ => []) sz := by
  refine Met.ofW (cc := cX8_distance) (maxL := 7) (ret := (some .int)) (by decide) rfl ?_
  intro p e s m args below meth c s₁ B hml hv
  obtain ⟨rfl, hsz, hP, hK, hD0, hG⟩ := hv
  have hx := B.exec
  have hb := B.bytes
  have hr := B.returns
  have ht : ∀ v9 ∈ wsA, v9.before ([.ref mo, .int (nI d), .int (nI i), .int b] : List Value).toArray s = true := fun v9 h9 => atoms_spec (ws := k_ws yX8_distance cX8_distance 7 (some .int)) B.pre v9 (List.mem_cons_of_mem _ h9)
  have hown : s.vm.findClass RX8 = some m.cls := findClass_of_methodNamed B.named
  have S0 : k_C p s m ([.ref mo, .int (nI d), .int (nI i), .int b] : List Value).toArray c cX8_distance 7 RX8 := ⟨hx, hb, hml, hown, ht⟩
  have hlocks := B.notSynchronized
  subst hsz
  have hD := hD0.self (sz := s.heap.size)
  generalize hAe : va_A [(mo, .inr (8, [.ref ms, .int sv, .ref mb, .int ty, .int th, .ref mk, .int (nI lm), .ref mfd, .int mf, .int sp, .int on, .int tw])), (mk, .inl (K, 41, .inl lk))] s.heap.size = A at hD hG ⊢
  have hA : ∀ q : Nat, s.heap.size ≤ q → A q := fun q h => by rw [← hAe]; exact Or.inr h
  have hS : va_S A s.heap s.heap [] := va_S.rf
  have hl := lv_entry ([.ref mo, .int (nI d), .int (nI i), .int b]) (n := 7) (Nat.le_of_ble_eq_true rfl)
  rw [lg_entry_eq]
  generalize (lg_sl ([.ref mo, .int (nI d), .int (nI i), .int b]) ++ List.replicate (7 - (lg_sl ([.ref mo, .int (nI d), .int (nI i), .int b])).length) Slot.unset).toArray = ls at hl ⊢
  have hl : lv_has ls 7 [(0, .ref mo), (1, .int (nI d)), (2, .int (nI i)), (3, .int b)] := hl
  have hP : va_P D vwCl [(mo, .inr (8, [.ref ms, .int sv, .ref mb, .int ty, .int th, .ref mk, .int (nI lm), .ref mfd, .int mf, .int sp, .int on, .int tw])), (mk, .inl (K, 41, .inl lk))] s.heap := hP
  refine lv_aload_n hx hb dX8_distance_0 rfl (lv_at hl 0 rfl) ?_
  refine lv_iload_n hx hb dX8_distance_1 rfl (lv_at hl 2 rfl) ?_
  refine lv_iload_n hx hb dX8_distance_2 rfl (lv_at hl 3 rfl) ?_
  have ct := k_cut_of (wc := [(mo, .inr (8, [.ref ms, .int sv, .ref mb, .int ty, .int th, .ref mk, .int (nI lm), .ref mfd, .int mf, .int sp, .int on, .int tw])), (mk, .inl (K, 41, .inl lk))]) (wr := []) (tc := [(K, .int)]) hG hS hA hK hP hD [0, 1] [] [0] rfl rfl (by decide) (by decide) (by decide) rfl
  refine k_endi (As := [.ref mo, .int (nI i), .int b]) ct (k_runV (As := [.int (nI i), .int b]) (rest := []) S0 Lv_X8_85 rfl (ci := 8) (q0 := 0) rfl rfl ct (c_M_sum l D mo ms sv mb ty th mk lm mfd mf sp on tw K lk i b (by first | assumption | omega) (by first | assumption | omega) s.heap.size) hl.1 rfl (Nat.le_of_ble_eq_true rfl) rfl dX8_distance_3 ⟨⟨Nat.le_of_ble_eq_true rfl, Nat.le_of_ble_eq_true rfl⟩, Nat.le_of_ble_eq_true rfl, Nat.le_of_ble_eq_true rfl⟩) rfl rfl (fun r_1 _ H locs hw_2 hP hD hK hS => ?_)
  have hK : va_K D vwCl [(K, .int)] s := hK
  have hP : va_P D vwCl [(mo, .inr (8, [.ref ms, .int sv, .ref mb, .int ty, .int th, .ref mk, .int (nI lm), .ref mfd, .int mf, .int sp, .int on, .int tw])), (mk, .inl (K, 41, .inl lk))] H := hP
  have hD : va_D A [(mo, .inr (8, [.ref ms, .int sv, .ref mb, .int ty, .int th, .ref mk, .int (nI lm), .ref mfd, .int mf, .int sp, .int on, .int tw])), (mk, .inl (K, 41, .inl lk))] := hD
  have hw_2 : r_1 = (sm4 (lnF lm lk b) i) := hw_2
  have hw_2 := hw_2.symm
  subst hw_2
  refine k_nrm (y := (sm4 (lnF lm lk b) i)) rfl ?_
  refine lv_istore (lv' := [(4, .int (sm4 (lnF lm lk b) i)), (0, .ref mo), (1, .int (nI d)), (2, .int (nI i)), (3, .int b)]) hx hb dX8_distance_6 hl (by decide) rfl (fun ls hl => ?_)
  refine lv_iconst (v := 0) hx hb dX8_distance_8 (by decide) ?_
  refine lv_istore (lv' := [(5, .int 0), (4, .int (sm4 (lnF lm lk b) i)), (0, .ref mo), (1, .int (nI d)), (2, .int (nI i)), (3, .int b)]) hx hb dX8_distance_9 hl (by decide) rfl (fun ls hl => ?_)
  refine lv_iconst (v := 0) hx hb dX8_distance_11 (by decide) ?_
  refine lv_istore (lv' := [(6, .int 0), (5, .int 0), (4, .int (sm4 (lnF lm lk b) i)), (0, .ref mo), (1, .int (nI d)), (2, .int (nI i)), (3, .int b)]) hx hb dX8_distance_12 hl (by decide) rfl (fun ls hl => ?_)
  refine lv_iload hx hb dX8_distance_14 (lv_at hl 0 rfl) ?_
  refine lv_iconst (v := 4) hx hb dX8_distance_16 (by decide) ?_
  refine lv_icmp_ge (tgt := 56) hx hb dX8_distance_17 (by decide) (fun c9 => absurd c9 (by decide)) (fun _ => ?_)
  refine lv_iload hx hb dX8_distance_20 (lv_at hl 1 rfl) ?_
  refine lv_bipush (v := 7) hx hb dX8_distance_22 (by decide) ?_
  refine lv_aload_n hx hb dX8_distance_24 rfl (lv_at hl 3 rfl) ?_
  refine lv_iload_n hx hb dX8_distance_25 rfl (lv_at hl 5 rfl) ?_
  refine lv_iload hx hb dX8_distance_26 (lv_at hl 0 rfl) ?_
  refine lv_iadd hx hb dX8_distance_28 ?_
  refine k_nrm (y := (nI i)) (Int32.add_zero _) ?_
  refine lv_iload_n hx hb dX8_distance_29 rfl (lv_at hl 6 rfl) ?_
  have ct := k_cut_of (wc := [(mo, .inr (8, [.ref ms, .int sv, .ref mb, .int ty, .int th, .ref mk, .int (nI lm), .ref mfd, .int mf, .int sp, .int on, .int tw])), (mk, .inl (K, 41, .inl lk))]) (wr := []) (tc := [(K, .int)]) hG hS hA hK hP hD [0, 1] [] [0] rfl rfl (by decide) (by decide) (by decide) rfl
  refine k_endi (As := [.ref mo, .int (nI i), .int b]) ct (k_runV (As := [.int (nI i), .int b]) (rest := [.int 7, .int 0]) S0 Lv_X8_81 rfl (ci := 8) (q0 := 0) rfl rfl ct (c_M_time l D mo ms sv mb ty th mk lm mfd mf sp on tw K lk i b (by first | assumption | omega) (by first | assumption | omega) H.size) hl.1 rfl (Nat.le_of_ble_eq_true rfl) rfl dX8_distance_30 ⟨⟨Nat.le_of_ble_eq_true rfl, Nat.le_of_ble_eq_true rfl⟩, Nat.le_of_ble_eq_true rfl, Nat.le_of_ble_eq_true rfl⟩) rfl rfl (fun r_3 _ H locs hw_4 hP hD hK hS => ?_)
  have hK : va_K D vwCl [(K, .int)] s := hK
  have hP : va_P D vwCl [(mo, .inr (8, [.ref ms, .int sv, .ref mb, .int ty, .int th, .ref mk, .int (nI lm), .ref mfd, .int mf, .int sp, .int on, .int tw])), (mk, .inl (K, 41, .inl lk))] H := hP
  have hD : va_D A [(mo, .inr (8, [.ref ms, .int sv, .ref mb, .int ty, .int th, .ref mk, .int (nI lm), .ref mfd, .int mf, .int sp, .int on, .int tw])), (mk, .inl (K, 41, .inl lk))] := hD
  have hw_4 : r_3 = (lnF lm lk b i) := hw_4
  have hw_4 := hw_4.symm
  subst hw_4
  refine k_nrm (y := (lnF lm lk b i)) rfl ?_
  refine lv_imul hx hb dX8_distance_33 ?_
  refine k_nrm (y := (7 * (lnF lm lk b i))) (rfl) ?_
  refine lv_iload hx hb dX8_distance_34 (lv_at hl 2 rfl) ?_
  refine lv_iload_n hx hb dX8_distance_36 rfl (lv_at hl 4 rfl) ?_
  refine lv_iload hx hb dX8_distance_37 (lv_at hl 0 rfl) ?_
  have ct := k_cut_of (wc := []) (wr := [(mo, .inr (8, [.ref ms, .int sv, .ref mb, .int ty, .int th, .ref mk, .int (nI lm), .ref mfd, .int mf, .int sp, .int on, .int tw])), (mk, .inl (K, 41, .inl lk))]) (tc := []) hG hS hA hK hP hD [] [0, 1] [] rfl rfl (by decide) (by decide) (by decide) rfl
  refine k_endi (As := [.int (nI d), .int 0]) ct (k_runS (As := [.int (nI d), .int 0]) (rest := [.int (sm4 (lnF lm lk b) i), .int (7 * (lnF lm lk b i)), .int 0]) S0 Ls_X8_42 ct (c_M_widthOf0 l D d (by first | assumption | omega) H.size) hl.1 rfl (Nat.le_of_ble_eq_true rfl) rfl dX8_distance_39 ⟨⟨Nat.le_of_ble_eq_true rfl, Nat.le_of_ble_eq_true rfl⟩, Nat.le_of_ble_eq_true rfl, Nat.le_of_ble_eq_true rfl⟩) rfl rfl (fun r_5 _ H locs hw_6 hP hD hK hS => ?_)
  have hK : va_K D vwCl [(K, .int)] s := hK
  have hP : va_P D vwCl [(mo, .inr (8, [.ref ms, .int sv, .ref mb, .int ty, .int th, .ref mk, .int (nI lm), .ref mfd, .int mf, .int sp, .int on, .int tw])), (mk, .inl (K, 41, .inl lk))] H := hP
  have hD : va_D A [(mo, .inr (8, [.ref ms, .int sv, .ref mb, .int ty, .int th, .ref mk, .int (nI lm), .ref mfd, .int mf, .int sp, .int on, .int tw])), (mk, .inl (K, 41, .inl lk))] := hD
  have hw_6 : r_5 = (wdt (4 * d + 0)) := hw_6
  have hw_6 := hw_6.symm
  subst hw_6
  refine k_nrm (y := (wdt (4 * d + 0))) rfl ?_
  refine lv_imul hx hb dX8_distance_42 ?_
  refine k_nrm (y := ((sm4 (lnF lm lk b) i) * wdt (4 * d + 0))) (rfl) ?_
  refine lv_isub hx hb dX8_distance_43 ?_
  refine k_nrm (y := (7 * (lnF lm lk b i) - (sm4 (lnF lm lk b) i) * wdt (4 * d + 0))) (rfl) ?_
  have ct := k_cut_of (wc := []) (wr := [(mo, .inr (8, [.ref ms, .int sv, .ref mb, .int ty, .int th, .ref mk, .int (nI lm), .ref mfd, .int mf, .int sp, .int on, .int tw])), (mk, .inl (K, 41, .inl lk))]) (tc := []) hG hS hA hK hP hD [] [0, 1] [] rfl rfl (by decide) (by decide) (by decide) rfl
  refine k_endi (As := [.int (7 * (lnF lm lk b i) - (sm4 (lnF lm lk b) i) * wdt (4 * d + 0))]) ct (k_runS (As := [.int (7 * (lnF lm lk b i) - (sm4 (lnF lm lk b) i) * wdt (4 * d + 0))]) (rest := [.int 0]) S0 Ls_X8_88 ct (c_M_size l D (7 * (lnF lm lk b i) - (sm4 (lnF lm lk b) i) * wdt (4 * d + 0)) H.size) hl.1 rfl (Nat.le_of_ble_eq_true rfl) rfl dX8_distance_44 ⟨⟨Nat.le_of_ble_eq_true rfl, Nat.le_of_ble_eq_true rfl⟩, Nat.le_of_ble_eq_true rfl, Nat.le_of_ble_eq_true rfl⟩) rfl rfl (fun r_7 _ H locs hw_8 hP hD hK hS => ?_)
  have hK : va_K D vwCl [(K, .int)] s := hK
  have hP : va_P D vwCl [(mo, .inr (8, [.ref ms, .int sv, .ref mb, .int ty, .int th, .ref mk, .int (nI lm), .ref mfd, .int mf, .int sp, .int on, .int tw])), (mk, .inl (K, 41, .inl lk))] H := hP
  have hD : va_D A [(mo, .inr (8, [.ref ms, .int sv, .ref mb, .int ty, .int th, .ref mk, .int (nI lm), .ref mfd, .int mf, .int sp, .int on, .int tw])), (mk, .inl (K, 41, .inl lk))] := hD
  have hw_8 : r_7 = (absF (7 * (lnF lm lk b i) - (sm4 (lnF lm lk b) i) * wdt (4 * d + 0))) := hw_8
  have hw_8 := hw_8.symm
  subst hw_8
  refine k_nrm (y := (absF (7 * (lnF lm lk b i) - (sm4 (lnF lm lk b) i) * wdt (4 * d + 0)))) rfl ?_
  refine k_nrm (y := (amF (sm4 (lnF lm lk b) i) (lnF lm lk b i) (wdt (4 * d + 0)))) rfl ?_
  refine lv_iadd hx hb dX8_distance_47 ?_
  refine k_nrm (y := (amF (sm4 (lnF lm lk b) i) (lnF lm lk b i) (wdt (4 * d + 0)))) (Int32.zero_add _) ?_
  refine lv_istore (lv' := [(5, .int (amF (sm4 (lnF lm lk b) i) (lnF lm lk b i) (wdt (4 * d + 0)))), (6, .int 0), (4, .int (sm4 (lnF lm lk b) i)), (0, .ref mo), (1, .int (nI d)), (2, .int (nI i)), (3, .int b)]) hx hb dX8_distance_48 hl (by decide) rfl (fun ls hl => ?_)
  refine lv_iinc (v := 1) (lv' := [(6, .int 1), (5, .int (amF (sm4 (lnF lm lk b) i) (lnF lm lk b i) (wdt (4 * d + 0)))), (4, .int (sm4 (lnF lm lk b) i)), (0, .ref mo), (1, .int (nI d)), (2, .int (nI i)), (3, .int b)]) hx hb dX8_distance_50 hl (k := 1) rfl (by decide) (by decide) rfl (fun ls hl => ?_)
  refine lv_goto (tgt := 14) hx hb dX8_distance_53 (by decide) ?_
  refine lv_iload hx hb dX8_distance_14 (lv_at hl 0 rfl) ?_
  refine lv_iconst (v := 4) hx hb dX8_distance_16 (by decide) ?_
  refine lv_icmp_ge (tgt := 56) hx hb dX8_distance_17 (by decide) (fun c9 => absurd c9 (by decide)) (fun _ => ?_)
  refine lv_iload hx hb dX8_distance_20 (lv_at hl 1 rfl) ?_
  refine lv_bipush (v := 7) hx hb dX8_distance_22 (by decide) ?_
  refine lv_aload_n hx hb dX8_distance_24 rfl (lv_at hl 3 rfl) ?_
  refine lv_iload_n hx hb dX8_distance_25 rfl (lv_at hl 5 rfl) ?_
  refine lv_iload hx hb dX8_distance_26 (lv_at hl 0 rfl) ?_
  refine lv_iadd hx hb dX8_distance_28 ?_
  refine k_nrm (y := (nI (i + 1))) (nI_add i 1) ?_
  refine lv_iload_n hx hb dX8_distance_29 rfl (lv_at hl 6 rfl) ?_
  have ct := k_cut_of (wc := [(mo, .inr (8, [.ref ms, .int sv, .ref mb, .int ty, .int th, .ref mk, .int (nI lm), .ref mfd, .int mf, .int sp, .int on, .int tw])), (mk, .inl (K, 41, .inl lk))]) (wr := []) (tc := [(K, .int)]) hG hS hA hK hP hD [0, 1] [] [0] rfl rfl (by decide) (by decide) (by decide) rfl
  refine k_endi (As := [.ref mo, .int (nI (i + 1)), .int b]) ct (k_runV (As := [.int (nI (i + 1)), .int b]) (rest := [.int 7, .int (amF (sm4 (lnF lm lk b) i) (lnF lm lk b i) (wdt (4 * d + 0)))]) S0 Lv_X8_81 rfl (ci := 8) (q0 := 0) rfl rfl ct (c_M_time l D mo ms sv mb ty th mk lm mfd mf sp on tw K lk (i + 1) b (by first | assumption | omega) (by first | assumption | omega) H.size) hl.1 rfl (Nat.le_of_ble_eq_true rfl) rfl dX8_distance_30 ⟨⟨Nat.le_of_ble_eq_true rfl, Nat.le_of_ble_eq_true rfl⟩, Nat.le_of_ble_eq_true rfl, Nat.le_of_ble_eq_true rfl⟩) rfl rfl (fun r_9 _ H locs hw_10 hP hD hK hS => ?_)
  have hK : va_K D vwCl [(K, .int)] s := hK
  have hP : va_P D vwCl [(mo, .inr (8, [.ref ms, .int sv, .ref mb, .int ty, .int th, .ref mk, .int (nI lm), .ref mfd, .int mf, .int sp, .int on, .int tw])), (mk, .inl (K, 41, .inl lk))] H := hP
  have hD : va_D A [(mo, .inr (8, [.ref ms, .int sv, .ref mb, .int ty, .int th, .ref mk, .int (nI lm), .ref mfd, .int mf, .int sp, .int on, .int tw])), (mk, .inl (K, 41, .inl lk))] := hD
  have hw_10 : r_9 = (lnF lm lk b (i + 1)) := hw_10
  have hw_10 := hw_10.symm
  subst hw_10
  refine k_nrm (y := (lnF lm lk b (i + 1))) rfl ?_
  refine lv_imul hx hb dX8_distance_33 ?_
  refine k_nrm (y := (7 * (lnF lm lk b (i + 1)))) (rfl) ?_
  refine lv_iload hx hb dX8_distance_34 (lv_at hl 2 rfl) ?_
  refine lv_iload_n hx hb dX8_distance_36 rfl (lv_at hl 4 rfl) ?_
  refine lv_iload hx hb dX8_distance_37 (lv_at hl 0 rfl) ?_
  have ct := k_cut_of (wc := []) (wr := [(mo, .inr (8, [.ref ms, .int sv, .ref mb, .int ty, .int th, .ref mk, .int (nI lm), .ref mfd, .int mf, .int sp, .int on, .int tw])), (mk, .inl (K, 41, .inl lk))]) (tc := []) hG hS hA hK hP hD [] [0, 1] [] rfl rfl (by decide) (by decide) (by decide) rfl
  refine k_endi (As := [.int (nI d), .int 1]) ct (k_runS (As := [.int (nI d), .int 1]) (rest := [.int (sm4 (lnF lm lk b) i), .int (7 * (lnF lm lk b (i + 1))), .int (amF (sm4 (lnF lm lk b) i) (lnF lm lk b i) (wdt (4 * d + 0)))]) S0 Ls_X8_42 ct (c_M_widthOf1 l D d (by first | assumption | omega) H.size) hl.1 rfl (Nat.le_of_ble_eq_true rfl) rfl dX8_distance_39 ⟨⟨Nat.le_of_ble_eq_true rfl, Nat.le_of_ble_eq_true rfl⟩, Nat.le_of_ble_eq_true rfl, Nat.le_of_ble_eq_true rfl⟩) rfl rfl (fun r_11 _ H locs hw_12 hP hD hK hS => ?_)
  have hK : va_K D vwCl [(K, .int)] s := hK
  have hP : va_P D vwCl [(mo, .inr (8, [.ref ms, .int sv, .ref mb, .int ty, .int th, .ref mk, .int (nI lm), .ref mfd, .int mf, .int sp, .int on, .int tw])), (mk, .inl (K, 41, .inl lk))] H := hP
  have hD : va_D A [(mo, .inr (8, [.ref ms, .int sv, .ref mb, .int ty, .int th, .ref mk, .int (nI lm), .ref mfd, .int mf, .int sp, .int on, .int tw])), (mk, .inl (K, 41, .inl lk))] := hD
  have hw_12 : r_11 = (wdt (4 * d + 1)) := hw_12
  have hw_12 := hw_12.symm
  subst hw_12
  refine k_nrm (y := (wdt (4 * d + 1))) rfl ?_
  refine lv_imul hx hb dX8_distance_42 ?_
  refine k_nrm (y := ((sm4 (lnF lm lk b) i) * wdt (4 * d + 1))) (rfl) ?_
  refine lv_isub hx hb dX8_distance_43 ?_
  refine k_nrm (y := (7 * (lnF lm lk b (i + 1)) - (sm4 (lnF lm lk b) i) * wdt (4 * d + 1))) (rfl) ?_
  have ct := k_cut_of (wc := []) (wr := [(mo, .inr (8, [.ref ms, .int sv, .ref mb, .int ty, .int th, .ref mk, .int (nI lm), .ref mfd, .int mf, .int sp, .int on, .int tw])), (mk, .inl (K, 41, .inl lk))]) (tc := []) hG hS hA hK hP hD [] [0, 1] [] rfl rfl (by decide) (by decide) (by decide) rfl
  refine k_endi (As := [.int (7 * (lnF lm lk b (i + 1)) - (sm4 (lnF lm lk b) i) * wdt (4 * d + 1))]) ct (k_runS (As := [.int (7 * (lnF lm lk b (i + 1)) - (sm4 (lnF lm lk b) i) * wdt (4 * d + 1))]) (rest := [.int (amF (sm4 (lnF lm lk b) i) (lnF lm lk b i) (wdt (4 * d + 0)))]) S0 Ls_X8_88 ct (c_M_size l D (7 * (lnF lm lk b (i + 1)) - (sm4 (lnF lm lk b) i) * wdt (4 * d + 1)) H.size) hl.1 rfl (Nat.le_of_ble_eq_true rfl) rfl dX8_distance_44 ⟨⟨Nat.le_of_ble_eq_true rfl, Nat.le_of_ble_eq_true rfl⟩, Nat.le_of_ble_eq_true rfl, Nat.le_of_ble_eq_true rfl⟩) rfl rfl (fun r_13 _ H locs hw_14 hP hD hK hS => ?_)
  have hK : va_K D vwCl [(K, .int)] s := hK
  have hP : va_P D vwCl [(mo, .inr (8, [.ref ms, .int sv, .ref mb, .int ty, .int th, .ref mk, .int (nI lm), .ref mfd, .int mf, .int sp, .int on, .int tw])), (mk, .inl (K, 41, .inl lk))] H := hP
  have hD : va_D A [(mo, .inr (8, [.ref ms, .int sv, .ref mb, .int ty, .int th, .ref mk, .int (nI lm), .ref mfd, .int mf, .int sp, .int on, .int tw])), (mk, .inl (K, 41, .inl lk))] := hD
  have hw_14 : r_13 = (absF (7 * (lnF lm lk b (i + 1)) - (sm4 (lnF lm lk b) i) * wdt (4 * d + 1))) := hw_14
  have hw_14 := hw_14.symm
  subst hw_14
  refine k_nrm (y := (absF (7 * (lnF lm lk b (i + 1)) - (sm4 (lnF lm lk b) i) * wdt (4 * d + 1)))) rfl ?_
  refine k_nrm (y := (amF (sm4 (lnF lm lk b) i) (lnF lm lk b (i + 1)) (wdt (4 * d + 1)))) rfl ?_
  refine lv_iadd hx hb dX8_distance_47 ?_
  refine k_nrm (y := ((amF (sm4 (lnF lm lk b) i) (lnF lm lk b i) (wdt (4 * d + 0))) + (amF (sm4 (lnF lm lk b) i) (lnF lm lk b (i + 1)) (wdt (4 * d + 1))))) (rfl) ?_
  refine lv_istore (lv' := [(5, .int ((amF (sm4 (lnF lm lk b) i) (lnF lm lk b i) (wdt (4 * d + 0))) + (amF (sm4 (lnF lm lk b) i) (lnF lm lk b (i + 1)) (wdt (4 * d + 1))))), (6, .int 1), (4, .int (sm4 (lnF lm lk b) i)), (0, .ref mo), (1, .int (nI d)), (2, .int (nI i)), (3, .int b)]) hx hb dX8_distance_48 hl (by decide) rfl (fun ls hl => ?_)
  refine lv_iinc (v := 2) (lv' := [(6, .int 2), (5, .int ((amF (sm4 (lnF lm lk b) i) (lnF lm lk b i) (wdt (4 * d + 0))) + (amF (sm4 (lnF lm lk b) i) (lnF lm lk b (i + 1)) (wdt (4 * d + 1))))), (4, .int (sm4 (lnF lm lk b) i)), (0, .ref mo), (1, .int (nI d)), (2, .int (nI i)), (3, .int b)]) hx hb dX8_distance_50 hl (k := 1) rfl (by decide) (by decide) rfl (fun ls hl => ?_)
  refine lv_goto (tgt := 14) hx hb dX8_distance_53 (by decide) ?_
  refine lv_iload hx hb dX8_distance_14 (lv_at hl 0 rfl) ?_
  refine lv_iconst (v := 4) hx hb dX8_distance_16 (by decide) ?_
  refine lv_icmp_ge (tgt := 56) hx hb dX8_distance_17 (by decide) (fun c9 => absurd c9 (by decide)) (fun _ => ?_)
  refine lv_iload hx hb dX8_distance_20 (lv_at hl 1 rfl) ?_
  refine lv_bipush (v := 7) hx hb dX8_distance_22 (by decide) ?_
  refine lv_aload_n hx hb dX8_distance_24 rfl (lv_at hl 3 rfl) ?_
  refine lv_iload_n hx hb dX8_distance_25 rfl (lv_at hl 5 rfl) ?_
  refine lv_iload hx hb dX8_distance_26 (lv_at hl 0 rfl) ?_
  refine lv_iadd hx hb dX8_distance_28 ?_
  refine k_nrm (y := (nI (i + 2))) (nI_add i 2) ?_
  refine lv_iload_n hx hb dX8_distance_29 rfl (lv_at hl 6 rfl) ?_
  have ct := k_cut_of (wc := [(mo, .inr (8, [.ref ms, .int sv, .ref mb, .int ty, .int th, .ref mk, .int (nI lm), .ref mfd, .int mf, .int sp, .int on, .int tw])), (mk, .inl (K, 41, .inl lk))]) (wr := []) (tc := [(K, .int)]) hG hS hA hK hP hD [0, 1] [] [0] rfl rfl (by decide) (by decide) (by decide) rfl
  refine k_endi (As := [.ref mo, .int (nI (i + 2)), .int b]) ct (k_runV (As := [.int (nI (i + 2)), .int b]) (rest := [.int 7, .int ((amF (sm4 (lnF lm lk b) i) (lnF lm lk b i) (wdt (4 * d + 0))) + (amF (sm4 (lnF lm lk b) i) (lnF lm lk b (i + 1)) (wdt (4 * d + 1))))]) S0 Lv_X8_81 rfl (ci := 8) (q0 := 0) rfl rfl ct (c_M_time l D mo ms sv mb ty th mk lm mfd mf sp on tw K lk (i + 2) b (by first | assumption | omega) (by first | assumption | omega) H.size) hl.1 rfl (Nat.le_of_ble_eq_true rfl) rfl dX8_distance_30 ⟨⟨Nat.le_of_ble_eq_true rfl, Nat.le_of_ble_eq_true rfl⟩, Nat.le_of_ble_eq_true rfl, Nat.le_of_ble_eq_true rfl⟩) rfl rfl (fun r_15 _ H locs hw_16 hP hD hK hS => ?_)
  have hK : va_K D vwCl [(K, .int)] s := hK
  have hP : va_P D vwCl [(mo, .inr (8, [.ref ms, .int sv, .ref mb, .int ty, .int th, .ref mk, .int (nI lm), .ref mfd, .int mf, .int sp, .int on, .int tw])), (mk, .inl (K, 41, .inl lk))] H := hP
  have hD : va_D A [(mo, .inr (8, [.ref ms, .int sv, .ref mb, .int ty, .int th, .ref mk, .int (nI lm), .ref mfd, .int mf, .int sp, .int on, .int tw])), (mk, .inl (K, 41, .inl lk))] := hD
  have hw_16 : r_15 = (lnF lm lk b (i + 2)) := hw_16
  have hw_16 := hw_16.symm
  subst hw_16
  refine k_nrm (y := (lnF lm lk b (i + 2))) rfl ?_
  refine lv_imul hx hb dX8_distance_33 ?_
  refine k_nrm (y := (7 * (lnF lm lk b (i + 2)))) (rfl) ?_
  refine lv_iload hx hb dX8_distance_34 (lv_at hl 2 rfl) ?_
  refine lv_iload_n hx hb dX8_distance_36 rfl (lv_at hl 4 rfl) ?_
  refine lv_iload hx hb dX8_distance_37 (lv_at hl 0 rfl) ?_
  have ct := k_cut_of (wc := []) (wr := [(mo, .inr (8, [.ref ms, .int sv, .ref mb, .int ty, .int th, .ref mk, .int (nI lm), .ref mfd, .int mf, .int sp, .int on, .int tw])), (mk, .inl (K, 41, .inl lk))]) (tc := []) hG hS hA hK hP hD [] [0, 1] [] rfl rfl (by decide) (by decide) (by decide) rfl
  refine k_endi (As := [.int (nI d), .int 2]) ct (k_runS (As := [.int (nI d), .int 2]) (rest := [.int (sm4 (lnF lm lk b) i), .int (7 * (lnF lm lk b (i + 2))), .int ((amF (sm4 (lnF lm lk b) i) (lnF lm lk b i) (wdt (4 * d + 0))) + (amF (sm4 (lnF lm lk b) i) (lnF lm lk b (i + 1)) (wdt (4 * d + 1))))]) S0 Ls_X8_42 ct (c_M_widthOf2 l D d (by first | assumption | omega) H.size) hl.1 rfl (Nat.le_of_ble_eq_true rfl) rfl dX8_distance_39 ⟨⟨Nat.le_of_ble_eq_true rfl, Nat.le_of_ble_eq_true rfl⟩, Nat.le_of_ble_eq_true rfl, Nat.le_of_ble_eq_true rfl⟩) rfl rfl (fun r_17 _ H locs hw_18 hP hD hK hS => ?_)
  have hK : va_K D vwCl [(K, .int)] s := hK
  have hP : va_P D vwCl [(mo, .inr (8, [.ref ms, .int sv, .ref mb, .int ty, .int th, .ref mk, .int (nI lm), .ref mfd, .int mf, .int sp, .int on, .int tw])), (mk, .inl (K, 41, .inl lk))] H := hP
  have hD : va_D A [(mo, .inr (8, [.ref ms, .int sv, .ref mb, .int ty, .int th, .ref mk, .int (nI lm), .ref mfd, .int mf, .int sp, .int on, .int tw])), (mk, .inl (K, 41, .inl lk))] := hD
  have hw_18 : r_17 = (wdt (4 * d + 2)) := hw_18
  have hw_18 := hw_18.symm
  subst hw_18
  refine k_nrm (y := (wdt (4 * d + 2))) rfl ?_
  refine lv_imul hx hb dX8_distance_42 ?_
  refine k_nrm (y := ((sm4 (lnF lm lk b) i) * wdt (4 * d + 2))) (rfl) ?_
  refine lv_isub hx hb dX8_distance_43 ?_
  refine k_nrm (y := (7 * (lnF lm lk b (i + 2)) - (sm4 (lnF lm lk b) i) * wdt (4 * d + 2))) (rfl) ?_
  have ct := k_cut_of (wc := []) (wr := [(mo, .inr (8, [.ref ms, .int sv, .ref mb, .int ty, .int th, .ref mk, .int (nI lm), .ref mfd, .int mf, .int sp, .int on, .int tw])), (mk, .inl (K, 41, .inl lk))]) (tc := []) hG hS hA hK hP hD [] [0, 1] [] rfl rfl (by decide) (by decide) (by decide) rfl
  refine k_endi (As := [.int (7 * (lnF lm lk b (i + 2)) - (sm4 (lnF lm lk b) i) * wdt (4 * d + 2))]) ct (k_runS (As := [.int (7 * (lnF lm lk b (i + 2)) - (sm4 (lnF lm lk b) i) * wdt (4 * d + 2))]) (rest := [.int ((amF (sm4 (lnF lm lk b) i) (lnF lm lk b i) (wdt (4 * d + 0))) + (amF (sm4 (lnF lm lk b) i) (lnF lm lk b (i + 1)) (wdt (4 * d + 1))))]) S0 Ls_X8_88 ct (c_M_size l D (7 * (lnF lm lk b (i + 2)) - (sm4 (lnF lm lk b) i) * wdt (4 * d + 2)) H.size) hl.1 rfl (Nat.le_of_ble_eq_true rfl) rfl dX8_distance_44 ⟨⟨Nat.le_of_ble_eq_true rfl, Nat.le_of_ble_eq_true rfl⟩, Nat.le_of_ble_eq_true rfl, Nat.le_of_ble_eq_true rfl⟩) rfl rfl (fun r_19 _ H locs hw_20 hP hD hK hS => ?_)
  have hK : va_K D vwCl [(K, .int)] s := hK
  have hP : va_P D vwCl [(mo, .inr (8, [.ref ms, .int sv, .ref mb, .int ty, .int th, .ref mk, .int (nI lm), .ref mfd, .int mf, .int sp, .int on, .int tw])), (mk, .inl (K, 41, .inl lk))] H := hP
  have hD : va_D A [(mo, .inr (8, [.ref ms, .int sv, .ref mb, .int ty, .int th, .ref mk, .int (nI lm), .ref mfd, .int mf, .int sp, .int on, .int tw])), (mk, .inl (K, 41, .inl lk))] := hD
  have hw_20 : r_19 = (absF (7 * (lnF lm lk b (i + 2)) - (sm4 (lnF lm lk b) i) * wdt (4 * d + 2))) := hw_20
  have hw_20 := hw_20.symm
  subst hw_20
  refine k_nrm (y := (absF (7 * (lnF lm lk b (i + 2)) - (sm4 (lnF lm lk b) i) * wdt (4 * d + 2)))) rfl ?_
  refine k_nrm (y := (amF (sm4 (lnF lm lk b) i) (lnF lm lk b (i + 2)) (wdt (4 * d + 2)))) rfl ?_
  refine lv_iadd hx hb dX8_distance_47 ?_
  refine k_nrm (y := ((amF (sm4 (lnF lm lk b) i) (lnF lm lk b i) (wdt (4 * d + 0))) + (amF (sm4 (lnF lm lk b) i) (lnF lm lk b (i + 1)) (wdt (4 * d + 1))) + (amF (sm4 (lnF lm lk b) i) (lnF lm lk b (i + 2)) (wdt (4 * d + 2))))) (rfl) ?_
  refine lv_istore (lv' := [(5, .int ((amF (sm4 (lnF lm lk b) i) (lnF lm lk b i) (wdt (4 * d + 0))) + (amF (sm4 (lnF lm lk b) i) (lnF lm lk b (i + 1)) (wdt (4 * d + 1))) + (amF (sm4 (lnF lm lk b) i) (lnF lm lk b (i + 2)) (wdt (4 * d + 2))))), (6, .int 2), (4, .int (sm4 (lnF lm lk b) i)), (0, .ref mo), (1, .int (nI d)), (2, .int (nI i)), (3, .int b)]) hx hb dX8_distance_48 hl (by decide) rfl (fun ls hl => ?_)
  refine lv_iinc (v := 3) (lv' := [(6, .int 3), (5, .int ((amF (sm4 (lnF lm lk b) i) (lnF lm lk b i) (wdt (4 * d + 0))) + (amF (sm4 (lnF lm lk b) i) (lnF lm lk b (i + 1)) (wdt (4 * d + 1))) + (amF (sm4 (lnF lm lk b) i) (lnF lm lk b (i + 2)) (wdt (4 * d + 2))))), (4, .int (sm4 (lnF lm lk b) i)), (0, .ref mo), (1, .int (nI d)), (2, .int (nI i)), (3, .int b)]) hx hb dX8_distance_50 hl (k := 1) rfl (by decide) (by decide) rfl (fun ls hl => ?_)
  refine lv_goto (tgt := 14) hx hb dX8_distance_53 (by decide) ?_
  refine lv_iload hx hb dX8_distance_14 (lv_at hl 0 rfl) ?_
  refine lv_iconst (v := 4) hx hb dX8_distance_16 (by decide) ?_
  refine lv_icmp_ge (tgt := 56) hx hb dX8_distance_17 (by decide) (fun c9 => absurd c9 (by decide)) (fun _ => ?_)
  refine lv_iload hx hb dX8_distance_20 (lv_at hl 1 rfl) ?_
  refine lv_bipush (v := 7) hx hb dX8_distance_22 (by decide) ?_
  refine lv_aload_n hx hb dX8_distance_24 rfl (lv_at hl 3 rfl) ?_
  refine lv_iload_n hx hb dX8_distance_25 rfl (lv_at hl 5 rfl) ?_
  refine lv_iload hx hb dX8_distance_26 (lv_at hl 0 rfl) ?_
  refine lv_iadd hx hb dX8_distance_28 ?_
  refine k_nrm (y := (nI (i + 3))) (nI_add i 3) ?_
  refine lv_iload_n hx hb dX8_distance_29 rfl (lv_at hl 6 rfl) ?_
  have ct := k_cut_of (wc := [(mo, .inr (8, [.ref ms, .int sv, .ref mb, .int ty, .int th, .ref mk, .int (nI lm), .ref mfd, .int mf, .int sp, .int on, .int tw])), (mk, .inl (K, 41, .inl lk))]) (wr := []) (tc := [(K, .int)]) hG hS hA hK hP hD [0, 1] [] [0] rfl rfl (by decide) (by decide) (by decide) rfl
  refine k_endi (As := [.ref mo, .int (nI (i + 3)), .int b]) ct (k_runV (As := [.int (nI (i + 3)), .int b]) (rest := [.int 7, .int ((amF (sm4 (lnF lm lk b) i) (lnF lm lk b i) (wdt (4 * d + 0))) + (amF (sm4 (lnF lm lk b) i) (lnF lm lk b (i + 1)) (wdt (4 * d + 1))) + (amF (sm4 (lnF lm lk b) i) (lnF lm lk b (i + 2)) (wdt (4 * d + 2))))]) S0 Lv_X8_81 rfl (ci := 8) (q0 := 0) rfl rfl ct (c_M_time l D mo ms sv mb ty th mk lm mfd mf sp on tw K lk (i + 3) b (by first | assumption | omega) (by first | assumption | omega) H.size) hl.1 rfl (Nat.le_of_ble_eq_true rfl) rfl dX8_distance_30 ⟨⟨Nat.le_of_ble_eq_true rfl, Nat.le_of_ble_eq_true rfl⟩, Nat.le_of_ble_eq_true rfl, Nat.le_of_ble_eq_true rfl⟩) rfl rfl (fun r_21 _ H locs hw_22 hP hD hK hS => ?_)
  have hK : va_K D vwCl [(K, .int)] s := hK
  have hP : va_P D vwCl [(mo, .inr (8, [.ref ms, .int sv, .ref mb, .int ty, .int th, .ref mk, .int (nI lm), .ref mfd, .int mf, .int sp, .int on, .int tw])), (mk, .inl (K, 41, .inl lk))] H := hP
  have hD : va_D A [(mo, .inr (8, [.ref ms, .int sv, .ref mb, .int ty, .int th, .ref mk, .int (nI lm), .ref mfd, .int mf, .int sp, .int on, .int tw])), (mk, .inl (K, 41, .inl lk))] := hD
  have hw_22 : r_21 = (lnF lm lk b (i + 3)) := hw_22
  have hw_22 := hw_22.symm
  subst hw_22
  refine k_nrm (y := (lnF lm lk b (i + 3))) rfl ?_
  refine lv_imul hx hb dX8_distance_33 ?_
  refine k_nrm (y := (7 * (lnF lm lk b (i + 3)))) (rfl) ?_
  refine lv_iload hx hb dX8_distance_34 (lv_at hl 2 rfl) ?_
  refine lv_iload_n hx hb dX8_distance_36 rfl (lv_at hl 4 rfl) ?_
  refine lv_iload hx hb dX8_distance_37 (lv_at hl 0 rfl) ?_
  have ct := k_cut_of (wc := []) (wr := [(mo, .inr (8, [.ref ms, .int sv, .ref mb, .int ty, .int th, .ref mk, .int (nI lm), .ref mfd, .int mf, .int sp, .int on, .int tw])), (mk, .inl (K, 41, .inl lk))]) (tc := []) hG hS hA hK hP hD [] [0, 1] [] rfl rfl (by decide) (by decide) (by decide) rfl
  refine k_endi (As := [.int (nI d), .int 3]) ct (k_runS (As := [.int (nI d), .int 3]) (rest := [.int (sm4 (lnF lm lk b) i), .int (7 * (lnF lm lk b (i + 3))), .int ((amF (sm4 (lnF lm lk b) i) (lnF lm lk b i) (wdt (4 * d + 0))) + (amF (sm4 (lnF lm lk b) i) (lnF lm lk b (i + 1)) (wdt (4 * d + 1))) + (amF (sm4 (lnF lm lk b) i) (lnF lm lk b (i + 2)) (wdt (4 * d + 2))))]) S0 Ls_X8_42 ct (c_M_widthOf3 l D d (by first | assumption | omega) H.size) hl.1 rfl (Nat.le_of_ble_eq_true rfl) rfl dX8_distance_39 ⟨⟨Nat.le_of_ble_eq_true rfl, Nat.le_of_ble_eq_true rfl⟩, Nat.le_of_ble_eq_true rfl, Nat.le_of_ble_eq_true rfl⟩) rfl rfl (fun r_23 _ H locs hw_24 hP hD hK hS => ?_)
  have hK : va_K D vwCl [(K, .int)] s := hK
  have hP : va_P D vwCl [(mo, .inr (8, [.ref ms, .int sv, .ref mb, .int ty, .int th, .ref mk, .int (nI lm), .ref mfd, .int mf, .int sp, .int on, .int tw])), (mk, .inl (K, 41, .inl lk))] H := hP
  have hD : va_D A [(mo, .inr (8, [.ref ms, .int sv, .ref mb, .int ty, .int th, .ref mk, .int (nI lm), .ref mfd, .int mf, .int sp, .int on, .int tw])), (mk, .inl (K, 41, .inl lk))] := hD
  have hw_24 : r_23 = (wdt (4 * d + 3)) := hw_24
  have hw_24 := hw_24.symm
  subst hw_24
  refine k_nrm (y := (wdt (4 * d + 3))) rfl ?_
  refine lv_imul hx hb dX8_distance_42 ?_
  refine k_nrm (y := ((sm4 (lnF lm lk b) i) * wdt (4 * d + 3))) (rfl) ?_
  refine lv_isub hx hb dX8_distance_43 ?_
  refine k_nrm (y := (7 * (lnF lm lk b (i + 3)) - (sm4 (lnF lm lk b) i) * wdt (4 * d + 3))) (rfl) ?_
  have ct := k_cut_of (wc := []) (wr := [(mo, .inr (8, [.ref ms, .int sv, .ref mb, .int ty, .int th, .ref mk, .int (nI lm), .ref mfd, .int mf, .int sp, .int on, .int tw])), (mk, .inl (K, 41, .inl lk))]) (tc := []) hG hS hA hK hP hD [] [0, 1] [] rfl rfl (by decide) (by decide) (by decide) rfl
  refine k_endi (As := [.int (7 * (lnF lm lk b (i + 3)) - (sm4 (lnF lm lk b) i) * wdt (4 * d + 3))]) ct (k_runS (As := [.int (7 * (lnF lm lk b (i + 3)) - (sm4 (lnF lm lk b) i) * wdt (4 * d + 3))]) (rest := [.int ((amF (sm4 (lnF lm lk b) i) (lnF lm lk b i) (wdt (4 * d + 0))) + (amF (sm4 (lnF lm lk b) i) (lnF lm lk b (i + 1)) (wdt (4 * d + 1))) + (amF (sm4 (lnF lm lk b) i) (lnF lm lk b (i + 2)) (wdt (4 * d + 2))))]) S0 Ls_X8_88 ct (c_M_size l D (7 * (lnF lm lk b (i + 3)) - (sm4 (lnF lm lk b) i) * wdt (4 * d + 3)) H.size) hl.1 rfl (Nat.le_of_ble_eq_true rfl) rfl dX8_distance_44 ⟨⟨Nat.le_of_ble_eq_true rfl, Nat.le_of_ble_eq_true rfl⟩, Nat.le_of_ble_eq_true rfl, Nat.le_of_ble_eq_true rfl⟩) rfl rfl (fun r_25 _ H locs hw_26 hP hD hK hS => ?_)
  have hK : va_K D vwCl [(K, .int)] s := hK
  have hP : va_P D vwCl [(mo, .inr (8, [.ref ms, .int sv, .ref mb, .int ty, .int th, .ref mk, .int (nI lm), .ref mfd, .int mf, .int sp, .int on, .int tw])), (mk, .inl (K, 41, .inl lk))] H := hP
  have hD : va_D A [(mo, .inr (8, [.ref ms, .int sv, .ref mb, .int ty, .int th, .ref mk, .int (nI lm), .ref mfd, .int mf, .int sp, .int on, .int tw])), (mk, .inl (K, 41, .inl lk))] := hD
  have hw_26 : r_25 = (absF (7 * (lnF lm lk b (i + 3)) - (sm4 (lnF lm lk b) i) * wdt (4 * d + 3))) := hw_26
  have hw_26 := hw_26.symm
  subst hw_26
  refine k_nrm (y := (absF (7 * (lnF lm lk b (i + 3)) - (sm4 (lnF lm lk b) i) * wdt (4 * d + 3)))) rfl ?_
  refine k_nrm (y := (amF (sm4 (lnF lm lk b) i) (lnF lm lk b (i + 3)) (wdt (4 * d + 3)))) rfl ?_
  refine lv_iadd hx hb dX8_distance_47 ?_
  refine k_nrm (y := (dsM lm lk b i d)) (rfl) ?_
  refine lv_istore (lv' := [(5, .int (dsM lm lk b i d)), (6, .int 3), (4, .int (sm4 (lnF lm lk b) i)), (0, .ref mo), (1, .int (nI d)), (2, .int (nI i)), (3, .int b)]) hx hb dX8_distance_48 hl (by decide) rfl (fun ls hl => ?_)
  refine lv_iinc (v := 4) (lv' := [(6, .int 4), (5, .int (dsM lm lk b i d)), (4, .int (sm4 (lnF lm lk b) i)), (0, .ref mo), (1, .int (nI d)), (2, .int (nI i)), (3, .int b)]) hx hb dX8_distance_50 hl (k := 1) rfl (by decide) (by decide) rfl (fun ls hl => ?_)
  refine lv_goto (tgt := 14) hx hb dX8_distance_53 (by decide) ?_
  refine lv_iload hx hb dX8_distance_14 (lv_at hl 0 rfl) ?_
  refine lv_iconst (v := 4) hx hb dX8_distance_16 (by decide) ?_
  refine lv_icmp_ge (tgt := 56) hx hb dX8_distance_17 (by decide) (fun _ => ?_) (fun c9 => absurd (by decide) c9)
  refine lv_iload hx hb dX8_distance_56 (lv_at hl 1 rfl) ?_
  have hP9 : va_P D vwCl [(mo, .inr (8, [.ref ms, .int sv, .ref mb, .int ty, .int th, .ref mk, .int (nI lm), .ref mfd, .int mf, .int sp, .int on, .int tw])), (mk, .inl (K, 41, .inl lk))] H := hP.sub [0, 1] rfl
  have hD9 : va_D A [(mo, .inr (8, [.ref ms, .int sv, .ref mb, .int ty, .int th, .ref mk, .int (nI lm), .ref mfd, .int mf, .int sp, .int on, .int tw])), (mk, .inl (K, 41, .inl lk))] := hD.sub [0, 1] (by decide) rfl
  have hK9 : va_K D vwCl [] s := hK.sub [] rfl
  exact W.iret (v := (dsM lm lk b i d)) hx hb hr (fun t ht9 hW9 => ⟨⟨(dsM lm lk b i d), (), rfl, by first | rfl | trivial | (simp only [if_true, if_false, reduceIte, and_self]; done) | simp_all, ⟨by rw [ht9]; exact hP9, va_K.moved hW9.alike hK9, hD9⟩⟩, hS.F ht9⟩) hS.2.2 dX8_distance_58
