theorem lc_L_8 : Cond.classLink RL 8 "BarcodeWand" ∈ wsA := mA 17 rfl rfl
theorem lt_BarcodeWand : Cond.instantiable "BarcodeWand" 6 ∈ wsA := mA 18 rfl rfl
theorem lk_X7_init : Cond.code yX7_init cX7_init 1 none ∈ wsA := mA 21 rfl rfl
theorem ly_X7_init : k_y yX7_init 0 := ⟨by decide +kernel, by decide +kernel, by decide +kernel⟩
theorem lm_X7_init : Cond.instanceMethod yX7_init ∈ wsA := mA 20 rfl rfl
theorem Li_L_73 : k_LI RL 73 yX7_init cX7_init 1 0 := ⟨mA 19 rfl rfl, lm_X7_init, li_BarcodeWand, lk_X7_init, rfl, ly_X7_init⟩
set_option maxRecDepth 20000 in
theorem lc_L_74 : Cond.classLink RL 74 "BarcodeWandModel" ∈ wsA := mA 781 rfl rfl
set_option maxRecDepth 20000 in
theorem lt_BarcodeWandModel : Cond.instantiable "BarcodeWandModel" 12 ∈ wsA := mA 782 rfl rfl
set_option maxRecDepth 20000 in
theorem lk_X8_init : Cond.code yX8_init cX8_init 1 none ∈ wsA := mA 785 rfl rfl
theorem ly_X8_init : k_y yX8_init 0 := ⟨by decide +kernel, by decide +kernel, by decide +kernel⟩
set_option maxRecDepth 20000 in
theorem lm_X8_init : Cond.instanceMethod yX8_init ∈ wsA := mA 784 rfl rfl
set_option maxRecDepth 20000 in
theorem Li_L_76 : k_LI RL 76 yX8_init cX8_init 1 0 := ⟨mA 783 rfl rfl, lm_X8_init, li_BarcodeWandModel, lk_X8_init, rfl, ly_X8_init⟩
set_option maxRecDepth 20000 in
theorem la_long : Cond.arrayClass .long ∈ wsA := mA 1123 rfl rfl
set_option maxHeartbeats 8000000 in
set_option maxRecDepth 100000 in
theorem whole_start {p : Program} {e : Env} {s : State} {m : MethodId} {below : List Frame} {meth : Method} {c : Code} (l : Launch) (hflags : l.flags = flags0) {b L : Nat} {xs : Nat → Int32} (hL : L ≤ 4) (C0 : lw_At p s m meth c b L xs) : W p l e room_1 s m #[Value.ref b] below meth c s.heap [] 0 0 (lw_Z below #[Value.ref b] s) (entryFrame m ([Value.ref b] : List Value).toArray 7) := by
  have C1 := C0
  obtain ⟨hx, hb, hr, hml, hown, hts, hX, hbl, hlocks, hgv⟩ := C1
  have hown : s.vm.findClass RL = some m.cls := hown
  have ht : ∀ v9 ∈ wsA, v9.before #[Value.ref b] s = true := fun v9 h9 => hts v9 (wsA_tbl h9)
  have S0 : k_C p s m #[Value.ref b] c cL_law 7 RL := ⟨hx, hb, hml, hown, ht⟩
  have hst : l.stackTraces = false := by unfold Launch.stackTraces; rw [hflags]; decide +kernel
  have hG0 := law_G C0
  have hG := hG0
  have hbA : ¬ (fun q : Nat => s.heap.size ≤ q) b := Nat.not_le.mpr hbl
  have hA : ∀ q : Nat, s.heap.size ≤ q → (fun q : Nat => s.heap.size ≤ q) q := fun _ h9 => h9
  obtain ⟨cc0, iS0, hKn0⟩ := u_known (C := RX0) (T := TX0) (N := 3) (n := 3) ht inA_X0 (ht _ lt_BarcodeWand_CodeList)
  obtain ⟨cc1, iS1, hKn1⟩ := u_known (C := RX1) (T := TX1) (N := 6) (n := 6) ht inA_X1 (ht _ lt_BarcodeWand_CommandParser)
  obtain ⟨cc2, iS2, hKn2⟩ := u_known (C := RX2) (T := TX2) (N := 2) (n := 2) ht inA_X2 (ht _ lt_BarcodeWand_Label)
  obtain ⟨cc3, iS3, hKn3⟩ := u_known (C := RX3) (T := TX3) (N := 8) (n := 8) ht inA_X3 (ht _ lt_BarcodeWand_Reader)
  obtain ⟨cc4, iS4, hKn4⟩ := u_known (C := RX4) (T := TX4) (N := 2) (n := 2) ht inA_X4 (ht _ lt_BarcodeWand_Row)
  obtain ⟨cc5, iS5, hKn5⟩ := u_known (C := RX5) (T := TX5) (N := 3) (n := 3) ht inA_X5 (ht _ lt_BarcodeWand_SavedStates)
  obtain ⟨cc6, iS6, hKn6⟩ := u_known (C := RX6) (T := TX6) (N := 6) (n := 6) ht inA_X6 (ht _ lt_BarcodeWand_State)
  obtain ⟨cc7, iS7, hKn7⟩ := u_known (C := RX7) (T := TX7) (N := 6) (n := 6) ht inA_X7 (ht _ lt_BarcodeWand)
  obtain ⟨cc8, iS8, hKn8⟩ := u_known (C := RX8) (T := TX8) (N := 12) (n := 12) ht inA_X8 (ht _ lt_BarcodeWandModel)
  obtain ⟨D, hKc⟩ : ∃ D : va_G, ∀ (k : Nat) (q : vw_C), vwCl[k]? = some q → u_Kn s q.1 q.2.1 q.2.2 (D.1 k) (D.2 k) := by
    refine ⟨(fun k => match k with | 0 => cc0 | 1 => cc1 | 2 => cc2 | 3 => cc3 | 4 => cc4 | 5 => cc5 | 6 => cc6 | 7 => cc7 | _ => cc8, fun k => match k with | 0 => iS0 | 1 => iS1 | 2 => iS2 | 3 => iS3 | 4 => iS4 | 5 => iS5 | 6 => iS6 | 7 => iS7 | _ => iS8), ?_⟩
    intro k q hq
    match k, hq with
    | 0, hq => cases hq; exact hKn0
    | 1, hq => cases hq; exact hKn1
    | 2, hq => cases hq; exact hKn2
    | 3, hq => cases hq; exact hKn3
    | 4, hq => cases hq; exact hKn4
    | 5, hq => cases hq; exact hKn5
    | 6, hq => cases hq; exact hKn6
    | 7, hq => cases hq; exact hKn7
    | 8, hq => cases hq; exact hKn8
    | k + 9, hq => simp [vwCl] at hq
  have hS : va_S (fun q : Nat => s.heap.size ≤ q) s.heap s.heap [] := va_S.rf
  have hK : va_K D vwCl [] s := ⟨hKc, fun k q h => by simp at h⟩
  have hP : va_P D vwCl [] s.heap := fun k q h => by simp at h
  have hD : va_D (fun q : Nat => s.heap.size ≤ q) [] := ⟨fun i j p q h => by simp at h, fun k q h => by simp at h⟩
  generalize hAe : (fun q : Nat => s.heap.size ≤ q) = A at hG hD hS hA hbA
  have hl := lv_entry ([.ref b]) (n := 7) (Nat.le_of_ble_eq_true rfl)
  rw [lg_entry_eq]
  generalize (lg_sl ([.ref b]) ++ List.replicate (7 - (lg_sl ([.ref b])).length) Slot.unset).toArray = ls at hl ⊢
  have hl : lv_has ls 7 [(0, .ref b)] := hl
  refine va_new (ci := 7) (fs := [.null, .null, .null, .null, .null, .null]) (C := RX7) (T := TX7) (N := 6) hx hb ht inA_X7 tyX7 tyX7_ok hown (ht _ lc_L_8) (ht _ lt_BarcodeWand) (ht _ li_BarcodeWand) hK hP hD hS hA rfl (fun j hj => by rcases (show j = 0 ∨ j = 1 ∨ j = 2 ∨ j = 3 ∨ j = 4 ∨ j = 5 by omega) with rfl | rfl | rfl | rfl | rfl | rfl <;> rfl) (Nat.le_of_ble_eq_true rfl) (Nat.le_of_ble_eq_true rfl) dL_law_0 (fun q_1 H hP hD hS => ?_)
  have hP : va_P D vwCl [(q_1, .inr (7, [.null, .null, .null, .null, .null, .null]))] H := hP
  have hD : va_D A [(q_1, .inr (7, [.null, .null, .null, .null, .null, .null]))] := hD
  refine W.widen (k := 1) (n := 6) (Nat.le_of_ble_eq_true rfl) (Nat.le_of_ble_eq_true rfl) ?_
  refine lv_dup hx hb dL_law_3 rfl ?_
  have ct := k_cut_of (wc := [(q_1, .inr (7, [.null, .null, .null, .null, .null, .null]))]) (wr := []) (tc := []) hG hS hA hK hP hD [0] [] [] rfl rfl (by decide) (by decide) (by decide) rfl
  refine k_endv (As := [.ref q_1]) ct (k_runI (As := []) (rest := [.ref q_1]) S0 Li_L_73 ct (c_W_init l D q_1 H.size) hl.1 rfl (Nat.le_of_ble_eq_true rfl) rfl dL_law_4 ⟨⟨Nat.le_of_ble_eq_true rfl, Nat.le_of_ble_eq_true rfl⟩, Nat.le_of_ble_eq_true rfl, Nat.le_of_ble_eq_true rfl⟩) rfl rfl (fun _ u H locs hw_48 hP hD hK hS => ?_)
  obtain ⟨st_3, la_4, ld_5, ldA_6, lz_7, lzA_8, me_9, meA_10, li_11, ln_12, lnA_13, ll_14, llA_15, lc_16, lcA_17, hi_18, ri_19, zst_20, zla_21, zld_22, zldA_23, zlz_24, zlzA_25, zme_26, zmeA_27, zli_28, zln_29, zlnA_30, zll_31, zllA_32, zlc_33, zlcA_34, re_35, rd_36, rdA_37, rl_38, rlA_39, fo_40, foA_41, bu_42, buA_43, pa_44, rf_45, KS_46, K_47⟩ := u
  have hK : va_K D vwCl [(K_47, .int), (KS_46, .object "BarcodeWand$State")] s := hK
  have hP : va_P D vwCl [(q_1, .inr (7, [.ref st_3, .ref hi_18, .ref re_35, .ref fo_40, .ref bu_42, .ref pa_44])), (st_3, .inr (6, [.ref la_4, .ref me_9, .ref li_11, .int 4, .int 0, .int 0])), (la_4, .inr (2, [.ref ld_5, .ref lz_7])), (ld_5, .inr (4, [.ref ldA_6, .int 0])), (ldA_6, .inl (K_47, 9, .inl (fun _ => 0))), (lz_7, .inr (4, [.ref lzA_8, .int 0])), (lzA_8, .inl (K_47, 41, .inl (fun _ => 0))), (me_9, .inr (4, [.ref meA_10, .int 0])), (meA_10, .inl (K_47, 41, .inl (fun _ => 0))), (li_11, .inr (0, [.ref ln_12, .ref ll_14, .ref lc_16])), (ln_12, .inr (4, [.ref lnA_13, .int 0])), (lnA_13, .inl (K_47, 10, .inl (fun _ => 0))), (ll_14, .inr (4, [.ref llA_15, .int 0])), (llA_15, .inl (K_47, 10, .inl (fun _ => 0))), (lc_16, .inr (4, [.ref lcA_17, .int 0])), (lcA_17, .inl (K_47, 10, .inl (fun _ => 0))), (hi_18, .inr (5, [.ref ri_19, .int 0, .int 0])), (ri_19, .inl (KS_46, 6, .inr (.inr (.inr (.inr rf_45))))), (zst_20, .inr (6, [.ref zla_21, .ref zme_26, .ref zli_28, .int 4, .int 0, .int 0])), (zla_21, .inr (2, [.ref zld_22, .ref zlz_24])), (zld_22, .inr (4, [.ref zldA_23, .int 0])), (zldA_23, .inl (K_47, 9, .inl (fun _ => 0))), (zlz_24, .inr (4, [.ref zlzA_25, .int 0])), (zlzA_25, .inl (K_47, 41, .inl (fun _ => 0))), (zme_26, .inr (4, [.ref zmeA_27, .int 0])), (zmeA_27, .inl (K_47, 41, .inl (fun _ => 0))), (zli_28, .inr (0, [.ref zln_29, .ref zll_31, .ref zlc_33])), (zln_29, .inr (4, [.ref zlnA_30, .int 0])), (zlnA_30, .inl (K_47, 10, .inl (fun _ => 0))), (zll_31, .inr (4, [.ref zllA_32, .int 0])), (zllA_32, .inl (K_47, 10, .inl (fun _ => 0))), (zlc_33, .inr (4, [.ref zlcA_34, .int 0])), (zlcA_34, .inl (K_47, 10, .inl (fun _ => 0))), (re_35, .inr (3, [.ref rd_36, .int 0, .ref rl_38, .int 0, .int 0, .int 0, .int 0, .int 0])), (rd_36, .inr (4, [.ref rdA_37, .int 0])), (rdA_37, .inl (K_47, 9, .inl (fun _ => 0))), (rl_38, .inr (4, [.ref rlA_39, .int 0])), (rlA_39, .inl (K_47, 41, .inl (fun _ => 0))), (fo_40, .inr (4, [.ref foA_41, .int 0])), (foA_41, .inl (K_47, 41, .inl (fun _ => 0))), (bu_42, .inr (4, [.ref buA_43, .int 0])), (buA_43, .inl (K_47, 60, .inl (fun _ => 0))), (pa_44, .inr (1, [.int 0, .int 0, .int 0, .int 0, .int 0, .int 0]))] H := hP
  have hD : va_D A [(q_1, .inr (7, [.ref st_3, .ref hi_18, .ref re_35, .ref fo_40, .ref bu_42, .ref pa_44])), (st_3, .inr (6, [.ref la_4, .ref me_9, .ref li_11, .int 4, .int 0, .int 0])), (la_4, .inr (2, [.ref ld_5, .ref lz_7])), (ld_5, .inr (4, [.ref ldA_6, .int 0])), (ldA_6, .inl (K_47, 9, .inl (fun _ => 0))), (lz_7, .inr (4, [.ref lzA_8, .int 0])), (lzA_8, .inl (K_47, 41, .inl (fun _ => 0))), (me_9, .inr (4, [.ref meA_10, .int 0])), (meA_10, .inl (K_47, 41, .inl (fun _ => 0))), (li_11, .inr (0, [.ref ln_12, .ref ll_14, .ref lc_16])), (ln_12, .inr (4, [.ref lnA_13, .int 0])), (lnA_13, .inl (K_47, 10, .inl (fun _ => 0))), (ll_14, .inr (4, [.ref llA_15, .int 0])), (llA_15, .inl (K_47, 10, .inl (fun _ => 0))), (lc_16, .inr (4, [.ref lcA_17, .int 0])), (lcA_17, .inl (K_47, 10, .inl (fun _ => 0))), (hi_18, .inr (5, [.ref ri_19, .int 0, .int 0])), (ri_19, .inl (KS_46, 6, .inr (.inr (.inr (.inr rf_45))))), (zst_20, .inr (6, [.ref zla_21, .ref zme_26, .ref zli_28, .int 4, .int 0, .int 0])), (zla_21, .inr (2, [.ref zld_22, .ref zlz_24])), (zld_22, .inr (4, [.ref zldA_23, .int 0])), (zldA_23, .inl (K_47, 9, .inl (fun _ => 0))), (zlz_24, .inr (4, [.ref zlzA_25, .int 0])), (zlzA_25, .inl (K_47, 41, .inl (fun _ => 0))), (zme_26, .inr (4, [.ref zmeA_27, .int 0])), (zmeA_27, .inl (K_47, 41, .inl (fun _ => 0))), (zli_28, .inr (0, [.ref zln_29, .ref zll_31, .ref zlc_33])), (zln_29, .inr (4, [.ref zlnA_30, .int 0])), (zlnA_30, .inl (K_47, 10, .inl (fun _ => 0))), (zll_31, .inr (4, [.ref zllA_32, .int 0])), (zllA_32, .inl (K_47, 10, .inl (fun _ => 0))), (zlc_33, .inr (4, [.ref zlcA_34, .int 0])), (zlcA_34, .inl (K_47, 10, .inl (fun _ => 0))), (re_35, .inr (3, [.ref rd_36, .int 0, .ref rl_38, .int 0, .int 0, .int 0, .int 0, .int 0])), (rd_36, .inr (4, [.ref rdA_37, .int 0])), (rdA_37, .inl (K_47, 9, .inl (fun _ => 0))), (rl_38, .inr (4, [.ref rlA_39, .int 0])), (rlA_39, .inl (K_47, 41, .inl (fun _ => 0))), (fo_40, .inr (4, [.ref foA_41, .int 0])), (foA_41, .inl (K_47, 41, .inl (fun _ => 0))), (bu_42, .inr (4, [.ref buA_43, .int 0])), (buA_43, .inl (K_47, 60, .inl (fun _ => 0))), (pa_44, .inr (1, [.int 0, .int 0, .int 0, .int 0, .int 0, .int 0]))] := hD
  have hw_48 : rf_45 0 = some zst_20 := hw_48
  refine lv_astore_n (lv' := [(1, .ref q_1), (0, .ref b)]) hx hb dL_law_7 rfl hl (by decide) rfl (fun ls hl => ?_)
  refine va_new (ci := 8) (fs := [.null, .int 0, .null, .int 0, .int 0, .null, .int 0, .null, .int 0, .int 0, .int 0, .int 0]) (C := RX8) (T := TX8) (N := 12) hx hb ht inA_X8 tyX8 tyX8_ok hown (ht _ lc_L_74) (ht _ lt_BarcodeWandModel) (ht _ li_BarcodeWandModel) hK hP hD hS hA rfl (fun j hj => by rcases (show j = 0 ∨ j = 1 ∨ j = 2 ∨ j = 3 ∨ j = 4 ∨ j = 5 ∨ j = 6 ∨ j = 7 ∨ j = 8 ∨ j = 9 ∨ j = 10 ∨ j = 11 by omega) with rfl | rfl | rfl | rfl | rfl | rfl | rfl | rfl | rfl | rfl | rfl | rfl <;> rfl) (Nat.le_of_ble_eq_true rfl) (Nat.le_of_ble_eq_true rfl) dL_law_8 (fun q_49 H hP hD hS => ?_)
  have hP : va_P D vwCl [(q_1, .inr (7, [.ref st_3, .ref hi_18, .ref re_35, .ref fo_40, .ref bu_42, .ref pa_44])), (st_3, .inr (6, [.ref la_4, .ref me_9, .ref li_11, .int 4, .int 0, .int 0])), (la_4, .inr (2, [.ref ld_5, .ref lz_7])), (ld_5, .inr (4, [.ref ldA_6, .int 0])), (ldA_6, .inl (K_47, 9, .inl (fun _ => 0))), (lz_7, .inr (4, [.ref lzA_8, .int 0])), (lzA_8, .inl (K_47, 41, .inl (fun _ => 0))), (me_9, .inr (4, [.ref meA_10, .int 0])), (meA_10, .inl (K_47, 41, .inl (fun _ => 0))), (li_11, .inr (0, [.ref ln_12, .ref ll_14, .ref lc_16])), (ln_12, .inr (4, [.ref lnA_13, .int 0])), (lnA_13, .inl (K_47, 10, .inl (fun _ => 0))), (ll_14, .inr (4, [.ref llA_15, .int 0])), (llA_15, .inl (K_47, 10, .inl (fun _ => 0))), (lc_16, .inr (4, [.ref lcA_17, .int 0])), (lcA_17, .inl (K_47, 10, .inl (fun _ => 0))), (hi_18, .inr (5, [.ref ri_19, .int 0, .int 0])), (ri_19, .inl (KS_46, 6, .inr (.inr (.inr (.inr rf_45))))), (zst_20, .inr (6, [.ref zla_21, .ref zme_26, .ref zli_28, .int 4, .int 0, .int 0])), (zla_21, .inr (2, [.ref zld_22, .ref zlz_24])), (zld_22, .inr (4, [.ref zldA_23, .int 0])), (zldA_23, .inl (K_47, 9, .inl (fun _ => 0))), (zlz_24, .inr (4, [.ref zlzA_25, .int 0])), (zlzA_25, .inl (K_47, 41, .inl (fun _ => 0))), (zme_26, .inr (4, [.ref zmeA_27, .int 0])), (zmeA_27, .inl (K_47, 41, .inl (fun _ => 0))), (zli_28, .inr (0, [.ref zln_29, .ref zll_31, .ref zlc_33])), (zln_29, .inr (4, [.ref zlnA_30, .int 0])), (zlnA_30, .inl (K_47, 10, .inl (fun _ => 0))), (zll_31, .inr (4, [.ref zllA_32, .int 0])), (zllA_32, .inl (K_47, 10, .inl (fun _ => 0))), (zlc_33, .inr (4, [.ref zlcA_34, .int 0])), (zlcA_34, .inl (K_47, 10, .inl (fun _ => 0))), (re_35, .inr (3, [.ref rd_36, .int 0, .ref rl_38, .int 0, .int 0, .int 0, .int 0, .int 0])), (rd_36, .inr (4, [.ref rdA_37, .int 0])), (rdA_37, .inl (K_47, 9, .inl (fun _ => 0))), (rl_38, .inr (4, [.ref rlA_39, .int 0])), (rlA_39, .inl (K_47, 41, .inl (fun _ => 0))), (fo_40, .inr (4, [.ref foA_41, .int 0])), (foA_41, .inl (K_47, 41, .inl (fun _ => 0))), (bu_42, .inr (4, [.ref buA_43, .int 0])), (buA_43, .inl (K_47, 60, .inl (fun _ => 0))), (pa_44, .inr (1, [.int 0, .int 0, .int 0, .int 0, .int 0, .int 0])), (q_49, .inr (8, [.null, .int 0, .null, .int 0, .int 0, .null, .int 0, .null, .int 0, .int 0, .int 0, .int 0]))] H := hP
  have hD : va_D A [(q_1, .inr (7, [.ref st_3, .ref hi_18, .ref re_35, .ref fo_40, .ref bu_42, .ref pa_44])), (st_3, .inr (6, [.ref la_4, .ref me_9, .ref li_11, .int 4, .int 0, .int 0])), (la_4, .inr (2, [.ref ld_5, .ref lz_7])), (ld_5, .inr (4, [.ref ldA_6, .int 0])), (ldA_6, .inl (K_47, 9, .inl (fun _ => 0))), (lz_7, .inr (4, [.ref lzA_8, .int 0])), (lzA_8, .inl (K_47, 41, .inl (fun _ => 0))), (me_9, .inr (4, [.ref meA_10, .int 0])), (meA_10, .inl (K_47, 41, .inl (fun _ => 0))), (li_11, .inr (0, [.ref ln_12, .ref ll_14, .ref lc_16])), (ln_12, .inr (4, [.ref lnA_13, .int 0])), (lnA_13, .inl (K_47, 10, .inl (fun _ => 0))), (ll_14, .inr (4, [.ref llA_15, .int 0])), (llA_15, .inl (K_47, 10, .inl (fun _ => 0))), (lc_16, .inr (4, [.ref lcA_17, .int 0])), (lcA_17, .inl (K_47, 10, .inl (fun _ => 0))), (hi_18, .inr (5, [.ref ri_19, .int 0, .int 0])), (ri_19, .inl (KS_46, 6, .inr (.inr (.inr (.inr rf_45))))), (zst_20, .inr (6, [.ref zla_21, .ref zme_26, .ref zli_28, .int 4, .int 0, .int 0])), (zla_21, .inr (2, [.ref zld_22, .ref zlz_24])), (zld_22, .inr (4, [.ref zldA_23, .int 0])), (zldA_23, .inl (K_47, 9, .inl (fun _ => 0))), (zlz_24, .inr (4, [.ref zlzA_25, .int 0])), (zlzA_25, .inl (K_47, 41, .inl (fun _ => 0))), (zme_26, .inr (4, [.ref zmeA_27, .int 0])), (zmeA_27, .inl (K_47, 41, .inl (fun _ => 0))), (zli_28, .inr (0, [.ref zln_29, .ref zll_31, .ref zlc_33])), (zln_29, .inr (4, [.ref zlnA_30, .int 0])), (zlnA_30, .inl (K_47, 10, .inl (fun _ => 0))), (zll_31, .inr (4, [.ref zllA_32, .int 0])), (zllA_32, .inl (K_47, 10, .inl (fun _ => 0))), (zlc_33, .inr (4, [.ref zlcA_34, .int 0])), (zlcA_34, .inl (K_47, 10, .inl (fun _ => 0))), (re_35, .inr (3, [.ref rd_36, .int 0, .ref rl_38, .int 0, .int 0, .int 0, .int 0, .int 0])), (rd_36, .inr (4, [.ref rdA_37, .int 0])), (rdA_37, .inl (K_47, 9, .inl (fun _ => 0))), (rl_38, .inr (4, [.ref rlA_39, .int 0])), (rlA_39, .inl (K_47, 41, .inl (fun _ => 0))), (fo_40, .inr (4, [.ref foA_41, .int 0])), (foA_41, .inl (K_47, 41, .inl (fun _ => 0))), (bu_42, .inr (4, [.ref buA_43, .int 0])), (buA_43, .inl (K_47, 60, .inl (fun _ => 0))), (pa_44, .inr (1, [.int 0, .int 0, .int 0, .int 0, .int 0, .int 0])), (q_49, .inr (8, [.null, .int 0, .null, .int 0, .int 0, .null, .int 0, .null, .int 0, .int 0, .int 0, .int 0]))] := hD
  refine W.widen (k := 119) (n := 1208) (Nat.le_of_ble_eq_true rfl) (Nat.le_of_ble_eq_true rfl) ?_
  refine lv_dup hx hb dL_law_11 rfl ?_
  have ct := k_cut_of (wc := [(q_49, .inr (8, [.null, .int 0, .null, .int 0, .int 0, .null, .int 0, .null, .int 0, .int 0, .int 0, .int 0]))]) (wr := [(q_1, .inr (7, [.ref st_3, .ref hi_18, .ref re_35, .ref fo_40, .ref bu_42, .ref pa_44])), (st_3, .inr (6, [.ref la_4, .ref me_9, .ref li_11, .int 4, .int 0, .int 0])), (la_4, .inr (2, [.ref ld_5, .ref lz_7])), (ld_5, .inr (4, [.ref ldA_6, .int 0])), (ldA_6, .inl (K_47, 9, .inl (fun _ => 0))), (lz_7, .inr (4, [.ref lzA_8, .int 0])), (lzA_8, .inl (K_47, 41, .inl (fun _ => 0))), (me_9, .inr (4, [.ref meA_10, .int 0])), (meA_10, .inl (K_47, 41, .inl (fun _ => 0))), (li_11, .inr (0, [.ref ln_12, .ref ll_14, .ref lc_16])), (ln_12, .inr (4, [.ref lnA_13, .int 0])), (lnA_13, .inl (K_47, 10, .inl (fun _ => 0))), (ll_14, .inr (4, [.ref llA_15, .int 0])), (llA_15, .inl (K_47, 10, .inl (fun _ => 0))), (lc_16, .inr (4, [.ref lcA_17, .int 0])), (lcA_17, .inl (K_47, 10, .inl (fun _ => 0))), (hi_18, .inr (5, [.ref ri_19, .int 0, .int 0])), (ri_19, .inl (KS_46, 6, .inr (.inr (.inr (.inr rf_45))))), (zst_20, .inr (6, [.ref zla_21, .ref zme_26, .ref zli_28, .int 4, .int 0, .int 0])), (zla_21, .inr (2, [.ref zld_22, .ref zlz_24])), (zld_22, .inr (4, [.ref zldA_23, .int 0])), (zldA_23, .inl (K_47, 9, .inl (fun _ => 0))), (zlz_24, .inr (4, [.ref zlzA_25, .int 0])), (zlzA_25, .inl (K_47, 41, .inl (fun _ => 0))), (zme_26, .inr (4, [.ref zmeA_27, .int 0])), (zmeA_27, .inl (K_47, 41, .inl (fun _ => 0))), (zli_28, .inr (0, [.ref zln_29, .ref zll_31, .ref zlc_33])), (zln_29, .inr (4, [.ref zlnA_30, .int 0])), (zlnA_30, .inl (K_47, 10, .inl (fun _ => 0))), (zll_31, .inr (4, [.ref zllA_32, .int 0])), (zllA_32, .inl (K_47, 10, .inl (fun _ => 0))), (zlc_33, .inr (4, [.ref zlcA_34, .int 0])), (zlcA_34, .inl (K_47, 10, .inl (fun _ => 0))), (re_35, .inr (3, [.ref rd_36, .int 0, .ref rl_38, .int 0, .int 0, .int 0, .int 0, .int 0])), (rd_36, .inr (4, [.ref rdA_37, .int 0])), (rdA_37, .inl (K_47, 9, .inl (fun _ => 0))), (rl_38, .inr (4, [.ref rlA_39, .int 0])), (rlA_39, .inl (K_47, 41, .inl (fun _ => 0))), (fo_40, .inr (4, [.ref foA_41, .int 0])), (foA_41, .inl (K_47, 41, .inl (fun _ => 0))), (bu_42, .inr (4, [.ref buA_43, .int 0])), (buA_43, .inl (K_47, 60, .inl (fun _ => 0))), (pa_44, .inr (1, [.int 0, .int 0, .int 0, .int 0, .int 0, .int 0]))]) (tc := []) hG hS hA hK hP hD [43] [0, 1, 2, 3, 4, 5, 6, 7, 8, 9, 10, 11, 12, 13, 14, 15, 16, 17, 18, 19, 20, 21, 22, 23, 24, 25, 26, 27, 28, 29, 30, 31, 32, 33, 34, 35, 36, 37, 38, 39, 40, 41, 42] [] rfl rfl (by decide) (by decide) (by decide) rfl
  refine k_endv (As := [.ref q_49]) ct (k_runI (As := []) (rest := [.ref q_49]) S0 Li_L_76 ct (c_M_init l D q_49 H.size) hl.1 rfl (Nat.le_of_ble_eq_true rfl) rfl dL_law_12 ⟨⟨Nat.le_of_ble_eq_true rfl, Nat.le_of_ble_eq_true rfl⟩, Nat.le_of_ble_eq_true rfl, Nat.le_of_ble_eq_true rfl⟩) rfl rfl (fun _ u H locs hw_57 hP hD hK hS => ?_)
  obtain ⟨ms_51, mb_52, mlk_53, mfd_54, K_55, KC_56⟩ := u
  have hK : va_K D vwCl [(K_47, .int), (KS_46, .object "BarcodeWand$State"), (K_55, .int), (KC_56, .char)] s := hK
  have hP : va_P D vwCl [(q_1, .inr (7, [.ref st_3, .ref hi_18, .ref re_35, .ref fo_40, .ref bu_42, .ref pa_44])), (st_3, .inr (6, [.ref la_4, .ref me_9, .ref li_11, .int 4, .int 0, .int 0])), (la_4, .inr (2, [.ref ld_5, .ref lz_7])), (ld_5, .inr (4, [.ref ldA_6, .int 0])), (ldA_6, .inl (K_47, 9, .inl (fun _ => 0))), (lz_7, .inr (4, [.ref lzA_8, .int 0])), (lzA_8, .inl (K_47, 41, .inl (fun _ => 0))), (me_9, .inr (4, [.ref meA_10, .int 0])), (meA_10, .inl (K_47, 41, .inl (fun _ => 0))), (li_11, .inr (0, [.ref ln_12, .ref ll_14, .ref lc_16])), (ln_12, .inr (4, [.ref lnA_13, .int 0])), (lnA_13, .inl (K_47, 10, .inl (fun _ => 0))), (ll_14, .inr (4, [.ref llA_15, .int 0])), (llA_15, .inl (K_47, 10, .inl (fun _ => 0))), (lc_16, .inr (4, [.ref lcA_17, .int 0])), (lcA_17, .inl (K_47, 10, .inl (fun _ => 0))), (hi_18, .inr (5, [.ref ri_19, .int 0, .int 0])), (ri_19, .inl (KS_46, 6, .inr (.inr (.inr (.inr rf_45))))), (zst_20, .inr (6, [.ref zla_21, .ref zme_26, .ref zli_28, .int 4, .int 0, .int 0])), (zla_21, .inr (2, [.ref zld_22, .ref zlz_24])), (zld_22, .inr (4, [.ref zldA_23, .int 0])), (zldA_23, .inl (K_47, 9, .inl (fun _ => 0))), (zlz_24, .inr (4, [.ref zlzA_25, .int 0])), (zlzA_25, .inl (K_47, 41, .inl (fun _ => 0))), (zme_26, .inr (4, [.ref zmeA_27, .int 0])), (zmeA_27, .inl (K_47, 41, .inl (fun _ => 0))), (zli_28, .inr (0, [.ref zln_29, .ref zll_31, .ref zlc_33])), (zln_29, .inr (4, [.ref zlnA_30, .int 0])), (zlnA_30, .inl (K_47, 10, .inl (fun _ => 0))), (zll_31, .inr (4, [.ref zllA_32, .int 0])), (zllA_32, .inl (K_47, 10, .inl (fun _ => 0))), (zlc_33, .inr (4, [.ref zlcA_34, .int 0])), (zlcA_34, .inl (K_47, 10, .inl (fun _ => 0))), (re_35, .inr (3, [.ref rd_36, .int 0, .ref rl_38, .int 0, .int 0, .int 0, .int 0, .int 0])), (rd_36, .inr (4, [.ref rdA_37, .int 0])), (rdA_37, .inl (K_47, 9, .inl (fun _ => 0))), (rl_38, .inr (4, [.ref rlA_39, .int 0])), (rlA_39, .inl (K_47, 41, .inl (fun _ => 0))), (fo_40, .inr (4, [.ref foA_41, .int 0])), (foA_41, .inl (K_47, 41, .inl (fun _ => 0))), (bu_42, .inr (4, [.ref buA_43, .int 0])), (buA_43, .inl (K_47, 60, .inl (fun _ => 0))), (pa_44, .inr (1, [.int 0, .int 0, .int 0, .int 0, .int 0, .int 0])), (q_49, .inr (8, [.ref ms_51, .int 0, .ref mb_52, .int 0, .int 0, .ref mlk_53, .int 0, .ref mfd_54, .int 0, .int 0, .int 0, .int 0])), (ms_51, .inl (K_55, 889, .inl (upd (fun _ => 0) 93 4))), (mb_52, .inl (KC_56, 60, .inl (fun _ => 0))), (mlk_53, .inl (K_55, 41, .inl (fun _ => 0))), (mfd_54, .inl (K_55, 9, .inl (fun _ => 0)))] H := hP
  have hD : va_D A [(q_1, .inr (7, [.ref st_3, .ref hi_18, .ref re_35, .ref fo_40, .ref bu_42, .ref pa_44])), (st_3, .inr (6, [.ref la_4, .ref me_9, .ref li_11, .int 4, .int 0, .int 0])), (la_4, .inr (2, [.ref ld_5, .ref lz_7])), (ld_5, .inr (4, [.ref ldA_6, .int 0])), (ldA_6, .inl (K_47, 9, .inl (fun _ => 0))), (lz_7, .inr (4, [.ref lzA_8, .int 0])), (lzA_8, .inl (K_47, 41, .inl (fun _ => 0))), (me_9, .inr (4, [.ref meA_10, .int 0])), (meA_10, .inl (K_47, 41, .inl (fun _ => 0))), (li_11, .inr (0, [.ref ln_12, .ref ll_14, .ref lc_16])), (ln_12, .inr (4, [.ref lnA_13, .int 0])), (lnA_13, .inl (K_47, 10, .inl (fun _ => 0))), (ll_14, .inr (4, [.ref llA_15, .int 0])), (llA_15, .inl (K_47, 10, .inl (fun _ => 0))), (lc_16, .inr (4, [.ref lcA_17, .int 0])), (lcA_17, .inl (K_47, 10, .inl (fun _ => 0))), (hi_18, .inr (5, [.ref ri_19, .int 0, .int 0])), (ri_19, .inl (KS_46, 6, .inr (.inr (.inr (.inr rf_45))))), (zst_20, .inr (6, [.ref zla_21, .ref zme_26, .ref zli_28, .int 4, .int 0, .int 0])), (zla_21, .inr (2, [.ref zld_22, .ref zlz_24])), (zld_22, .inr (4, [.ref zldA_23, .int 0])), (zldA_23, .inl (K_47, 9, .inl (fun _ => 0))), (zlz_24, .inr (4, [.ref zlzA_25, .int 0])), (zlzA_25, .inl (K_47, 41, .inl (fun _ => 0))), (zme_26, .inr (4, [.ref zmeA_27, .int 0])), (zmeA_27, .inl (K_47, 41, .inl (fun _ => 0))), (zli_28, .inr (0, [.ref zln_29, .ref zll_31, .ref zlc_33])), (zln_29, .inr (4, [.ref zlnA_30, .int 0])), (zlnA_30, .inl (K_47, 10, .inl (fun _ => 0))), (zll_31, .inr (4, [.ref zllA_32, .int 0])), (zllA_32, .inl (K_47, 10, .inl (fun _ => 0))), (zlc_33, .inr (4, [.ref zlcA_34, .int 0])), (zlcA_34, .inl (K_47, 10, .inl (fun _ => 0))), (re_35, .inr (3, [.ref rd_36, .int 0, .ref rl_38, .int 0, .int 0, .int 0, .int 0, .int 0])), (rd_36, .inr (4, [.ref rdA_37, .int 0])), (rdA_37, .inl (K_47, 9, .inl (fun _ => 0))), (rl_38, .inr (4, [.ref rlA_39, .int 0])), (rlA_39, .inl (K_47, 41, .inl (fun _ => 0))), (fo_40, .inr (4, [.ref foA_41, .int 0])), (foA_41, .inl (K_47, 41, .inl (fun _ => 0))), (bu_42, .inr (4, [.ref buA_43, .int 0])), (buA_43, .inl (K_47, 60, .inl (fun _ => 0))), (pa_44, .inr (1, [.int 0, .int 0, .int 0, .int 0, .int 0, .int 0])), (q_49, .inr (8, [.ref ms_51, .int 0, .ref mb_52, .int 0, .int 0, .ref mlk_53, .int 0, .ref mfd_54, .int 0, .int 0, .int 0, .int 0])), (ms_51, .inl (K_55, 889, .inl (upd (fun _ => 0) 93 4))), (mb_52, .inl (KC_56, 60, .inl (fun _ => 0))), (mlk_53, .inl (K_55, 41, .inl (fun _ => 0))), (mfd_54, .inl (K_55, 9, .inl (fun _ => 0)))] := hD
  obtain rfl : K_47 = K_55 := k_one hK (i := 0) (j := 2) rfl rfl
  have hK : va_K D vwCl [(K_47, .int), (KS_46, .object "BarcodeWand$State"), (KC_56, .char)] s := hK.sub [0, 1, 3] rfl
  refine lv_astore_n (lv' := [(2, .ref q_49), (1, .ref q_1), (0, .ref b)]) hx hb dL_law_15 rfl hl (by decide) rfl (fun ls hl => ?_)
  refine lv_iconst (v := 1) hx hb dL_law_16 (by decide) ?_
  refine va_newa (atype := .long) (ty := .long) hx hb (ht _ la_long) rfl hK hP hD hS hA (N' := 1) (a0 := (1, .inr (.inl (fun _ => 0)))) (fun cA => rfl) (by decide) (by decide) (Nat.le_of_ble_eq_true rfl) (Nat.le_of_ble_eq_true rfl) (Nat.le_of_ble_eq_true rfl) dL_law_17 (fun q_58 K_59 H hK hP hD hS => ?_)
  have hK : va_K D vwCl [(K_47, .int), (KS_46, .object "BarcodeWand$State"), (KC_56, .char), (K_59, .long)] s := hK
  have hP : va_P D vwCl [(q_1, .inr (7, [.ref st_3, .ref hi_18, .ref re_35, .ref fo_40, .ref bu_42, .ref pa_44])), (st_3, .inr (6, [.ref la_4, .ref me_9, .ref li_11, .int 4, .int 0, .int 0])), (la_4, .inr (2, [.ref ld_5, .ref lz_7])), (ld_5, .inr (4, [.ref ldA_6, .int 0])), (ldA_6, .inl (K_47, 9, .inl (fun _ => 0))), (lz_7, .inr (4, [.ref lzA_8, .int 0])), (lzA_8, .inl (K_47, 41, .inl (fun _ => 0))), (me_9, .inr (4, [.ref meA_10, .int 0])), (meA_10, .inl (K_47, 41, .inl (fun _ => 0))), (li_11, .inr (0, [.ref ln_12, .ref ll_14, .ref lc_16])), (ln_12, .inr (4, [.ref lnA_13, .int 0])), (lnA_13, .inl (K_47, 10, .inl (fun _ => 0))), (ll_14, .inr (4, [.ref llA_15, .int 0])), (llA_15, .inl (K_47, 10, .inl (fun _ => 0))), (lc_16, .inr (4, [.ref lcA_17, .int 0])), (lcA_17, .inl (K_47, 10, .inl (fun _ => 0))), (hi_18, .inr (5, [.ref ri_19, .int 0, .int 0])), (ri_19, .inl (KS_46, 6, .inr (.inr (.inr (.inr rf_45))))), (zst_20, .inr (6, [.ref zla_21, .ref zme_26, .ref zli_28, .int 4, .int 0, .int 0])), (zla_21, .inr (2, [.ref zld_22, .ref zlz_24])), (zld_22, .inr (4, [.ref zldA_23, .int 0])), (zldA_23, .inl (K_47, 9, .inl (fun _ => 0))), (zlz_24, .inr (4, [.ref zlzA_25, .int 0])), (zlzA_25, .inl (K_47, 41, .inl (fun _ => 0))), (zme_26, .inr (4, [.ref zmeA_27, .int 0])), (zmeA_27, .inl (K_47, 41, .inl (fun _ => 0))), (zli_28, .inr (0, [.ref zln_29, .ref zll_31, .ref zlc_33])), (zln_29, .inr (4, [.ref zlnA_30, .int 0])), (zlnA_30, .inl (K_47, 10, .inl (fun _ => 0))), (zll_31, .inr (4, [.ref zllA_32, .int 0])), (zllA_32, .inl (K_47, 10, .inl (fun _ => 0))), (zlc_33, .inr (4, [.ref zlcA_34, .int 0])), (zlcA_34, .inl (K_47, 10, .inl (fun _ => 0))), (re_35, .inr (3, [.ref rd_36, .int 0, .ref rl_38, .int 0, .int 0, .int 0, .int 0, .int 0])), (rd_36, .inr (4, [.ref rdA_37, .int 0])), (rdA_37, .inl (K_47, 9, .inl (fun _ => 0))), (rl_38, .inr (4, [.ref rlA_39, .int 0])), (rlA_39, .inl (K_47, 41, .inl (fun _ => 0))), (fo_40, .inr (4, [.ref foA_41, .int 0])), (foA_41, .inl (K_47, 41, .inl (fun _ => 0))), (bu_42, .inr (4, [.ref buA_43, .int 0])), (buA_43, .inl (K_47, 60, .inl (fun _ => 0))), (pa_44, .inr (1, [.int 0, .int 0, .int 0, .int 0, .int 0, .int 0])), (q_49, .inr (8, [.ref ms_51, .int 0, .ref mb_52, .int 0, .int 0, .ref mlk_53, .int 0, .ref mfd_54, .int 0, .int 0, .int 0, .int 0])), (ms_51, .inl (K_47, 889, .inl (upd (fun _ => 0) 93 4))), (mb_52, .inl (KC_56, 60, .inl (fun _ => 0))), (mlk_53, .inl (K_47, 41, .inl (fun _ => 0))), (mfd_54, .inl (K_47, 9, .inl (fun _ => 0))), (q_58, .inl (K_59, 1, .inr (.inl (fun _ => 0))))] H := hP
  have hD : va_D A [(q_1, .inr (7, [.ref st_3, .ref hi_18, .ref re_35, .ref fo_40, .ref bu_42, .ref pa_44])), (st_3, .inr (6, [.ref la_4, .ref me_9, .ref li_11, .int 4, .int 0, .int 0])), (la_4, .inr (2, [.ref ld_5, .ref lz_7])), (ld_5, .inr (4, [.ref ldA_6, .int 0])), (ldA_6, .inl (K_47, 9, .inl (fun _ => 0))), (lz_7, .inr (4, [.ref lzA_8, .int 0])), (lzA_8, .inl (K_47, 41, .inl (fun _ => 0))), (me_9, .inr (4, [.ref meA_10, .int 0])), (meA_10, .inl (K_47, 41, .inl (fun _ => 0))), (li_11, .inr (0, [.ref ln_12, .ref ll_14, .ref lc_16])), (ln_12, .inr (4, [.ref lnA_13, .int 0])), (lnA_13, .inl (K_47, 10, .inl (fun _ => 0))), (ll_14, .inr (4, [.ref llA_15, .int 0])), (llA_15, .inl (K_47, 10, .inl (fun _ => 0))), (lc_16, .inr (4, [.ref lcA_17, .int 0])), (lcA_17, .inl (K_47, 10, .inl (fun _ => 0))), (hi_18, .inr (5, [.ref ri_19, .int 0, .int 0])), (ri_19, .inl (KS_46, 6, .inr (.inr (.inr (.inr rf_45))))), (zst_20, .inr (6, [.ref zla_21, .ref zme_26, .ref zli_28, .int 4, .int 0, .int 0])), (zla_21, .inr (2, [.ref zld_22, .ref zlz_24])), (zld_22, .inr (4, [.ref zldA_23, .int 0])), (zldA_23, .inl (K_47, 9, .inl (fun _ => 0))), (zlz_24, .inr (4, [.ref zlzA_25, .int 0])), (zlzA_25, .inl (K_47, 41, .inl (fun _ => 0))), (zme_26, .inr (4, [.ref zmeA_27, .int 0])), (zmeA_27, .inl (K_47, 41, .inl (fun _ => 0))), (zli_28, .inr (0, [.ref zln_29, .ref zll_31, .ref zlc_33])), (zln_29, .inr (4, [.ref zlnA_30, .int 0])), (zlnA_30, .inl (K_47, 10, .inl (fun _ => 0))), (zll_31, .inr (4, [.ref zllA_32, .int 0])), (zllA_32, .inl (K_47, 10, .inl (fun _ => 0))), (zlc_33, .inr (4, [.ref zlcA_34, .int 0])), (zlcA_34, .inl (K_47, 10, .inl (fun _ => 0))), (re_35, .inr (3, [.ref rd_36, .int 0, .ref rl_38, .int 0, .int 0, .int 0, .int 0, .int 0])), (rd_36, .inr (4, [.ref rdA_37, .int 0])), (rdA_37, .inl (K_47, 9, .inl (fun _ => 0))), (rl_38, .inr (4, [.ref rlA_39, .int 0])), (rlA_39, .inl (K_47, 41, .inl (fun _ => 0))), (fo_40, .inr (4, [.ref foA_41, .int 0])), (foA_41, .inl (K_47, 41, .inl (fun _ => 0))), (bu_42, .inr (4, [.ref buA_43, .int 0])), (buA_43, .inl (K_47, 60, .inl (fun _ => 0))), (pa_44, .inr (1, [.int 0, .int 0, .int 0, .int 0, .int 0, .int 0])), (q_49, .inr (8, [.ref ms_51, .int 0, .ref mb_52, .int 0, .int 0, .ref mlk_53, .int 0, .ref mfd_54, .int 0, .int 0, .int 0, .int 0])), (ms_51, .inl (K_47, 889, .inl (upd (fun _ => 0) 93 4))), (mb_52, .inl (KC_56, 60, .inl (fun _ => 0))), (mlk_53, .inl (K_47, 41, .inl (fun _ => 0))), (mfd_54, .inl (K_47, 9, .inl (fun _ => 0))), (q_58, .inl (K_59, 1, .inr (.inl (fun _ => 0))))] := hD
  refine W.widen (k := 124) (n := 2208) (Nat.le_of_ble_eq_true rfl) (Nat.le_of_ble_eq_true rfl) ?_
  refine lv_astore_n (lv' := [(3, .ref q_58), (2, .ref q_49), (1, .ref q_1), (0, .ref b)]) hx hb dL_law_19 rfl hl (by decide) rfl (fun ls hl => ?_)
  refine lv_iconst (v := 0) hx hb dL_law_20 (by decide) ?_
  refine lv_istore (lv' := [(4, .int 0), (3, .ref q_58), (2, .ref q_49), (1, .ref q_1), (0, .ref b)]) hx hb dL_law_21 hl (by decide) rfl (fun ls hl => ?_)
  rcases Nat.lt_or_ge L 4 with hL4 | hL4
  · skip
    refine lv_iload hx hb dL_law_23 (lv_at hl 0 rfl) ?_
    refine lv_aload_n hx hb dL_law_25 rfl (lv_at hl 4 rfl) ?_
    refine va_slen hx hb hX hbl hbA hS dL_law_26 ?_
    refine lv_iconst (v := 4) hx hb dL_law_27 (by decide) ?_
    refine lv_isub hx hb dL_law_28 ?_
    refine lv_icmp_gt (tgt := 1485) hx hb dL_law_29 (by decide) (fun _ => ?_) (fun c9 => absurd (show Int32.ofNat L - 4 < 0 from pk_sneg (a := L) (b := 4) (by omega) hL4) c9)
    refine lv_iconst (v := 1) hx hb dL_law_1485 (by decide) ?_
    refine va_forget (fun q hq => by have h9 := hS.2.2 q hq; rw [← hAe] at h9; exact h9) ?_
    refine W.widen (k := 600002) (n := 7302232) (Nat.le_of_ble_eq_true rfl) (Nat.le_of_ble_eq_true rfl) ?_
    exact lw_ret hx hb hr hlocks dL_law_1486
  obtain rfl : L = 4 := by omega
  obtain ⟨y0, hy0⟩ : ∃ z9 : Int32, z9 = xs 0 := ⟨_, rfl⟩
  refine lv_iload hx hb dL_law_23 (lv_at hl 0 rfl) ?_
  refine lv_aload_n hx hb dL_law_25 rfl (lv_at hl 4 rfl) ?_
  refine va_slen hx hb hX hbl hbA hS dL_law_26 ?_
  refine k_nrm (y := 4) (by decide) ?_
  refine lv_iconst (v := 4) hx hb dL_law_27 (by decide) ?_
  refine lv_isub hx hb dL_law_28 ?_
  refine k_nrm (y := 0) (by decide) ?_
  refine lv_icmp_gt (tgt := 1485) hx hb dL_law_29 (by decide) (fun c9 => absurd c9 (by decide)) (fun _ => ?_)
  refine lv_aload_n hx hb dL_law_32 rfl (lv_at hl 4 rfl) ?_
  refine lv_iload hx hb dL_law_33 (lv_at hl 0 rfl) ?_
  refine va_sld hx hb hX hbl hbA hS (by unfold vp_in; decide) dL_law_35 ?_
  refine k_nrm (y := y0) (by rw [hy0]; rfl) ?_
  refine lv_bipush (v := 31) hx hb dL_law_36 (by decide) ?_
  refine lv_iand hx hb dL_law_38 ?_
  refine lv_topi (fun x_60 ex_60 => ?_)
  obtain ⟨j, hj, hxj⟩ := pk_andE y0 (m := 31) 5 (by decide)
  have hxk : x_60 = nI j := ex_60.trans hxj
  have hc9 : j = 0 ∨ j = 1 ∨ j = 2 ∨ j = 3 ∨ j = 4 ∨ j = 5 ∨ j = 6 ∨ j = 7 ∨ j = 8 ∨ j = 9 ∨ j = 10 ∨ j = 11 ∨ j = 12 ∨ j = 13 ∨ j = 14 ∨ j = 15 ∨ j = 16 ∨ j = 17 ∨ j = 18 ∨ j = 19 ∨ j = 20 ∨ j = 21 ∨ j = 22 ∨ j = 23 ∨ j = 24 ∨ j = 25 ∨ j = 26 ∨ j = 27 ∨ j = 28 ∨ j = 29 ∨ j = 30 ∨ j = 31 := by omega
  have hI : law_I D s b H locs ls := ⟨q_1, st_3, la_4, ld_5, ldA_6, lz_7, lzA_8, me_9, meA_10, li_11, ln_12, lnA_13, ll_14, llA_15, lc_16, lcA_17, hi_18, ri_19, zst_20, zla_21, zld_22, zldA_23, zlz_24, zlzA_25, zme_26, zmeA_27, zli_28, zln_29, zlnA_30, zll_31, zllA_32, zlc_33, zlcA_34, re_35, rd_36, rdA_37, rl_38, rlA_39, fo_40, foA_41, bu_42, buA_43, pa_44, q_49, ms_51, mb_52, mlk_53, mfd_54, q_58, rf_45, K_47, KS_46, KC_56, K_59, hw_48, hK.sub [0, 1, 2, 3] rfl, hP, (by rw [hAe]; exact hD), (by rw [hAe]; exact hS), lv_sub hl [0, 1, 2, 3, 4] rfl⟩
  rcases hc9 with rfl | rfl | rfl | rfl | rfl | rfl | rfl | rfl | rfl | rfl | rfl | rfl | rfl | rfl | rfl | rfl | rfl | rfl | rfl | rfl | rfl | rfl | rfl | rfl | rfl | rfl | rfl | rfl | rfl | rfl | rfl | rfl
  · refine k_nrm (y := 0) hxk ?_
    refine lv_tableIn (x := 0) (off := 141) (tgt := 180) hx hb dL_law_39 (by decide) (by decide) (by decide) (by decide) ?_
    exact law_c0 hst D C0 hG0 hI
  · refine k_nrm (y := 1) hxk ?_
    refine lv_tableIn (x := 1) (off := 209) (tgt := 248) hx hb dL_law_39 (by decide) (by decide) (by decide) (by decide) ?_
    exact law_c1 hst D C0 hG0 hI
  · refine k_nrm (y := 2) hxk ?_
    refine lv_tableIn (x := 2) (off := 277) (tgt := 316) hx hb dL_law_39 (by decide) (by decide) (by decide) (by decide) ?_
    exact law_c2 hst D C0 hG0 hI
  · refine k_nrm (y := 3) hxk ?_
    refine lv_tableIn (x := 3) (off := 290) (tgt := 329) hx hb dL_law_39 (by decide) (by decide) (by decide) (by decide) ?_
    exact law_c3 hst D C0 hG0 hI
  · refine k_nrm (y := 4) hxk ?_
    refine lv_tableIn (x := 4) (off := 346) (tgt := 385) hx hb dL_law_39 (by decide) (by decide) (by decide) (by decide) ?_
    exact law_c4 hst D C0 hG0 hI
  · refine k_nrm (y := 5) hxk ?_
    refine lv_tableIn (x := 5) (off := 402) (tgt := 441) hx hb dL_law_39 (by decide) (by decide) (by decide) (by decide) ?_
    exact law_c5 hst D C0 hG0 hI
  · refine k_nrm (y := 6) hxk ?_
    refine lv_tableIn (x := 6) (off := 498) (tgt := 537) hx hb dL_law_39 (by decide) (by decide) (by decide) (by decide) ?_
    exact law_c6 hst D C0 hG0 hI
  · refine k_nrm (y := 7) hxk ?_
    refine lv_tableIn (x := 7) (off := 554) (tgt := 593) hx hb dL_law_39 (by decide) (by decide) (by decide) (by decide) ?_
    exact law_c7 hst D C0 hG0 hI
  · refine k_nrm (y := 8) hxk ?_
    refine lv_tableIn (x := 8) (off := 567) (tgt := 606) hx hb dL_law_39 (by decide) (by decide) (by decide) (by decide) ?_
    exact law_c8 hst D C0 hG0 hI
  · refine k_nrm (y := 9) hxk ?_
    refine lv_tableIn (x := 9) (off := 580) (tgt := 619) hx hb dL_law_39 (by decide) (by decide) (by decide) (by decide) ?_
    exact law_c9 hst D C0 hG0 hI
  · refine k_nrm (y := 10) hxk ?_
    refine lv_tableIn (x := 10) (off := 593) (tgt := 632) hx hb dL_law_39 (by decide) (by decide) (by decide) (by decide) ?_
    exact law_c10 hst D C0 hG0 hI
  · refine k_nrm (y := 11) hxk ?_
    refine lv_tableIn (x := 11) (off := 649) (tgt := 688) hx hb dL_law_39 (by decide) (by decide) (by decide) (by decide) ?_
    exact law_c11 hst D C0 hG0 hI
  · refine k_nrm (y := 12) hxk ?_
    refine lv_tableIn (x := 12) (off := 705) (tgt := 744) hx hb dL_law_39 (by decide) (by decide) (by decide) (by decide) ?_
    exact law_c12 hst D C0 hG0 hI
  · refine k_nrm (y := 13) hxk ?_
    refine lv_tableIn (x := 13) (off := 718) (tgt := 757) hx hb dL_law_39 (by decide) (by decide) (by decide) (by decide) ?_
    exact law_c13 hst D C0 hG0 hI
  · refine k_nrm (y := 14) hxk ?_
    refine lv_tableIn (x := 14) (off := 759) (tgt := 798) hx hb dL_law_39 (by decide) (by decide) (by decide) (by decide) ?_
    exact law_c14 hst D C0 hG0 hI
  · refine k_nrm (y := 15) hxk ?_
    refine lv_tableIn (x := 15) (off := 815) (tgt := 854) hx hb dL_law_39 (by decide) (by decide) (by decide) (by decide) ?_
    exact law_c15 hst D C0 hG0 hI
  · refine k_nrm (y := 16) hxk ?_
    refine lv_tableIn (x := 16) (off := 871) (tgt := 910) hx hb dL_law_39 (by decide) (by decide) (by decide) (by decide) ?_
    exact law_c16 hst D C0 hG0 hI
  · refine k_nrm (y := 17) hxk ?_
    refine lv_tableIn (x := 17) (off := 884) (tgt := 923) hx hb dL_law_39 (by decide) (by decide) (by decide) (by decide) ?_
    exact law_c17 hst D C0 hG0 hI
  · refine k_nrm (y := 18) hxk ?_
    refine lv_tableIn (x := 18) (off := 940) (tgt := 979) hx hb dL_law_39 (by decide) (by decide) (by decide) (by decide) ?_
    exact law_c18 hst D C0 hG0 hI
  · refine k_nrm (y := 19) hxk ?_
    refine lv_tableIn (x := 19) (off := 996) (tgt := 1035) hx hb dL_law_39 (by decide) (by decide) (by decide) (by decide) ?_
    exact law_c19 hst D C0 hG0 hI
  · refine k_nrm (y := 20) hxk ?_
    refine lv_tableIn (x := 20) (off := 1052) (tgt := 1091) hx hb dL_law_39 (by decide) (by decide) (by decide) (by decide) ?_
    exact law_c20 hst D C0 hG0 hI
  · refine k_nrm (y := 21) hxk ?_
    refine lv_tableIn (x := 21) (off := 1065) (tgt := 1104) hx hb dL_law_39 (by decide) (by decide) (by decide) (by decide) ?_
    exact law_c21 hst D C0 hG0 hI
  · refine k_nrm (y := 22) hxk ?_
    refine lv_tableIn (x := 22) (off := 1078) (tgt := 1117) hx hb dL_law_39 (by decide) (by decide) (by decide) (by decide) ?_
    exact law_c22 hst D C0 hG0 hI
  · refine k_nrm (y := 23) hxk ?_
    refine lv_tableIn (x := 23) (off := 1174) (tgt := 1213) hx hb dL_law_39 (by decide) (by decide) (by decide) (by decide) ?_
    exact law_c23 hst D C0 hG0 hI
  · refine k_nrm (y := 24) hxk ?_
    refine lv_tableIn (x := 24) (off := 1230) (tgt := 1269) hx hb dL_law_39 (by decide) (by decide) (by decide) (by decide) ?_
    exact law_c24 hst D C0 hG0 hI
  · refine k_nrm (y := 25) hxk ?_
    refine lv_tableIn (x := 25) (off := 1243) (tgt := 1282) hx hb dL_law_39 (by decide) (by decide) (by decide) (by decide) ?_
    exact law_c25 hst D C0 hG0 hI
  · refine k_nrm (y := 26) hxk ?_
    refine lv_tableIn (x := 26) (off := 1299) (tgt := 1338) hx hb dL_law_39 (by decide) (by decide) (by decide) (by decide) ?_
    exact law_c26 hst D C0 hG0 hI
  · refine k_nrm (y := 27) hxk ?_
    refine lv_tableIn (x := 27) (off := 1312) (tgt := 1351) hx hb dL_law_39 (by decide) (by decide) (by decide) (by decide) ?_
    exact law_c27 hst D C0 hG0 hI
  · refine k_nrm (y := 28) hxk ?_
    refine lv_tableIn (x := 28) (off := 1325) (tgt := 1364) hx hb dL_law_39 (by decide) (by decide) (by decide) (by decide) ?_
    exact law_c28 hst D C0 hG0 hI
  · refine k_nrm (y := 29) hxk ?_
    refine lv_tableIn (x := 29) (off := 1369) (tgt := 1408) hx hb dL_law_39 (by decide) (by decide) (by decide) (by decide) ?_
    exact law_c29 hst D C0 hG0 hI
  · refine k_nrm (y := 30) hxk ?_
    refine lv_tableIn (x := 30) (off := 1413) (tgt := 1452) hx hb dL_law_39 (by decide) (by decide) (by decide) (by decide) ?_
    exact law_c30 hst D C0 hG0 hI
  · refine k_nrm (y := 31) hxk ?_
    refine lv_tableIn (x := 31) (off := 1426) (tgt := 1465) hx hb dL_law_39 (by decide) (by decide) (by decide) (by decide) ?_
    exact law_c31 hst D C0 hG0 hI
