theorem lc_L_11 : Cond.classLink RL 11 "BarcodeWand" ∈ wsA := mA 16 rfl rfl
theorem lt_BarcodeWand : Cond.instantiable "BarcodeWand" 6 ∈ wsA := mA 17 rfl rfl
theorem lk_X7_init : Cond.code yX7_init cX7_init 1 none ∈ wsA := mA 20 rfl rfl
theorem ly_X7_init : k_y yX7_init 0 := ⟨by decide +kernel, by decide +kernel, by decide +kernel⟩
theorem lm_X7_init : Cond.instanceMethod yX7_init ∈ wsA := mA 19 rfl rfl
theorem Li_L_165 : k_LI RL 165 yX7_init cX7_init 1 0 := ⟨mA 18 rfl rfl, lm_X7_init, li_BarcodeWand, lk_X7_init, rfl, ly_X7_init⟩
set_option maxHeartbeats 8000000 in
set_option maxRecDepth 100000 in
theorem whole_start {p : Program} {e : Env} {s : State} {m : MethodId} {below : List Frame} {meth : Method} {c : Code} (l : Launch) (hflags : l.flags = flags0) {b L : Nat} {xs : Nat → Int32} (hL : L ≤ 260) (C0 : lw_At p s m meth c b L xs) : W p l e room_1 s m #[Value.ref b] below meth c s.heap [] 0 0 (lw_Z below #[Value.ref b] s) (entryFrame m ([Value.ref b] : List Value).toArray 10) := by
  have C1 := C0
  obtain ⟨hx, hb, hr, hml, hown, hts, hX, hbl, hlocks, hgv⟩ := C1
  have hown : s.vm.findClass RL = some m.cls := hown
  have ht : ∀ v9 ∈ wsA, v9.before #[Value.ref b] s = true := fun v9 h9 => hts v9 (wsA_tbl h9)
  have S0 : k_C p s m #[Value.ref b] c cL_law 10 RL := ⟨hx, hb, hml, hown, ht⟩
  have hbA : ¬ (fun q : Nat => s.heap.size ≤ q) b := Nat.not_le.mpr hbl
  have hA : ∀ q : Nat, s.heap.size ≤ q → (fun q : Nat => s.heap.size ≤ q) q := fun _ h9 => h9
  have hst : l.stackTraces = false := by unfold Launch.stackTraces; rw [hflags]; decide +kernel
  have hG := law_G C0
  obtain ⟨cc0, iS0, hKn0⟩ := u_known (C := RX0) (T := TX0) (N := 3) (n := 3) ht inA_X0 (ht _ lt_BarcodeWand_CodeList)
  obtain ⟨cc1, iS1, hKn1⟩ := u_known (C := RX1) (T := TX1) (N := 6) (n := 6) ht inA_X1 (ht _ lt_BarcodeWand_CommandParser)
  obtain ⟨cc2, iS2, hKn2⟩ := u_known (C := RX2) (T := TX2) (N := 2) (n := 2) ht inA_X2 (ht _ lt_BarcodeWand_Label)
  obtain ⟨cc3, iS3, hKn3⟩ := u_known (C := RX3) (T := TX3) (N := 8) (n := 8) ht inA_X3 (ht _ lt_BarcodeWand_Reader)
  obtain ⟨cc4, iS4, hKn4⟩ := u_known (C := RX4) (T := TX4) (N := 2) (n := 2) ht inA_X4 (ht _ lt_BarcodeWand_Row)
  obtain ⟨cc5, iS5, hKn5⟩ := u_known (C := RX5) (T := TX5) (N := 3) (n := 3) ht inA_X5 (ht _ lt_BarcodeWand_SavedStates)
  obtain ⟨cc6, iS6, hKn6⟩ := u_known (C := RX6) (T := TX6) (N := 6) (n := 6) ht inA_X6 (ht _ lt_BarcodeWand_State)
  obtain ⟨cc7, iS7, hKn7⟩ := u_known (C := RX7) (T := TX7) (N := 6) (n := 6) ht inA_X7 (ht _ lt_BarcodeWand)
  obtain ⟨D, hKc⟩ : ∃ D : va_G, ∀ (k : Nat) (q : vw_C), vwCl[k]? = some q → u_Kn s q.1 q.2.1 q.2.2 (D.1 k) (D.2 k) := by
    refine ⟨(fun k => match k with | 0 => cc0 | 1 => cc1 | 2 => cc2 | 3 => cc3 | 4 => cc4 | 5 => cc5 | 6 => cc6 | _ => cc7, fun k => match k with | 0 => iS0 | 1 => iS1 | 2 => iS2 | 3 => iS3 | 4 => iS4 | 5 => iS5 | 6 => iS6 | _ => iS7), ?_⟩
    intro k q hq
    match k, hq with
    | 0, hq => cases hq; exact hKn0
    | 1, hq => cases hq; exact hKn1
    | 2, hq => cases hq; exact hKn2
    | 3, hq => cases hq; exact hKn3
    | 4, hq => cases hq; exact hKn4
    | 5, hq => cases hq; exact hKn5
    | 6, hq => cases hq; exact hKn6
    | 7, hq => cases hq; exact hKn7
    | k + 8, hq => simp [vwCl] at hq
  have hS : va_S (fun q : Nat => s.heap.size ≤ q) s.heap s.heap [] := va_S.rf
  have hK : va_K D vwCl [] s := ⟨hKc, fun k q h => by simp at h⟩
  have hP : va_P D vwCl [] s.heap := fun k q h => by simp at h
  have hD : va_D (fun q : Nat => s.heap.size ≤ q) [] := ⟨fun i j p q h => by simp at h, fun k q h => by simp at h⟩
  generalize hAe : (fun q : Nat => s.heap.size ≤ q) = A at hG hD hS hA hbA
  have hl := lv_entry ([.ref b]) (n := 10) (Nat.le_of_ble_eq_true rfl)
  rw [lg_entry_eq]
  generalize (lg_sl ([.ref b]) ++ List.replicate (10 - (lg_sl ([.ref b])).length) Slot.unset).toArray = ls at hl ⊢
  have hl : lv_has ls 10 [(0, .ref b)] := hl
  refine va_new (ci := 7) (fs := [.null, .null, .null, .null, .null, .null]) (C := RX7) (T := TX7) (N := 6) hx hb ht inA_X7 tyX7 tyX7_ok hown (ht _ lc_L_11) (ht _ lt_BarcodeWand) (ht _ li_BarcodeWand) hK hP hD hS hA rfl (fun j hj => by rcases (show j = 0 ∨ j = 1 ∨ j = 2 ∨ j = 3 ∨ j = 4 ∨ j = 5 by omega) with rfl | rfl | rfl | rfl | rfl | rfl <;> rfl) (Nat.le_of_ble_eq_true rfl) (Nat.le_of_ble_eq_true rfl) dL_law_0 (fun q9o H hP hD hS => ?_)
  have hP : va_P D vwCl [(q9o, .inr (7, [.null, .null, .null, .null, .null, .null]))] H := hP
  have hD : va_D A [(q9o, .inr (7, [.null, .null, .null, .null, .null, .null]))] := hD
  refine W.widen (k := 1) (n := 6) (Nat.le_of_ble_eq_true rfl) (Nat.le_of_ble_eq_true rfl) ?_
  refine lv_dup hx hb dL_law_3 rfl ?_
  have ct := k_cut_of (wc := [(q9o, .inr (7, [.null, .null, .null, .null, .null, .null]))]) (wr := []) (tc := []) hG hS hA hK hP hD [0] [] [] rfl rfl (by decide) (by decide) (by decide) rfl
  refine k_endv (As := [.ref q9o]) ct (k_runI (As := []) (rest := [.ref q9o]) S0 Li_L_165 ct (c_B_init l D q9o H.size) hl.1 rfl (Nat.le_of_ble_eq_true rfl) rfl dL_law_4 ⟨⟨Nat.le_of_ble_eq_true rfl, Nat.le_of_ble_eq_true rfl⟩, Nat.le_of_ble_eq_true rfl, Nat.le_of_ble_eq_true rfl⟩) rfl rfl (fun _ u H locs hw_2 hP hD hK hS => ?_)
  obtain ⟨a, K, KS⟩ := u
  have hK : va_K D vwCl [(K, .int), (KS, .object "BarcodeWand$State")] s := hK
  have hP : va_P D vwCl ((WW a K KS st0 hs0 sc0)) H := hP
  have hD : va_D A ((WW a K KS st0 hs0 sc0)) := hD
  have hw_2 : a 0 = q9o := hw_2
  have hPn := hP
  have hDn := hD
  have hSn := hS
  have hKn := hK
  have hln := hl
  subst hw_2
  have hS := hSn
  have hK := hKn
  have hl := hln
  have hP : va_P D vwCl ((WW a K KS st0 hs0 sc0)) H := hPn
  have hD : va_D A ((WW a K KS st0 hs0 sc0)) := hDn
  refine lv_astore_n (lv' := [(1, .ref (a 0)), (0, .ref b)]) hx hb dL_law_7 rfl hl (by decide) rfl (fun ls hl => ?_)
  refine lv_aload_n hx hb dL_law_8 rfl (lv_at hl 0 rfl) ?_
  have ct := k_cut_TT (wp := []) (T := (WW a K KS st0 hs0 sc0)) (wc := []) (wr := []) (tc := [(K, .int), (KS, .object "BarcodeWand$State")]) hG hS hA hK hP hD [] [] [0, 1] rfl rfl (by decide) (by decide) (by decide) rfl
  refine k_endi (As := [.ref (a 0)]) ct (k_runS (As := [.ref (a 0)]) (rest := []) S0 Ls_L_157 ct (c_L_hangs l hst D a K KS st0 hs0 sc0 0 inv_0 (by decide) H.size) hl.1 rfl (Nat.le_of_ble_eq_true rfl) rfl dL_law_9 ⟨⟨Nat.le_of_ble_eq_true rfl, Nat.le_of_ble_eq_true rfl⟩, Nat.le_of_ble_eq_true rfl, Nat.le_of_ble_eq_true rfl⟩) rfl rfl (fun r_3 sc1v_4 H locs hw_5 hP hD hK hS => ?_)
  have hK : va_K D vwCl [(K, .int), (KS, .object "BarcodeWand$State")] s := hK
  have hP : va_P D vwCl ((WW a K KS st0 hs0 sc1v_4)) H := hP
  have hD : va_D A ((WW a K KS st0 hs0 sc1v_4)) := hD
  have hw_5 : r_3 = 1 := hw_5
  have hw_5 := hw_5.symm
  subst hw_5
  refine k_nrm (y := 1) rfl ?_
  refine lv_if_eq (tgt := 29) hx hb dL_law_12 (by decide) (fun c9 => absurd c9 (by decide)) (fun _ => ?_)
  refine lv_aload_n hx hb dL_law_15 rfl (lv_at hl 0 rfl) ?_
  refine lv_iconst (v := 5) hx hb dL_law_16 (by decide) ?_
  refine lv_iconst (v := 5) hx hb dL_law_17 (by decide) ?_
  refine lv_iconst (v := 0) hx hb dL_law_18 (by decide) ?_
  have ct := k_cut_TT (wp := []) (T := (WW a K KS st0 hs0 sc1v_4)) (wc := []) (wr := []) (tc := [(K, .int), (KS, .object "BarcodeWand$State")]) hG hS hA hK hP hD [] [] [0, 1] rfl rfl (by decide) (by decide) (by decide) rfl
  refine k_endi (As := [.ref (a 0), .int 5, .int 5, .int 0]) ct (k_runS (As := [.ref (a 0), .int 5, .int 5, .int 0]) (rest := []) S0 Ls_L_166 ct (c_L_draws l hst D a K KS st0 hs0 sc1v_4 0 5 5 0 inv_0 (by decide) okH_0 (by unfold k_per; decide) (Or.inl rfl) H.size) hl.1 rfl (Nat.le_of_ble_eq_true rfl) rfl dL_law_19 ⟨⟨Nat.le_of_ble_eq_true rfl, Nat.le_of_ble_eq_true rfl⟩, Nat.le_of_ble_eq_true rfl, Nat.le_of_ble_eq_true rfl⟩) rfl rfl (fun r_6 u H locs hw_10 hP hD hK hS => ?_)
  obtain ⟨st1v_7, hs1v_8, sc1v_9⟩ := u
  have hK : va_K D vwCl [(K, .int), (KS, .object "BarcodeWand$State")] s := hK
  have hP : va_P D vwCl ((WW a K KS st1v_7 hs1v_8 sc1v_9)) H := hP
  have hD : va_D A ((WW a K KS st1v_7 hs1v_8 sc1v_9)) := hD
  have hw_10 : r_6 = 1 ∧ okH hs1v_8 ∧ nrm st1v_7 = nrm st0 := hw_10
  obtain ⟨v_11a, v_11b, v_11c⟩ := hw_10
  refine k_nrm (y := 1) (v_11a) ?_
  have v_11d := invS_view v_11c.symm inv_0
  refine lv_if_eq (tgt := 29) hx hb dL_law_22 (by decide) (fun c9 => absurd c9 (by decide)) (fun _ => ?_)
  refine lv_iconst (v := 1) hx hb dL_law_25 (by decide) ?_
  refine lv_goto (tgt := 30) hx hb dL_law_26 (by decide) ?_
  refine lv_istore_n (lv' := [(2, .int 1), (1, .ref (a 0)), (0, .ref b)]) hx hb dL_law_30 rfl hl (by decide) rfl (fun ls hl => ?_)
  refine lv_iconst (v := 0) hx hb dL_law_31 (by decide) ?_
  refine lv_istore_n (lv' := [(3, .int 0), (2, .int 1), (1, .ref (a 0)), (0, .ref b)]) hx hb dL_law_32 rfl hl (by decide) rfl (fun ls hl => ?_)
  subst hAe
  exact law_loop hst D C0 hG hK hL 40 0 rfl st1v_7 hs1v_8 sc1v_9 H locs ls v_11d v_11b hP hD hS (lv_sub hl [0, 1, 2, 3] rfl)
