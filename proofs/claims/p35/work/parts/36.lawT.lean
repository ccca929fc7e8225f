theorem lk_L_at : Cond.code yL_at cL_at 2 (some .int) ∈ wsA := mA 214 rfl rfl
theorem ly_L_at : k_y yL_at 2 := ⟨by decide +kernel, by decide +kernel, by decide +kernel⟩
theorem ls_L_at : Cond.static yL_at ∈ wsA := mA 213 rfl rfl
theorem Ls_L_170 : k_LS RL 170 yL_at cL_at 2 (some .int) 2 := ⟨mA 212 rfl rfl, ls_L_at, li_BarcodeWandLaw, lk_L_at, ly_L_at⟩
theorem lk_X7_savedStates : Cond.code yX7_savedStates cX7_savedStates 1 (some .int) ∈ wsA := mA 207 rfl rfl
theorem ly_X7_savedStates : k_y yX7_savedStates 0 := ⟨by decide +kernel, by decide +kernel, by decide +kernel⟩
theorem lm_X7_savedStates : Cond.instanceMethod yX7_savedStates ∈ wsA := mA 205 rfl rfl
theorem le_X7_savedStates : Cond.selects (yX7_savedStates).cls yX7_savedStates yX7_savedStates ∈ wsA := mA 206 rfl rfl
theorem Lv_L_174 : k_LV RL 174 yX7_savedStates cX7_savedStates 1 (some .int) 0 := ⟨mA 204 rfl rfl, lm_X7_savedStates, le_X7_savedStates, li_BarcodeWand, lk_X7_savedStates, ly_X7_savedStates⟩
set_option maxRecDepth 20000 in
theorem lk_L_act : Cond.code yL_act cL_act 3 (some .int) ∈ wsA := mA 397 rfl rfl
theorem ly_L_act : k_y yL_act 3 := ⟨by decide +kernel, by decide +kernel, by decide +kernel⟩
set_option maxRecDepth 20000 in
theorem ls_L_act : Cond.static yL_act ∈ wsA := mA 396 rfl rfl
set_option maxRecDepth 20000 in
theorem Ls_L_177 : k_LS RL 177 yL_act cL_act 3 (some .int) 3 := ⟨mA 395 rfl rfl, ls_L_act, li_BarcodeWandLaw, lk_L_act, ly_L_act⟩
set_option maxHeartbeats 8000000 in
set_option maxRecDepth 100000 in
theorem law_T {p : Program} {l : Launch} {e : Env} {s : State} {m : MethodId} {below : List Frame} {meth : Method} {c : Code} {b L : Nat} {xs : Nat → Int32} (hst : l.stackTraces = false) (D : va_G) (C0 : lw_At p s m meth c b L xs) (hG : k_G (fun q : Nat => s.heap.size ≤ q) s s.heap) {a : Nat → Nat} {K KS : ClassId} (hK : va_K D vwCl [(K, .int), (KS, .object "BarcodeWand$State")] s) (hLL : L ≤ 260) {k : Nat} (hk40 : k < 40) {C9 S9 Cn Sn : Nat} (hC9 : C9 + 9 ≤ Cn) (hS9 : S9 + 54 ≤ Sn) (hCn : Cn ≤ 690337) (hSn : Sn ≤ 7030456) (next : ∀ (st : ST) (hs : HT) (sc : SCT) (H : Heap) (locs : List Loc) (ls : Array Slot), invS (k + 1) st → okH hs → va_P D vwCl (WW a K KS st hs sc) H → va_D (fun q : Nat => s.heap.size ≤ q) (WW a K KS st hs sc) → va_S (fun q : Nat => s.heap.size ≤ q) s.heap H locs → lv_has ls 10 [(3, .int (nI (k + 1))), (2, .int 1), (1, .ref (a 0)), (0, .ref b)] → W p l e room_1 s m #[Value.ref b] below meth c H locs Cn Sn (lw_Z below #[Value.ref b] s) (F0 m 33 ls [])) (st : ST) (hs : HT) (sc : SCT) {H : Heap} {locs : List Loc} {ls : Array Slot} (hii : invS k st) (hh : okH hs) (hP : va_P D vwCl (WW a K KS st hs sc) H) (hD : va_D (fun q : Nat => s.heap.size ≤ q) (WW a K KS st hs sc)) (hS : va_S (fun q : Nat => s.heap.size ≤ q) s.heap H locs) (hl : lv_has ls 10 [(3, .int (nI k)), (2, .int 1), (1, .ref (a 0)), (0, .ref b)]) : W p l e room_1 s m #[Value.ref b] below meth c H locs C9 S9 (lw_Z below #[Value.ref b] s) (F0 m 33 ls []) := by
  have C1 := C0
  obtain ⟨hx, hb, hr, hml, hown, hts, hX, hbl, hlocks, hgv⟩ := C1
  have hown : s.vm.findClass RL = some m.cls := hown
  have ht : ∀ v9 ∈ wsA, v9.before #[Value.ref b] s = true := fun v9 h9 => hts v9 (wsA_tbl h9)
  have S0 : k_C p s m #[Value.ref b] c cL_law 10 RL := ⟨hx, hb, hml, hown, ht⟩
  have hbA : ¬ (fun q : Nat => s.heap.size ≤ q) b := Nat.not_le.mpr hbl
  have hA : ∀ q : Nat, s.heap.size ≤ q → (fun q : Nat => s.heap.size ≤ q) q := fun _ h9 => h9
  generalize hAe : (fun q : Nat => s.heap.size ≤ q) = A at hG hD hS hA hbA
  refine lv_iload_n hx hb dL_law_33 rfl (lv_at hl 0 rfl) ?_
  refine lv_bipush (v := 40) hx hb dL_law_34 (by decide) ?_
  refine lv_icmp_ge (tgt := 370) hx hb dL_law_36 (by decide) (fun c9 => absurd c9 (nI_ge (b := 40) hk40 (by decide))) (fun c_1 => ?_)
  refine lv_iload_n hx hb dL_law_39 rfl (lv_at hl 1 rfl) ?_
  refine lv_if_eq (tgt := 370) hx hb dL_law_40 (by decide) (fun c9 => absurd c9 (by decide)) (fun _ => ?_)
  refine lv_aload_n hx hb dL_law_43 rfl (lv_at hl 3 rfl) ?_
  refine lv_iconst (v := 2) hx hb dL_law_44 (by decide) ?_
  refine lv_iload_n hx hb dL_law_45 rfl (lv_at hl 0 rfl) ?_
  refine lv_imul hx hb dL_law_46 ?_
  refine k_nrm (y := (nI (2 * k))) (pk_mul 2 k) ?_
  have ct := k_cut_T (wp := []) (T := (WW a K KS st hs sc)) (wc := []) (wr := []) (tc := []) hG hS hA hK hP hD [] [] [] rfl rfl (by decide) (by decide) (by decide) rfl
  refine k_endi (As := [.ref b, .int (nI (2 * k))]) ct (k_runSX (As := [.ref b, .int (nI (2 * k))]) (rest := []) S0 Ls_L_170 (k_preX ct hX hbl hbA (by omega)) (c_at l D b L xs (nI (2 * k)) (nI_pos (by omega)) H.size) hl.1 rfl (Nat.le_of_ble_eq_true rfl) rfl dL_law_47 ⟨⟨Nat.le_of_ble_eq_true rfl, Nat.le_of_ble_eq_true rfl⟩, (show C9 ≤ 690337 by omega), (show S9 ≤ 7030456 by omega)⟩) rfl rfl (fun xx _ H locs _ hP hD hK hS => ?_)
  have hK : va_K D vwCl [(K, .int), (KS, .object "BarcodeWand$State")] s := hK
  have hP : va_P D vwCl ((WW a K KS st hs sc)) H := k_swapP (a := []) (b := (WW a K KS st hs sc)) (c := []) hP
  have hD : va_D A ((WW a K KS st hs sc)) := va_D.swap (a := []) (b := (WW a K KS st hs sc)) (c := []) hD
  have hP : va_P D vwCl ((WW a K KS st hs sc)) H := hP
  have hD : va_D A ((WW a K KS st hs sc)) := hD
  refine lv_istore (lv' := [(4, .int xx), (3, .int (nI k)), (2, .int 1), (1, .ref (a 0)), (0, .ref b)]) hx hb dL_law_50 hl (by decide) rfl (fun ls hl => ?_)
  refine lv_aload_n hx hb dL_law_52 rfl (lv_at hl 4 rfl) ?_
  refine lv_iconst (v := 2) hx hb dL_law_53 (by decide) ?_
  refine lv_iload_n hx hb dL_law_54 rfl (lv_at hl 1 rfl) ?_
  refine lv_imul hx hb dL_law_55 ?_
  refine k_nrm (y := (nI (2 * k))) (pk_mul 2 k) ?_
  refine lv_iconst (v := 1) hx hb dL_law_56 (by decide) ?_
  refine lv_iadd hx hb dL_law_57 ?_
  refine k_nrm (y := (nI (2 * k + 1))) (nI_add _ 1) ?_
  have ct := k_cut_T (wp := []) (T := (WW a K KS st hs sc)) (wc := []) (wr := []) (tc := []) hG hS hA hK hP hD [] [] [] rfl rfl (by decide) (by decide) (by decide) rfl
  refine k_endi (As := [.ref b, .int (nI (2 * k + 1))]) ct (k_runSX (As := [.ref b, .int (nI (2 * k + 1))]) (rest := []) S0 Ls_L_170 (k_preX ct hX hbl hbA (by omega)) (c_at l D b L xs (nI (2 * k + 1)) (nI_pos (by omega)) H.size) hl.1 rfl (Nat.le_of_ble_eq_true rfl) rfl dL_law_58 ⟨⟨Nat.le_of_ble_eq_true rfl, Nat.le_of_ble_eq_true rfl⟩, (show C9 ≤ 690337 by omega), (show S9 ≤ 7030456 by omega)⟩) rfl rfl (fun yy _ H locs _ hP hD hK hS => ?_)
  have hK : va_K D vwCl [(K, .int), (KS, .object "BarcodeWand$State")] s := hK
  have hP : va_P D vwCl ((WW a K KS st hs sc)) H := k_swapP (a := []) (b := (WW a K KS st hs sc)) (c := []) hP
  have hD : va_D A ((WW a K KS st hs sc)) := va_D.swap (a := []) (b := (WW a K KS st hs sc)) (c := []) hD
  have hP : va_P D vwCl ((WW a K KS st hs sc)) H := hP
  have hD : va_D A ((WW a K KS st hs sc)) := hD
  refine lv_istore (lv' := [(5, .int yy), (4, .int xx), (3, .int (nI k)), (2, .int 1), (1, .ref (a 0)), (0, .ref b)]) hx hb dL_law_61 hl (by decide) rfl (fun ls hl => ?_)
  refine lv_aload_n hx hb dL_law_63 rfl (lv_at hl 4 rfl) ?_
  have ct := k_cut_TT (wp := []) (T := (WW a K KS st hs sc)) (wc := []) (wr := []) (tc := [(K, .int), (KS, .object "BarcodeWand$State")]) hG hS hA hK hP hD [] [] [0, 1] rfl rfl (by decide) (by decide) (by decide) rfl
  refine k_endi (As := [.ref (a 0)]) ct (k_runV (As := []) (rest := []) S0 Lv_L_174 rfl (ci := 7) (q0 := 0) rfl (WW_0 a K KS st hs sc) ct (c_B_savedStates l D a K KS st hs sc H.size) hl.1 rfl (Nat.le_of_ble_eq_true rfl) rfl dL_law_64 ⟨⟨Nat.le_of_ble_eq_true rfl, Nat.le_of_ble_eq_true rfl⟩, (show C9 ≤ 690337 by omega), (show S9 ≤ 7030456 by omega)⟩) rfl rfl (fun r_2 _ H locs hw_3 hP hD hK hS => ?_)
  have hK : va_K D vwCl [(K, .int), (KS, .object "BarcodeWand$State")] s := hK
  have hP : va_P D vwCl ((WW a K KS st hs sc)) H := hP
  have hD : va_D A ((WW a K KS st hs sc)) := hD
  have hw_3 : r_2 = (nI (h_kp hs)) := hw_3
  have hw_3 := hw_3.symm
  subst hw_3
  refine k_nrm (y := (nI (h_kp hs))) rfl ?_
  refine lv_istore (lv' := [(6, .int (nI (h_kp hs))), (5, .int yy), (4, .int xx), (3, .int (nI k)), (2, .int 1), (1, .ref (a 0)), (0, .ref b)]) hx hb dL_law_67 hl (by decide) rfl (fun ls hl => ?_)
  refine lv_aload_n hx hb dL_law_69 rfl (lv_at hl 5 rfl) ?_
  have ct := k_cut_TT (wp := []) (T := (WW a K KS st hs sc)) (wc := []) (wr := []) (tc := [(K, .int), (KS, .object "BarcodeWand$State")]) hG hS hA hK hP hD [] [] [0, 1] rfl rfl (by decide) (by decide) (by decide) rfl
  refine k_endl (As := [.ref (a 0)]) ct (k_runS (As := [.ref (a 0)]) (rest := []) S0 Ls_L_153 ct (c_L_print0 l D a K KS st hs sc hii.1 H.size) hl.1 rfl (Nat.le_of_ble_eq_true rfl) rfl dL_law_70 ⟨⟨Nat.le_of_ble_eq_true rfl, Nat.le_of_ble_eq_true rfl⟩, (show C9 ≤ 690337 by omega), (show S9 ≤ 7030456 by omega)⟩) rfl rfl (fun r_4 sc1v_5 H locs hw_6 hP hD hK hS => ?_)
  have hK : va_K D vwCl [(K, .int), (KS, .object "BarcodeWand$State")] s := hK
  have hP : va_P D vwCl ((WW a K KS st hs sc1v_5)) H := hP
  have hD : va_D A ((WW a K KS st hs sc1v_5)) := hD
  have hw_6 : r_4 = (P0 st) := hw_6
  have hw_6 := hw_6.symm
  subst hw_6
  refine k_nrml (y := (P0 st)) rfl ?_
  refine lv_lstore (lv' := [(7, .long (P0 st)), (6, .int (nI (h_kp hs))), (5, .int yy), (4, .int xx), (3, .int (nI k)), (2, .int 1), (1, .ref (a 0)), (0, .ref b)]) hx hb dL_law_73 hl (by decide) rfl (fun ls hl => ?_)
  refine lv_iload_n hx hb dL_law_75 rfl (lv_at hl 4 rfl) ?_
  refine lv_if_ne (tgt := 95) hx hb dL_law_76 (by decide) (fun c_7 => ?_) (fun c_7 => ?_)
  · have hc9 := c_7
    refine lv_aload_n hx hb dL_law_95 rfl (lv_at hl 6 rfl) ?_
    refine lv_iload hx hb dL_law_96 (lv_at hl 3 rfl) ?_
    refine lv_iload hx hb dL_law_98 (lv_at hl 2 rfl) ?_
    have ct := k_cut_TT (wp := []) (T := (WW a K KS st hs sc1v_5)) (wc := []) (wr := []) (tc := [(K, .int), (KS, .object "BarcodeWand$State")]) hG hS hA hK hP hD [] [] [0, 1] rfl rfl (by decide) (by decide) (by decide) rfl
    refine k_endi (As := [.ref (a 0), .int xx, .int yy]) ct (k_runS (As := [.ref (a 0), .int xx, .int yy]) (rest := []) S0 Ls_L_177 ct (c_L_act l hst D a K KS st hs sc1v_5 k xx yy hii hh H.size) hl.1 rfl (Nat.le_of_ble_eq_true rfl) rfl dL_law_100 ⟨⟨Nat.le_of_ble_eq_true rfl, Nat.le_of_ble_eq_true rfl⟩, (show C9 + 1 ≤ 690337 by omega), (show S9 + 6 ≤ 7030456 by omega)⟩) rfl rfl (fun r_8 u H locs hw_12 hP hD hK hS => ?_)
    obtain ⟨st1v_9, hs1v_10, sc1v_11⟩ := u
    have hK : va_K D vwCl [(K, .int), (KS, .object "BarcodeWand$State")] s := hK
    have hP : va_P D vwCl ((WW a K KS st1v_9 hs1v_10 sc1v_11)) H := hP
    have hD : va_D A ((WW a K KS st1v_9 hs1v_10 sc1v_11)) := hD
    have hw_12 : r_8 = actV st xx yy ∧ ((¬ r_8 < (-1000) ∧ hs1v_10 = svH hs st ∧ invS (k + 1) st1v_9) ∨ (r_8 < (-1000) ∧ hs1v_10 = hs ∧ st1v_9 = st)) := hw_12
    rcases hw_12.2 with ⟨g1, g2, g3⟩ | ⟨g1, g2, g3⟩
    · rw [g2] at hP hD
      have hP : va_P D vwCl ((WW a K KS st1v_9 (svH hs st) sc1v_11)) H := hP
      have hD : va_D A ((WW a K KS st1v_9 (svH hs st) sc1v_11)) := hD
      have hh1 := okH_sv hh hii.1
      refine lv_istore (lv' := [(9, .int r_8), (7, .long (P0 st)), (6, .int (nI (h_kp hs))), (5, .int yy), (4, .int xx), (3, .int (nI k)), (2, .int 1), (1, .ref (a 0)), (0, .ref b)]) hx hb dL_law_103 hl (by decide) rfl (fun ls hl => ?_)
      refine lv_iload hx hb dL_law_105 (lv_at hl 0 rfl) ?_
      refine lv_sipush (v := (-1000)) hx hb dL_law_107 (by decide) ?_
      refine lv_icmp_ge (tgt := 140) hx hb dL_law_110 (by decide) (fun c_13 => ?_) (fun c9 => absurd (Int32.not_lt.mp g1) c9)
      refine lv_aload_n hx hb dL_law_140 rfl (lv_at hl 7 rfl) ?_
      have ct := k_cut_TT (wp := []) (T := (WW a K KS st1v_9 (svH hs st) sc1v_11)) (wc := []) (wr := []) (tc := [(K, .int), (KS, .object "BarcodeWand$State")]) hG hS hA hK hP hD [] [] [0, 1] rfl rfl (by decide) (by decide) (by decide) rfl
      refine k_endi (As := [.ref (a 0)]) ct (k_runV (As := []) (rest := []) S0 Lv_L_174 rfl (ci := 7) (q0 := 0) rfl (WW_0 a K KS st1v_9 (svH hs st) sc1v_11) ct (c_B_savedStates l D a K KS st1v_9 (svH hs st) sc1v_11 H.size) hl.1 rfl (Nat.le_of_ble_eq_true rfl) rfl dL_law_141 ⟨⟨Nat.le_of_ble_eq_true rfl, Nat.le_of_ble_eq_true rfl⟩, (show C9 + 1 ≤ 690337 by omega), (show S9 + 6 ≤ 7030456 by omega)⟩) rfl rfl (fun r_14 _ H locs hw_15 hP hD hK hS => ?_)
      have hK : va_K D vwCl [(K, .int), (KS, .object "BarcodeWand$State")] s := hK
      have hP : va_P D vwCl ((WW a K KS st1v_9 (svH hs st) sc1v_11)) H := hP
      have hD : va_D A ((WW a K KS st1v_9 (svH hs st) sc1v_11)) := hD
      have hw_15 : r_14 = (nI (h_kp (svH hs st))) := hw_15
      have hw_15 := hw_15.symm
      subst hw_15
      refine k_nrm (y := (nI (h_kp (svH hs st)))) rfl ?_
      refine lv_iload hx hb dL_law_144 (lv_at hl 2 rfl) ?_
      refine lv_bipush (v := 6) hx hb dL_law_146 (by decide) ?_
      refine lv_icmp_ge (tgt := 158) hx hb dL_law_148 (by decide) (fun c_16 => ?_) (fun c_16 => ?_)
      · have hc9 := c_16
        refine lv_bipush (v := 6) hx hb dL_law_158 (by decide) ?_
        refine lv_icmp_ne (tgt := 167) hx hb dL_law_160 (by decide) (fun c9 => absurd (kp_b c_16 hh) c9) (fun c_17 => ?_)
        refine lv_iconst (v := 1) hx hb dL_law_163 (by decide) ?_
        refine lv_goto (tgt := 168) hx hb dL_law_164 (by decide) ?_
        refine lv_istore_n (lv' := [(2, .int 1), (9, .int r_8), (7, .long (P0 st)), (6, .int (nI (h_kp hs))), (5, .int yy), (4, .int xx), (3, .int (nI k)), (1, .ref (a 0)), (0, .ref b)]) hx hb dL_law_168 rfl hl (by decide) rfl (fun ls hl => ?_)
        refine lv_iload_n hx hb dL_law_169 rfl (lv_at hl 0 rfl) ?_
        refine lv_if_eq (tgt := 242) hx hb dL_law_170 (by decide) (fun c9 => absurd c9 (by decide)) (fun _ => ?_)
        refine lv_iload hx hb dL_law_173 (lv_at hl 1 rfl) ?_
        refine lv_sipush (v := (-1000)) hx hb dL_law_175 (by decide) ?_
        refine lv_icmp_lt (tgt := 242) hx hb dL_law_178 (by decide) (fun c9 => absurd c9 g1) (fun c_18 => ?_)
        refine lv_iload_n hx hb dL_law_181 rfl (lv_at hl 6 rfl) ?_
        refine lv_if_le (tgt := 242) hx hb dL_law_182 (by decide) (fun c9 => absurd c9 (fun q9 => c_7 (by have h8 := Int32.not_lt.mpr q9; rcases Nat.eq_zero_or_pos k with h7 | h7; rw [h7]; rfl; exact absurd (nI_lt (a := 0) h7 (by omega)) h8))) (fun c_19 => ?_)
        refine lv_iload hx hb dL_law_185 (lv_at hl 3 rfl) ?_
        refine lv_bipush (v := 6) hx hb dL_law_187 (by decide) ?_
        refine lv_icmp_ge (tgt := 242) hx hb dL_law_189 (by decide) (fun c_20 => ?_) (fun c9 => absurd c_16 c9)
        subst hAe
        exact law_C hst D C0 hG hK hk40 (C9 := C9 + 1) (S9 := S9 + 6) (by omega) (by omega) hCn hSn next xx yy st1v_9 (svH hs st) sc1v_11 g3 hh1 hP hD hS (lv_sub hl [4, 5, 6, 0, 7, 8] rfl)
      · have hc9 := c_16
        refine lv_iload hx hb dL_law_151 (lv_at hl 2 rfl) ?_
        refine lv_iconst (v := 1) hx hb dL_law_153 (by decide) ?_
        refine lv_iadd hx hb dL_law_154 ?_
        refine k_nrm (y := (nI (h_kp hs + 1))) (nI_add _ 1) ?_
        refine lv_goto (tgt := 160) hx hb dL_law_155 (by decide) ?_
        refine lv_icmp_ne (tgt := 167) hx hb dL_law_160 (by decide) (fun c9 => absurd (kp_a c_16 hh) c9) (fun c_21 => ?_)
        refine lv_iconst (v := 1) hx hb dL_law_163 (by decide) ?_
        refine lv_goto (tgt := 168) hx hb dL_law_164 (by decide) ?_
        refine lv_istore_n (lv' := [(2, .int 1), (9, .int r_8), (7, .long (P0 st)), (6, .int (nI (h_kp hs))), (5, .int yy), (4, .int xx), (3, .int (nI k)), (1, .ref (a 0)), (0, .ref b)]) hx hb dL_law_168 rfl hl (by decide) rfl (fun ls hl => ?_)
        refine lv_iload_n hx hb dL_law_169 rfl (lv_at hl 0 rfl) ?_
        refine lv_if_eq (tgt := 242) hx hb dL_law_170 (by decide) (fun c9 => absurd c9 (by decide)) (fun _ => ?_)
        refine lv_iload hx hb dL_law_173 (lv_at hl 1 rfl) ?_
        refine lv_sipush (v := (-1000)) hx hb dL_law_175 (by decide) ?_
        refine lv_icmp_lt (tgt := 242) hx hb dL_law_178 (by decide) (fun c9 => absurd c9 g1) (fun c_22 => ?_)
        refine lv_iload_n hx hb dL_law_181 rfl (lv_at hl 6 rfl) ?_
        refine lv_if_le (tgt := 242) hx hb dL_law_182 (by decide) (fun c9 => absurd c9 (fun q9 => c_7 (by have h8 := Int32.not_lt.mpr q9; rcases Nat.eq_zero_or_pos k with h7 | h7; rw [h7]; rfl; exact absurd (nI_lt (a := 0) h7 (by omega)) h8))) (fun c_23 => ?_)
        refine lv_iload hx hb dL_law_185 (lv_at hl 3 rfl) ?_
        refine lv_bipush (v := 6) hx hb dL_law_187 (by decide) ?_
        refine lv_icmp_ge (tgt := 242) hx hb dL_law_189 (by decide) (fun c9 => absurd c9 c_16) (fun c_24 => ?_)
        refine lv_iload hx hb dL_law_192 (lv_at hl 4 rfl) ?_
        refine lv_bipush (v := 6) hx hb dL_law_194 (by decide) ?_
        refine lv_ishr hx hb dL_law_196 ?_
        refine k_nrm (y := (shrF yy 6)) rfl ?_
        refine lv_iconst (v := 3) hx hb dL_law_197 (by decide) ?_
        have ct := k_cut_T (wp := []) (T := (WW a K KS st1v_9 (svH hs st) sc1v_11)) (wc := []) (wr := []) (tc := []) hG hS hA hK hP hD [] [] [] rfl rfl (by decide) (by decide) (by decide) rfl
        refine k_endi (As := [.int (shrF yy 6), .int 3]) ct (k_runS (As := [.int (shrF yy 6), .int 3]) (rest := []) S0 Ls_L_72 ct (c_low l D (shrF yy 6) 3 (by first | assumption | decide) H.size) hl.1 rfl (Nat.le_of_ble_eq_true rfl) rfl dL_law_198 ⟨⟨Nat.le_of_ble_eq_true rfl, Nat.le_of_ble_eq_true rfl⟩, (show C9 + 1 ≤ 690337 by omega), (show S9 + 6 ≤ 7030456 by omega)⟩) rfl rfl (fun r_25 _ H locs hw_26 hP hD hK hS => ?_)
        have hP : va_P D vwCl ((WW a K KS st1v_9 (svH hs st) sc1v_11)) H := k_swapP (a := []) (b := (WW a K KS st1v_9 (svH hs st) sc1v_11)) (c := []) hP
        have hD : va_D A ((WW a K KS st1v_9 (svH hs st) sc1v_11)) := va_D.swap (a := []) (b := (WW a K KS st1v_9 (svH hs st) sc1v_11)) (c := []) hD
        have hK : va_K D vwCl [(K, .int), (KS, .object "BarcodeWand$State")] s := hK
        have hP : va_P D vwCl ((WW a K KS st1v_9 (svH hs st) sc1v_11)) H := hP
        have hD : va_D A ((WW a K KS st1v_9 (svH hs st) sc1v_11)) := hD
        have hw_26 : r_25 = (lowF (shrF yy 6) 3) := hw_26
        have hw_26 := hw_26.symm
        subst hw_26
        refine k_nrm (y := (lowF (shrF yy 6) 3)) rfl ?_
        refine lv_if_ne (tgt := 242) hx hb dL_law_201 (by decide) (fun c_27 => ?_) (fun c_27 => ?_)
        · have hc9 := c_27
          subst hAe
          exact law_C hst D C0 hG hK hk40 (C9 := C9 + 1) (S9 := S9 + 6) (by omega) (by omega) hCn hSn next xx yy st1v_9 (svH hs st) sc1v_11 g3 hh1 hP hD hS (lv_sub hl [4, 5, 6, 0, 7, 8] rfl)
        · have hc9 := c_27
          refine lv_aload_n hx hb dL_law_204 rfl (lv_at hl 7 rfl) ?_
          have ct := k_cut_TT (wp := []) (T := (WW a K KS st1v_9 (svH hs st) sc1v_11)) (wc := []) (wr := []) (tc := [(K, .int), (KS, .object "BarcodeWand$State")]) hG hS hA hK hP hD [] [] [0, 1] rfl rfl (by decide) (by decide) (by decide) rfl
          refine k_endi (As := [.ref (a 0)]) ct (k_runSW (As := [.ref (a 0)]) (rest := []) S0 Ls_L_160 ct (c_L_undo l D a K KS st1v_9 (svH hs st) sc1v_11 ((g3).1) hh1 ((stk_pop (stk_push st hh (Nat.le_of_ble_eq_true rfl) (stk_nil hs))).1) H.size) hl.1 rfl (Nat.le_of_ble_eq_true rfl) rfl dL_law_205 ⟨⟨Nat.le_of_ble_eq_true rfl, Nat.le_of_ble_eq_true rfl⟩, (show C9 + 1 ≤ 690337 by omega), (show S9 + 6 ≤ 7030456 by omega)⟩) rfl rfl (fun r_28 st1v_29 H locs hw_30 hP hD hK hS => ?_)
          have hK : va_K D vwCl [(K, .int), (KS, .object "BarcodeWand$State")] s := hK
          have hP : va_P D vwCl ((WW a K KS st1v_29 (rsH (svH hs st)) sc1v_11)) H := hP
          have hD : va_D A ((WW a K KS st1v_29 (rsH (svH hs st)) sc1v_11)) := hD
          have hw_30 : r_28 = (nI (h_kp (svH hs st) - 1)) ∧ st1v_29 = rsS (svH hs st) st1v_9 := hw_30
          obtain ⟨ua, ub⟩ := hw_30
          refine k_nrm (y := (nI (h_kp (svH hs st) - 1))) (ua) ?_
          have KK := stk_push st hh (Nat.le_of_ble_eq_true rfl) (stk_nil hs)
          have hv2 : nrm st1v_29 = nrm st := by rw [ub]; exact (stk_pop KK).2.2 _
          have hi2 := invS_view hv2.symm hii
          have hh2 := okH_rs hh1
          refine lv_iload hx hb dL_law_208 (lv_at hl 3 rfl) ?_
          refine lv_icmp_ne (tgt := 240) hx hb dL_law_210 (by decide) (fun c9 => absurd (kp_c c_24 hh) c9) (fun c_31 => ?_)
          refine lv_aload_n hx hb dL_law_213 rfl (lv_at hl 7 rfl) ?_
          have ct := k_cut_TT (wp := []) (T := (WW a K KS st1v_29 (rsH (svH hs st)) sc1v_11)) (wc := []) (wr := []) (tc := [(K, .int), (KS, .object "BarcodeWand$State")]) hG hS hA hK hP hD [] [] [0, 1] rfl rfl (by decide) (by decide) (by decide) rfl
          refine k_endl (As := [.ref (a 0)]) ct (k_runS (As := [.ref (a 0)]) (rest := []) S0 Ls_L_153 ct (c_L_print0 l D a K KS st1v_29 (rsH (svH hs st)) sc1v_11 hi2.1 H.size) hl.1 rfl (Nat.le_of_ble_eq_true rfl) rfl dL_law_214 ⟨⟨Nat.le_of_ble_eq_true rfl, Nat.le_of_ble_eq_true rfl⟩, (show C9 + 1 ≤ 690337 by omega), (show S9 + 6 ≤ 7030456 by omega)⟩) rfl rfl (fun r_32 sc1v_33 H locs hw_34 hP hD hK hS => ?_)
          have hK : va_K D vwCl [(K, .int), (KS, .object "BarcodeWand$State")] s := hK
          have hP : va_P D vwCl ((WW a K KS st1v_29 (rsH (svH hs st)) sc1v_33)) H := hP
          have hD : va_D A ((WW a K KS st1v_29 (rsH (svH hs st)) sc1v_33)) := hD
          have hw_34 : r_32 = (P0 st1v_29) := hw_34
          have hw_34 := hw_34.symm
          subst hw_34
          refine k_nrml (y := (P0 st1v_29)) rfl ?_
          refine lv_lload hx hb dL_law_217 (lv_at hl 2 rfl) ?_
          refine W.lcmp hx hb dL_law_219 ?_
          refine k_nrm (y := 0) ((by rw [P0_view hv2 hi2.1]; exact lgc _)) ?_
          refine lv_if_ne (tgt := 240) hx hb dL_law_220 (by decide) (fun c9 => absurd (by decide) c9) (fun _ => ?_)
          refine lv_aload_n hx hb dL_law_223 rfl (lv_at hl 7 rfl) ?_
          refine lv_iload hx hb dL_law_224 (lv_at hl 5 rfl) ?_
          refine lv_iload hx hb dL_law_226 (lv_at hl 4 rfl) ?_
          have ct := k_cut_TT (wp := []) (T := (WW a K KS st1v_29 (rsH (svH hs st)) sc1v_33)) (wc := []) (wr := []) (tc := [(K, .int), (KS, .object "BarcodeWand$State")]) hG hS hA hK hP hD [] [] [0, 1] rfl rfl (by decide) (by decide) (by decide) rfl
          refine k_endi (As := [.ref (a 0), .int xx, .int yy]) ct (k_runS (As := [.ref (a 0), .int xx, .int yy]) (rest := []) S0 Ls_L_177 ct (c_L_act l hst D a K KS st1v_29 (rsH (svH hs st)) sc1v_33 k xx yy hi2 hh2 H.size) hl.1 rfl (Nat.le_of_ble_eq_true rfl) rfl dL_law_228 ⟨⟨Nat.le_of_ble_eq_true rfl, Nat.le_of_ble_eq_true rfl⟩, (show C9 + 1 + 1 ≤ 690337 by omega), (show S9 + 6 + 6 ≤ 7030456 by omega)⟩) rfl rfl (fun r_35 u H locs hw_39 hP hD hK hS => ?_)
          obtain ⟨st1v_36, hs1v_37, sc1v_38⟩ := u
          have hK : va_K D vwCl [(K, .int), (KS, .object "BarcodeWand$State")] s := hK
          have hP : va_P D vwCl ((WW a K KS st1v_36 hs1v_37 sc1v_38)) H := hP
          have hD : va_D A ((WW a K KS st1v_36 hs1v_37 sc1v_38)) := hD
          have hw_39 : r_35 = actV st1v_29 xx yy ∧ ((¬ r_35 < (-1000) ∧ hs1v_37 = svH (rsH (svH hs st)) st1v_29 ∧ invS (k + 1) st1v_36) ∨ (r_35 < (-1000) ∧ hs1v_37 = (rsH (svH hs st)) ∧ st1v_36 = st1v_29)) := hw_39
          have he3 := hw_39.1.trans ((actV_view hv2.symm hii.1 xx yy).symm.trans hw_12.1.symm)
          rcases hw_39.2 with ⟨f1, f2, f3⟩ | ⟨f1, f2, f3⟩
          · have hh3 : okH hs1v_37 := by rw [f2]; exact okH_sv hh2 hi2.1
            refine lv_iload hx hb dL_law_231 (lv_at hl 1 rfl) ?_
            refine lv_icmp_ne (tgt := 240) hx hb dL_law_233 (by decide) (fun c9 => absurd (hw_39.1.trans ((actV_view hv2.symm hii.1 xx yy).symm.trans hw_12.1.symm)) c9) (fun c_40 => ?_)
            refine lv_iconst (v := 1) hx hb dL_law_236 (by decide) ?_
            refine lv_goto (tgt := 241) hx hb dL_law_237 (by decide) ?_
            refine lv_istore_n (lv' := [(2, .int 1), (9, .int r_8), (7, .long (P0 st)), (6, .int (nI (h_kp hs))), (5, .int yy), (4, .int xx), (3, .int (nI k)), (1, .ref (a 0)), (0, .ref b)]) hx hb dL_law_241 rfl hl (by decide) rfl (fun ls hl => ?_)
            subst hAe
            exact law_C hst D C0 hG hK hk40 (C9 := C9 + 1 + 1) (S9 := S9 + 6 + 6) (by omega) (by omega) hCn hSn next xx yy st1v_36 hs1v_37 sc1v_38 f3 hh3 hP hD hS (lv_sub hl [4, 5, 6, 0, 7, 8] rfl)
          · rw [he3] at f1
            exact absurd f1 g1
    · rw [g2, g3] at hP hD
      have hP : va_P D vwCl ((WW a K KS st hs sc1v_11)) H := hP
      have hD : va_D A ((WW a K KS st hs sc1v_11)) := hD
      refine lv_istore (lv' := [(9, .int r_8), (7, .long (P0 st)), (6, .int (nI (h_kp hs))), (5, .int yy), (4, .int xx), (3, .int (nI k)), (2, .int 1), (1, .ref (a 0)), (0, .ref b)]) hx hb dL_law_103 hl (by decide) rfl (fun ls hl => ?_)
      refine lv_iload hx hb dL_law_105 (lv_at hl 0 rfl) ?_
      refine lv_sipush (v := (-1000)) hx hb dL_law_107 (by decide) ?_
      refine lv_icmp_ge (tgt := 140) hx hb dL_law_110 (by decide) (fun c9 => absurd c9 (Int32.not_le.mpr g1)) (fun c_41 => ?_)
      refine lv_aload_n hx hb dL_law_113 rfl (lv_at hl 7 rfl) ?_
      have ct := k_cut_TT (wp := []) (T := (WW a K KS st hs sc1v_11)) (wc := []) (wr := []) (tc := [(K, .int), (KS, .object "BarcodeWand$State")]) hG hS hA hK hP hD [] [] [0, 1] rfl rfl (by decide) (by decide) (by decide) rfl
      refine k_endi (As := [.ref (a 0)]) ct (k_runV (As := []) (rest := []) S0 Lv_L_174 rfl (ci := 7) (q0 := 0) rfl (WW_0 a K KS st hs sc1v_11) ct (c_B_savedStates l D a K KS st hs sc1v_11 H.size) hl.1 rfl (Nat.le_of_ble_eq_true rfl) rfl dL_law_114 ⟨⟨Nat.le_of_ble_eq_true rfl, Nat.le_of_ble_eq_true rfl⟩, (show C9 + 1 ≤ 690337 by omega), (show S9 + 6 ≤ 7030456 by omega)⟩) rfl rfl (fun r_42 _ H locs hw_43 hP hD hK hS => ?_)
      have hK : va_K D vwCl [(K, .int), (KS, .object "BarcodeWand$State")] s := hK
      have hP : va_P D vwCl ((WW a K KS st hs sc1v_11)) H := hP
      have hD : va_D A ((WW a K KS st hs sc1v_11)) := hD
      have hw_43 : r_42 = (nI (h_kp hs)) := hw_43
      have hw_43 := hw_43.symm
      subst hw_43
      refine k_nrm (y := (nI (h_kp hs))) rfl ?_
      refine lv_iload hx hb dL_law_117 (lv_at hl 2 rfl) ?_
      refine lv_icmp_ne (tgt := 136) hx hb dL_law_119 (by decide) (fun c9 => absurd rfl c9) (fun c_44 => ?_)
      refine lv_aload_n hx hb dL_law_122 rfl (lv_at hl 7 rfl) ?_
      have ct := k_cut_TT (wp := []) (T := (WW a K KS st hs sc1v_11)) (wc := []) (wr := []) (tc := [(K, .int), (KS, .object "BarcodeWand$State")]) hG hS hA hK hP hD [] [] [0, 1] rfl rfl (by decide) (by decide) (by decide) rfl
      refine k_endl (As := [.ref (a 0)]) ct (k_runS (As := [.ref (a 0)]) (rest := []) S0 Ls_L_153 ct (c_L_print0 l D a K KS st hs sc1v_11 hii.1 H.size) hl.1 rfl (Nat.le_of_ble_eq_true rfl) rfl dL_law_123 ⟨⟨Nat.le_of_ble_eq_true rfl, Nat.le_of_ble_eq_true rfl⟩, (show C9 + 1 ≤ 690337 by omega), (show S9 + 6 ≤ 7030456 by omega)⟩) rfl rfl (fun r_45 sc1v_46 H locs hw_47 hP hD hK hS => ?_)
      have hK : va_K D vwCl [(K, .int), (KS, .object "BarcodeWand$State")] s := hK
      have hP : va_P D vwCl ((WW a K KS st hs sc1v_46)) H := hP
      have hD : va_D A ((WW a K KS st hs sc1v_46)) := hD
      have hw_47 : r_45 = (P0 st) := hw_47
      have hw_47 := hw_47.symm
      subst hw_47
      refine k_nrml (y := (P0 st)) rfl ?_
      refine lv_lload hx hb dL_law_126 (lv_at hl 1 rfl) ?_
      refine W.lcmp hx hb dL_law_128 ?_
      refine k_nrm (y := 0) (lgc _) ?_
      refine lv_if_ne (tgt := 136) hx hb dL_law_129 (by decide) (fun c9 => absurd (by decide) c9) (fun _ => ?_)
      refine lv_iconst (v := 1) hx hb dL_law_132 (by decide) ?_
      refine lv_goto (tgt := 168) hx hb dL_law_133 (by decide) ?_
      refine lv_istore_n (lv' := [(2, .int 1), (9, .int r_8), (7, .long (P0 st)), (6, .int (nI (h_kp hs))), (5, .int yy), (4, .int xx), (3, .int (nI k)), (1, .ref (a 0)), (0, .ref b)]) hx hb dL_law_168 rfl hl (by decide) rfl (fun ls hl => ?_)
      refine lv_iload_n hx hb dL_law_169 rfl (lv_at hl 0 rfl) ?_
      refine lv_if_eq (tgt := 242) hx hb dL_law_170 (by decide) (fun c9 => absurd c9 (by decide)) (fun _ => ?_)
      refine lv_iload hx hb dL_law_173 (lv_at hl 1 rfl) ?_
      refine lv_sipush (v := (-1000)) hx hb dL_law_175 (by decide) ?_
      refine lv_icmp_lt (tgt := 242) hx hb dL_law_178 (by decide) (fun c_48 => ?_) (fun c9 => absurd g1 c9)
      subst hAe
      exact law_C hst D C0 hG hK hk40 (C9 := C9 + 1) (S9 := S9 + 6) (by omega) (by omega) hCn hSn next xx yy st hs sc1v_46 (hii.mono (Nat.le_succ k)) hh hP hD hS (lv_sub hl [4, 5, 6, 0, 7, 8] rfl)
  · have hc9 := c_7
    refine lv_aload_n hx hb dL_law_79 rfl (lv_at hl 6 rfl) ?_
    refine lv_iload hx hb dL_law_80 (lv_at hl 3 rfl) ?_
    refine lv_sipush (v := 1000) hx hb dL_law_82 (by decide) ?_
    have ct := k_cut_T (wp := []) (T := (WW a K KS st hs sc1v_5)) (wc := []) (wr := []) (tc := []) hG hS hA hK hP hD [] [] [] rfl rfl (by decide) (by decide) (by decide) rfl
    refine k_endi (As := [.int xx, .int 1000]) ct (k_runS (As := [.int xx, .int 1000]) (rest := [.ref (a 0)]) S0 Ls_L_72 ct (c_low l D xx 1000 (by first | assumption | decide) H.size) hl.1 rfl (Nat.le_of_ble_eq_true rfl) rfl dL_law_85 ⟨⟨Nat.le_of_ble_eq_true rfl, Nat.le_of_ble_eq_true rfl⟩, (show C9 ≤ 690337 by omega), (show S9 ≤ 7030456 by omega)⟩) rfl rfl (fun r_49 _ H locs hw_50 hP hD hK hS => ?_)
    have hP : va_P D vwCl ((WW a K KS st hs sc1v_5)) H := k_swapP (a := []) (b := (WW a K KS st hs sc1v_5)) (c := []) hP
    have hD : va_D A ((WW a K KS st hs sc1v_5)) := va_D.swap (a := []) (b := (WW a K KS st hs sc1v_5)) (c := []) hD
    have hK : va_K D vwCl [(K, .int), (KS, .object "BarcodeWand$State")] s := hK
    have hP : va_P D vwCl ((WW a K KS st hs sc1v_5)) H := hP
    have hD : va_D A ((WW a K KS st hs sc1v_5)) := hD
    have hw_50 : r_49 = (lowF xx 1000) := hw_50
    have hw_50 := hw_50.symm
    subst hw_50
    refine k_nrm (y := (lowF xx 1000)) rfl ?_
    obtain ⟨na, hnal, hnae⟩ := low_nI xx (n := 1000) (by decide) (by decide)
    refine k_nrm (y := (nI na)) (hnae) ?_
    refine lv_iconst (v := 3) hx hb dL_law_88 (by decide) ?_
    refine k_nrm (y := nI 3) rfl ?_
    have ct := k_cut_TT (wp := []) (T := (WW a K KS st hs sc1v_5)) (wc := []) (wr := []) (tc := [(K, .int), (KS, .object "BarcodeWand$State")]) hG hS hA hK hP hD [] [] [0, 1] rfl rfl (by decide) (by decide) (by decide) rfl
    refine k_endi (As := [.ref (a 0), .int (nI na), .int (nI 3)]) ct (k_runSW (As := [.ref (a 0), .int (nI na), .int (nI 3)]) (rest := []) S0 Ls_L_77 ct (c_L_print l D a K KS st hs sc1v_5 (nI na) 3 hii.1 hh (by decide) (by decide) (nI_pos (by omega)) (pw_lt (k := 3) (by omega) (by decide) (by decide)) H.size) hl.1 rfl (Nat.le_of_ble_eq_true rfl) rfl dL_law_89 ⟨⟨Nat.le_of_ble_eq_true rfl, Nat.le_of_ble_eq_true rfl⟩, (show C9 ≤ 690337 by omega), (show S9 ≤ 7030456 by omega)⟩) rfl rfl (fun r_51 _ H locs hw_52 hP hD hK hS => ?_)
    have hK : va_K D vwCl [(K, .int), (KS, .object "BarcodeWand$State")] s := hK
    have hP : va_P D vwCl ((WW a K KS (setP (nI na) 3 st) (svH hs st) sc1v_5)) H := hP
    have hD : va_D A ((WW a K KS (setP (nI na) 3 st) (svH hs st) sc1v_5)) := hD
    have hw_52 : r_51 = (chkd (cS (nI na) 3)) := hw_52
    have hw_52 := hw_52.symm
    subst hw_52
    refine k_nrm (y := (chkd (cS (nI na) 3))) rfl ?_
    obtain ⟨dd, hdd, hde⟩ := chk_9 (n := na) (j := 3) (by omega) (by decide)
    refine k_nrm (y := (nI dd)) (hde) ?_
    have hi1 := (setP_inv (j := 3) hii (show na < 2 ^ 31 by omega) (by decide) (by decide)).mono (Nat.le_succ k)
    have hh1 := okH_sv hh hii.1
    refine lv_goto (tgt := 103) hx hb dL_law_92 (by decide) ?_
    refine lv_istore (lv' := [(9, .int (nI dd)), (7, .long (P0 st)), (6, .int (nI (h_kp hs))), (5, .int yy), (4, .int xx), (3, .int (nI k)), (2, .int 1), (1, .ref (a 0)), (0, .ref b)]) hx hb dL_law_103 hl (by decide) rfl (fun ls hl => ?_)
    refine lv_iload hx hb dL_law_105 (lv_at hl 0 rfl) ?_
    refine lv_sipush (v := (-1000)) hx hb dL_law_107 (by decide) ?_
    refine lv_icmp_ge (tgt := 140) hx hb dL_law_110 (by decide) (fun c_53 => ?_) (fun c9 => absurd (Int32.not_lt.mp (neg_k (by omega))) c9)
    refine lv_aload_n hx hb dL_law_140 rfl (lv_at hl 7 rfl) ?_
    have ct := k_cut_TT (wp := []) (T := (WW a K KS (setP (nI na) 3 st) (svH hs st) sc1v_5)) (wc := []) (wr := []) (tc := [(K, .int), (KS, .object "BarcodeWand$State")]) hG hS hA hK hP hD [] [] [0, 1] rfl rfl (by decide) (by decide) (by decide) rfl
    refine k_endi (As := [.ref (a 0)]) ct (k_runV (As := []) (rest := []) S0 Lv_L_174 rfl (ci := 7) (q0 := 0) rfl (WW_0 a K KS (setP (nI na) 3 st) (svH hs st) sc1v_5) ct (c_B_savedStates l D a K KS (setP (nI na) 3 st) (svH hs st) sc1v_5 H.size) hl.1 rfl (Nat.le_of_ble_eq_true rfl) rfl dL_law_141 ⟨⟨Nat.le_of_ble_eq_true rfl, Nat.le_of_ble_eq_true rfl⟩, (show C9 ≤ 690337 by omega), (show S9 ≤ 7030456 by omega)⟩) rfl rfl (fun r_54 _ H locs hw_55 hP hD hK hS => ?_)
    have hK : va_K D vwCl [(K, .int), (KS, .object "BarcodeWand$State")] s := hK
    have hP : va_P D vwCl ((WW a K KS (setP (nI na) 3 st) (svH hs st) sc1v_5)) H := hP
    have hD : va_D A ((WW a K KS (setP (nI na) 3 st) (svH hs st) sc1v_5)) := hD
    have hw_55 : r_54 = (nI (h_kp (svH hs st))) := hw_55
    have hw_55 := hw_55.symm
    subst hw_55
    refine k_nrm (y := (nI (h_kp (svH hs st)))) rfl ?_
    refine lv_iload hx hb dL_law_144 (lv_at hl 2 rfl) ?_
    refine lv_bipush (v := 6) hx hb dL_law_146 (by decide) ?_
    refine lv_icmp_ge (tgt := 158) hx hb dL_law_148 (by decide) (fun c_56 => ?_) (fun c_56 => ?_)
    · have hc9 := c_56
      refine lv_bipush (v := 6) hx hb dL_law_158 (by decide) ?_
      refine lv_icmp_ne (tgt := 167) hx hb dL_law_160 (by decide) (fun c9 => absurd (kp_b c_56 hh) c9) (fun c_57 => ?_)
      refine lv_iconst (v := 1) hx hb dL_law_163 (by decide) ?_
      refine lv_goto (tgt := 168) hx hb dL_law_164 (by decide) ?_
      refine lv_istore_n (lv' := [(2, .int 1), (9, .int (nI dd)), (7, .long (P0 st)), (6, .int (nI (h_kp hs))), (5, .int yy), (4, .int xx), (3, .int (nI k)), (1, .ref (a 0)), (0, .ref b)]) hx hb dL_law_168 rfl hl (by decide) rfl (fun ls hl => ?_)
      refine lv_iload_n hx hb dL_law_169 rfl (lv_at hl 0 rfl) ?_
      refine lv_if_eq (tgt := 242) hx hb dL_law_170 (by decide) (fun c9 => absurd c9 (by decide)) (fun _ => ?_)
      refine lv_iload hx hb dL_law_173 (lv_at hl 1 rfl) ?_
      refine lv_sipush (v := (-1000)) hx hb dL_law_175 (by decide) ?_
      refine lv_icmp_lt (tgt := 242) hx hb dL_law_178 (by decide) (fun c9 => absurd c9 (neg_k (by omega))) (fun c_58 => ?_)
      refine lv_iload_n hx hb dL_law_181 rfl (lv_at hl 6 rfl) ?_
      refine lv_if_le (tgt := 242) hx hb dL_law_182 (by decide) (fun c_59 => ?_) (fun c9 => absurd (by rw [c_7]; decide) c9)
      subst hAe
      exact law_C hst D C0 hG hK hk40 (C9 := C9) (S9 := S9) (by omega) (by omega) hCn hSn next xx yy (setP (nI na) 3 st) (svH hs st) sc1v_5 hi1 hh1 hP hD hS (lv_sub hl [4, 5, 6, 0, 7, 8] rfl)
    · have hc9 := c_56
      refine lv_iload hx hb dL_law_151 (lv_at hl 2 rfl) ?_
      refine lv_iconst (v := 1) hx hb dL_law_153 (by decide) ?_
      refine lv_iadd hx hb dL_law_154 ?_
      refine k_nrm (y := (nI (h_kp hs + 1))) (nI_add _ 1) ?_
      refine lv_goto (tgt := 160) hx hb dL_law_155 (by decide) ?_
      refine lv_icmp_ne (tgt := 167) hx hb dL_law_160 (by decide) (fun c9 => absurd (kp_a c_56 hh) c9) (fun c_60 => ?_)
      refine lv_iconst (v := 1) hx hb dL_law_163 (by decide) ?_
      refine lv_goto (tgt := 168) hx hb dL_law_164 (by decide) ?_
      refine lv_istore_n (lv' := [(2, .int 1), (9, .int (nI dd)), (7, .long (P0 st)), (6, .int (nI (h_kp hs))), (5, .int yy), (4, .int xx), (3, .int (nI k)), (1, .ref (a 0)), (0, .ref b)]) hx hb dL_law_168 rfl hl (by decide) rfl (fun ls hl => ?_)
      refine lv_iload_n hx hb dL_law_169 rfl (lv_at hl 0 rfl) ?_
      refine lv_if_eq (tgt := 242) hx hb dL_law_170 (by decide) (fun c9 => absurd c9 (by decide)) (fun _ => ?_)
      refine lv_iload hx hb dL_law_173 (lv_at hl 1 rfl) ?_
      refine lv_sipush (v := (-1000)) hx hb dL_law_175 (by decide) ?_
      refine lv_icmp_lt (tgt := 242) hx hb dL_law_178 (by decide) (fun c9 => absurd c9 (neg_k (by omega))) (fun c_61 => ?_)
      refine lv_iload_n hx hb dL_law_181 rfl (lv_at hl 6 rfl) ?_
      refine lv_if_le (tgt := 242) hx hb dL_law_182 (by decide) (fun c_62 => ?_) (fun c9 => absurd (by rw [c_7]; decide) c9)
      subst hAe
      exact law_C hst D C0 hG hK hk40 (C9 := C9) (S9 := S9) (by omega) (by omega) hCn hSn next xx yy (setP (nI na) 3 st) (svH hs st) sc1v_5 hi1 hh1 hP hD hS (lv_sub hl [4, 5, 6, 0, 7, 8] rfl)
