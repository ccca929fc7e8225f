theorem lk_X3_failureOf : Cond.code yX3_failureOf cX3_failureOf 7 (some .int) ∈ wsA := mA 292 rfl rfl
theorem ly_X3_failureOf : k_y yX3_failureOf 3 := ⟨by decide +kernel, by decide +kernel, by decide +kernel⟩
theorem lm_X3_failureOf : Cond.instanceMethod yX3_failureOf ∈ wsA := mA 290 rfl rfl
theorem le_X3_failureOf : Cond.selects (yX3_failureOf).cls yX3_failureOf yX3_failureOf ∈ wsA := mA 291 rfl rfl
theorem Lv_X3_23 : k_LV RX3 23 yX3_failureOf cX3_failureOf 7 (some .int) 3 := ⟨mA 289 rfl rfl, lm_X3_failureOf, le_X3_failureOf, li_BarcodeWand_Reader, lk_X3_failureOf, ly_X3_failureOf⟩
theorem dX3_resultOf_0 : decode cX3_resultOf 0 = .ok (.aload_n 0, 1) := by decide +kernel
theorem dX3_resultOf_1 : decode cX3_resultOf 1 = .ok (.aload_n 1, 1) := by decide +kernel
theorem dX3_resultOf_2 : decode cX3_resultOf 2 = .ok (.iconst 0, 1) := by decide +kernel
theorem dX3_resultOf_3 : decode cX3_resultOf 3 = .ok (.iload_n 2, 1) := by decide +kernel
theorem dX3_resultOf_4 : decode cX3_resultOf 4 = .ok (.invokevirtual 23, 3) := by decide +kernel
theorem dX3_resultOf_7 : decode cX3_resultOf 7 = .ok (.istore_n 3, 1) := by decide +kernel
theorem dX3_resultOf_8 : decode cX3_resultOf 8 = .ok (.iload_n 3, 1) := by decide +kernel
theorem dX3_resultOf_9 : decode cX3_resultOf 9 = .ok (.ifCond .ne 5, 3) := by decide +kernel
theorem dX3_resultOf_12 : decode cX3_resultOf 12 = .ok (.iconst 0, 1) := by decide +kernel
theorem dX3_resultOf_13 : decode cX3_resultOf 13 = .ok (.ireturn, 1) := by decide +kernel
theorem dX3_resultOf_14 : decode cX3_resultOf 14 = .ok (.aload_n 0, 1) := by decide +kernel
theorem dX3_resultOf_15 : decode cX3_resultOf 15 = .ok (.aload_n 1, 1) := by decide +kernel
theorem dX3_resultOf_16 : decode cX3_resultOf 16 = .ok (.iconst 1, 1) := by decide +kernel
theorem dX3_resultOf_17 : decode cX3_resultOf 17 = .ok (.iload_n 2, 1) := by decide +kernel
theorem dX3_resultOf_18 : decode cX3_resultOf 18 = .ok (.invokevirtual 23, 3) := by decide +kernel
theorem dX3_resultOf_21 : decode cX3_resultOf 21 = .ok (.istore 4, 2) := by decide +kernel
theorem dX3_resultOf_23 : decode cX3_resultOf 23 = .ok (.iload 4, 2) := by decide +kernel
theorem dX3_resultOf_25 : decode cX3_resultOf 25 = .ok (.ifCond .ne 7, 3) := by decide +kernel
theorem dX3_resultOf_28 : decode cX3_resultOf 28 = .ok (.iconst (-1), 1) := by decide +kernel
theorem dX3_resultOf_29 : decode cX3_resultOf 29 = .ok (.goto 9, 3) := by decide +kernel
theorem dX3_resultOf_32 : decode cX3_resultOf 32 = .ok (.iload_n 3, 1) := by decide +kernel
theorem dX3_resultOf_33 : decode cX3_resultOf 33 = .ok (.iload 4, 2) := by decide +kernel
theorem dX3_resultOf_35 : decode cX3_resultOf 35 = .ok (.invokestatic 27, 3) := by decide +kernel
theorem dX3_resultOf_38 : decode cX3_resultOf 38 = .ok (.ireturn, 1) := by decide +kernel
set_option maxHeartbeats 4000000 in
set_option maxRecDepth 100000 in
theorem c_resultOf (l : Launch) (D : va_G) (re : Nat) (rd : Nat) (nd : Int32) (rl : Nat) (ldi : Int32) (sot : Int32) (tie : Int32) (ff : Int32) (ft : Int32) (rdA : Nat) (rn : Int32) (K : ClassId) (rg : Nat → Int32) (rlA : Nat) (lnn : Int32) (rlf : Nat → Int32) (tm : Nat) (tmA : Nat) (tn : Nat) (tf : Nat → Int32) (to : Int32) (htn : tn ≤ 41) (sz : Nat) : k_Mi (S := Int32 × Int32 × Int32 × Int32 × Int32 × Int32 × Nat × (Nat → Int32) × (Nat → Int32)) l D yX3_resultOf cX3_resultOf 5 (some .int) 3 0 0 77 [.ref re, .ref tm, .int to] [(re, .inr (3, [.ref rd, .int nd, .ref rl, .int ldi, .int sot, .int tie, .int ff, .int ft])), (rd, .inr (4, [.ref rdA, .int rn])), (rdA, .inl (K, 9, .inl rg)), (rl, .inr (4, [.ref rlA, .int lnn])), (rlA, .inl (K, 41, .inl rlf)), (tm, .inr (4, [.ref tmA, .int (nI tn)])), (tmA, .inl (K, 41, .inl tf))] [(K, .int)] (fun (r : Int32) (u : Int32 × Int32 × Int32 × Int32 × Int32 × Int32 × Nat × (Nat → Int32) × (Nat → Int32)) => match u with | (nd1, ldi1, sot1, tie1, ff1, ft1, n1, g1, l1) => r = resF tn tf to ∧ n1 ≤ 9 ∧ (r = 0 → n1 = dgc tn ∧ ∀ m9, m9 < n1 → g1 m9 = nrD tn (lnF tn tf 0) m9) ∧ (r = (-1) → n1 = dgc tn ∧ ∀ m9, m9 < n1 → g1 m9 = nrD tn (lnF tn tf 1) m9)) (fun u => match u with | (nd1, ldi1, sot1, tie1, ff1, ft1, n1, g1, l1) => [(re, .inr (3, [.ref rd, .int nd1, .ref rl, .int ldi1, .int sot1, .int tie1, .int ff1, .int ft1])), (rd, .inr (4, [.ref rdA, .int (nI n1)])), (rdA, .inl (K, 9, .inl g1)), (rl, .inr (4, [.ref rlA, .int (nI tn)])), (rlA, .inl (K, 41, .inl l1)), (tm, .inr (4, [.ref tmA, .int (nI tn)])), (tmA, .inl (K, 41, .inl tf))]) (fun u => match u with | (nd1, ldi1, sot1, tie1, ff1, ft1, n1, g1, l1) => []) sz := by
  refine Met.ofW (cc := cX3_resultOf) (maxL := 5) (ret := (some .int)) (by decide) rfl ?_
  intro p e s m args below meth c s₁ B hml hv
  obtain ⟨rfl, hsz, hP, hK, hD0, hG⟩ := hv
  have hx := B.exec
  have hb := B.bytes
  have hr := B.returns
  have ht : ∀ v9 ∈ wsA, v9.before ([.ref re, .ref tm, .int to] : List Value).toArray s = true := fun v9 h9 => atoms_spec (ws := k_ws yX3_resultOf cX3_resultOf 5 (some .int)) B.pre v9 (List.mem_cons_of_mem _ h9)
  have hown : s.vm.findClass RX3 = some m.cls := findClass_of_methodNamed B.named
  have S0 : k_C p s m ([.ref re, .ref tm, .int to] : List Value).toArray c cX3_resultOf 5 RX3 := ⟨hx, hb, hml, hown, ht⟩
  have hlocks := B.notSynchronized
  subst hsz
  have hD := hD0.self (sz := s.heap.size)
  generalize hAe : va_A [(re, .inr (3, [.ref rd, .int nd, .ref rl, .int ldi, .int sot, .int tie, .int ff, .int ft])), (rd, .inr (4, [.ref rdA, .int rn])), (rdA, .inl (K, 9, .inl rg)), (rl, .inr (4, [.ref rlA, .int lnn])), (rlA, .inl (K, 41, .inl rlf)), (tm, .inr (4, [.ref tmA, .int (nI tn)])), (tmA, .inl (K, 41, .inl tf))] s.heap.size = A at hD hG ⊢
  have hA : ∀ q : Nat, s.heap.size ≤ q → A q := fun q h => by rw [← hAe]; exact Or.inr h
  have hS : va_S A s.heap s.heap [] := va_S.rf
  have hl := lv_entry ([.ref re, .ref tm, .int to]) (n := 5) (Nat.le_of_ble_eq_true rfl)
  rw [lg_entry_eq]
  generalize (lg_sl ([.ref re, .ref tm, .int to]) ++ List.replicate (5 - (lg_sl ([.ref re, .ref tm, .int to])).length) Slot.unset).toArray = ls at hl ⊢
  have hl : lv_has ls 5 [(0, .ref re), (1, .ref tm), (2, .int to)] := hl
  have hP : va_P D vwCl [(re, .inr (3, [.ref rd, .int nd, .ref rl, .int ldi, .int sot, .int tie, .int ff, .int ft])), (rd, .inr (4, [.ref rdA, .int rn])), (rdA, .inl (K, 9, .inl rg)), (rl, .inr (4, [.ref rlA, .int lnn])), (rlA, .inl (K, 41, .inl rlf)), (tm, .inr (4, [.ref tmA, .int (nI tn)])), (tmA, .inl (K, 41, .inl tf))] s.heap := hP
  refine lv_aload_n hx hb dX3_resultOf_0 rfl (lv_at hl 0 rfl) ?_
  refine lv_aload_n hx hb dX3_resultOf_1 rfl (lv_at hl 1 rfl) ?_
  refine lv_iconst (v := 0) hx hb dX3_resultOf_2 (by decide) ?_
  refine lv_iload_n hx hb dX3_resultOf_3 rfl (lv_at hl 2 rfl) ?_
  have ct := k_cut_of (wc := [(re, .inr (3, [.ref rd, .int nd, .ref rl, .int ldi, .int sot, .int tie, .int ff, .int ft])), (rd, .inr (4, [.ref rdA, .int rn])), (rdA, .inl (K, 9, .inl rg)), (rl, .inr (4, [.ref rlA, .int lnn])), (rlA, .inl (K, 41, .inl rlf)), (tm, .inr (4, [.ref tmA, .int (nI tn)])), (tmA, .inl (K, 41, .inl tf))]) (wr := []) (tc := [(K, .int)]) hG hS hA hK hP hD [0, 1, 2, 3, 4, 5, 6] [] [0] rfl rfl (by decide) (by decide) (by decide) rfl
  refine k_endi (As := [.ref re, .ref tm, .int 0, .int to]) ct (k_runV (As := [.ref tm, .int 0, .int to]) (rest := []) S0 Lv_X3_23 rfl (ci := 3) (q0 := 0) rfl rfl ct (c_failureOf l D re rd nd rl ldi sot tie ff ft rdA rn K rg rlA lnn rlf tm tmA tn tf 0 to (by first | assumption | omega) s.heap.size) hl.1 rfl (Nat.le_of_ble_eq_true rfl) rfl dX3_resultOf_4 ⟨⟨Nat.le_of_ble_eq_true rfl, Nat.le_of_ble_eq_true rfl⟩, Nat.le_of_ble_eq_true rfl, Nat.le_of_ble_eq_true rfl⟩) rfl rfl (fun ra u H locs hw_8 hP hD hK hS => ?_)
  obtain ⟨nd1v_1, ldi1v_2, sot1v_3, tie1v_4, ff1v_5, ft1v_6, n1v_7⟩ := u
  have hK : va_K D vwCl [(K, .int)] s := hK
  have hP : va_P D vwCl [(re, .inr (3, [.ref rd, .int nd1v_1, .ref rl, .int ldi1v_2, .int sot1v_3, .int tie1v_4, .int ff1v_5, .int ft1v_6])), (rd, .inr (4, [.ref rdA, .int (nI n1v_7)])), (rdA, .inl (K, 9, .inl (cpy (nrD tn (lnF tn tf 0)) rg n1v_7))), (rl, .inr (4, [.ref rlA, .int (nI tn)])), (rlA, .inl (K, 41, .inl (cpy (lnF tn tf 0) rlf tn))), (tm, .inr (4, [.ref tmA, .int (nI tn)])), (tmA, .inl (K, 41, .inl tf))] H := hP
  have hD : va_D A [(re, .inr (3, [.ref rd, .int nd1v_1, .ref rl, .int ldi1v_2, .int sot1v_3, .int tie1v_4, .int ff1v_5, .int ft1v_6])), (rd, .inr (4, [.ref rdA, .int (nI n1v_7)])), (rdA, .inl (K, 9, .inl (cpy (nrD tn (lnF tn tf 0)) rg n1v_7))), (rl, .inr (4, [.ref rlA, .int (nI tn)])), (rlA, .inl (K, 41, .inl (cpy (lnF tn tf 0) rlf tn))), (tm, .inr (4, [.ref tmA, .int (nI tn)])), (tmA, .inl (K, 41, .inl tf))] := hD
  have hw_8 : ra = failF tn (lnF tn tf 0) to ∧ n1v_7 ≤ 9 ∧ (ra = 0 → n1v_7 = dgc tn) ∧ (¬ ra = 0 → fcert tn (lnF tn tf 0) to ff1v_5 ft1v_6) := hw_8
  refine lv_istore_n (lv' := [(3, .int ra), (0, .ref re), (1, .ref tm), (2, .int to)]) hx hb dX3_resultOf_7 rfl hl (by decide) rfl (fun ls hl => ?_)
  refine lv_iload_n hx hb dX3_resultOf_8 rfl (lv_at hl 0 rfl) ?_
  refine lv_if_ne (tgt := 14) hx hb dX3_resultOf_9 (by decide) (fun c_9 => ?_) (fun c_9 => ?_)
  · have hc9 := c_9
    refine lv_aload_n hx hb dX3_resultOf_14 rfl (lv_at hl 1 rfl) ?_
    refine lv_aload_n hx hb dX3_resultOf_15 rfl (lv_at hl 2 rfl) ?_
    refine lv_iconst (v := 1) hx hb dX3_resultOf_16 (by decide) ?_
    refine lv_iload_n hx hb dX3_resultOf_17 rfl (lv_at hl 3 rfl) ?_
    have ct := k_cut_of (wc := [(re, .inr (3, [.ref rd, .int nd1v_1, .ref rl, .int ldi1v_2, .int sot1v_3, .int tie1v_4, .int ff1v_5, .int ft1v_6])), (rd, .inr (4, [.ref rdA, .int (nI n1v_7)])), (rdA, .inl (K, 9, .inl (cpy (nrD tn (lnF tn tf 0)) rg n1v_7))), (rl, .inr (4, [.ref rlA, .int (nI tn)])), (rlA, .inl (K, 41, .inl (cpy (lnF tn tf 0) rlf tn))), (tm, .inr (4, [.ref tmA, .int (nI tn)])), (tmA, .inl (K, 41, .inl tf))]) (wr := []) (tc := [(K, .int)]) hG hS hA hK hP hD [0, 1, 2, 3, 4, 5, 6] [] [0] rfl rfl (by decide) (by decide) (by decide) rfl
    refine k_endi (As := [.ref re, .ref tm, .int 1, .int to]) ct (k_runV (As := [.ref tm, .int 1, .int to]) (rest := []) S0 Lv_X3_23 rfl (ci := 3) (q0 := 0) rfl rfl ct (c_failureOf l D re rd nd1v_1 rl ldi1v_2 sot1v_3 tie1v_4 ff1v_5 ft1v_6 rdA (nI n1v_7) K (cpy (nrD tn (lnF tn tf 0)) rg n1v_7) rlA (nI tn) (cpy (lnF tn tf 0) rlf tn) tm tmA tn tf 1 to (by first | assumption | omega) H.size) hl.1 rfl (Nat.le_of_ble_eq_true rfl) rfl dX3_resultOf_18 ⟨⟨Nat.le_of_ble_eq_true rfl, Nat.le_of_ble_eq_true rfl⟩, Nat.le_of_ble_eq_true rfl, Nat.le_of_ble_eq_true rfl⟩) rfl rfl (fun rb u H locs hw_17 hP hD hK hS => ?_)
    obtain ⟨nd1v_10, ldi1v_11, sot1v_12, tie1v_13, ff1v_14, ft1v_15, n1v_16⟩ := u
    have hK : va_K D vwCl [(K, .int)] s := hK
    have hP : va_P D vwCl [(re, .inr (3, [.ref rd, .int nd1v_10, .ref rl, .int ldi1v_11, .int sot1v_12, .int tie1v_13, .int ff1v_14, .int ft1v_15])), (rd, .inr (4, [.ref rdA, .int (nI n1v_16)])), (rdA, .inl (K, 9, .inl (cpy (nrD tn (lnF tn tf 1)) (cpy (nrD tn (lnF tn tf 0)) rg n1v_7) n1v_16))), (rl, .inr (4, [.ref rlA, .int (nI tn)])), (rlA, .inl (K, 41, .inl (cpy (lnF tn tf 1) (cpy (lnF tn tf 0) rlf tn) tn))), (tm, .inr (4, [.ref tmA, .int (nI tn)])), (tmA, .inl (K, 41, .inl tf))] H := hP
    have hD : va_D A [(re, .inr (3, [.ref rd, .int nd1v_10, .ref rl, .int ldi1v_11, .int sot1v_12, .int tie1v_13, .int ff1v_14, .int ft1v_15])), (rd, .inr (4, [.ref rdA, .int (nI n1v_16)])), (rdA, .inl (K, 9, .inl (cpy (nrD tn (lnF tn tf 1)) (cpy (nrD tn (lnF tn tf 0)) rg n1v_7) n1v_16))), (rl, .inr (4, [.ref rlA, .int (nI tn)])), (rlA, .inl (K, 41, .inl (cpy (lnF tn tf 1) (cpy (lnF tn tf 0) rlf tn) tn))), (tm, .inr (4, [.ref tmA, .int (nI tn)])), (tmA, .inl (K, 41, .inl tf))] := hD
    have hw_17 : rb = failF tn (lnF tn tf 1) to ∧ n1v_16 ≤ 9 ∧ (rb = 0 → n1v_16 = dgc tn) ∧ (¬ rb = 0 → fcert tn (lnF tn tf 1) to ff1v_14 ft1v_15) := hw_17
    refine lv_istore (lv' := [(4, .int rb), (3, .int ra), (0, .ref re), (1, .ref tm), (2, .int to)]) hx hb dX3_resultOf_21 hl (by decide) rfl (fun ls hl => ?_)
    refine lv_iload hx hb dX3_resultOf_23 (lv_at hl 0 rfl) ?_
    refine lv_if_ne (tgt := 32) hx hb dX3_resultOf_25 (by decide) (fun c_18 => ?_) (fun c_18 => ?_)
    · have hc9 := c_18
      refine lv_iload_n hx hb dX3_resultOf_32 rfl (lv_at hl 1 rfl) ?_
      refine lv_iload hx hb dX3_resultOf_33 (lv_at hl 0 rfl) ?_
      refine va_mmax hx hb (by rw [hml]; exact hl.1.symm) hown (ht _ lM_X3_27) (ht _ lM_st_max) (ht _ li_java_lang_Math) (ht _ lM_code_max) (Nat.le_of_ble_eq_true rfl) (Nat.le_of_ble_eq_true rfl) (Nat.le_of_ble_eq_true rfl) (Nat.le_of_ble_eq_true rfl) dX3_resultOf_35 ?_
      refine k_nrm (y := (mxI ra rb)) (rfl) ?_
      have hP9 : va_P D vwCl [(re, .inr (3, [.ref rd, .int nd1v_10, .ref rl, .int ldi1v_11, .int sot1v_12, .int tie1v_13, .int ff1v_14, .int ft1v_15])), (rd, .inr (4, [.ref rdA, .int (nI n1v_16)])), (rdA, .inl (K, 9, .inl (cpy (nrD tn (lnF tn tf 1)) (cpy (nrD tn (lnF tn tf 0)) rg n1v_7) n1v_16))), (rl, .inr (4, [.ref rlA, .int (nI tn)])), (rlA, .inl (K, 41, .inl (cpy (lnF tn tf 1) (cpy (lnF tn tf 0) rlf tn) tn))), (tm, .inr (4, [.ref tmA, .int (nI tn)])), (tmA, .inl (K, 41, .inl tf))] H := hP.sub [0, 1, 2, 3, 4, 5, 6] rfl
      have hD9 : va_D A [(re, .inr (3, [.ref rd, .int nd1v_10, .ref rl, .int ldi1v_11, .int sot1v_12, .int tie1v_13, .int ff1v_14, .int ft1v_15])), (rd, .inr (4, [.ref rdA, .int (nI n1v_16)])), (rdA, .inl (K, 9, .inl (cpy (nrD tn (lnF tn tf 1)) (cpy (nrD tn (lnF tn tf 0)) rg n1v_7) n1v_16))), (rl, .inr (4, [.ref rlA, .int (nI tn)])), (rlA, .inl (K, 41, .inl (cpy (lnF tn tf 1) (cpy (lnF tn tf 0) rlf tn) tn))), (tm, .inr (4, [.ref tmA, .int (nI tn)])), (tmA, .inl (K, 41, .inl tf))] := hD.sub [0, 1, 2, 3, 4, 5, 6] (by decide) rfl
      have hK9 : va_K D vwCl [] s := hK.sub [] rfl
      exact W.iret (v := (mxI ra rb)) hx hb hr (fun t ht9 hW9 => ⟨⟨(mxI ra rb), (nd1v_10, ldi1v_11, sot1v_12, tie1v_13, ff1v_14, ft1v_15, n1v_16, (cpy (nrD tn (lnF tn tf 1)) (cpy (nrD tn (lnF tn tf 0)) rg n1v_7) n1v_16), (cpy (lnF tn tf 1) (cpy (lnF tn tf 0) rlf tn) tn)), rfl, by (exact ⟨by unfold resF; rw [← hw_8.1, ← hw_17.1, if_neg c_9, if_neg c_18], hw_17.2.1, fun q9 => absurd q9 (mx_pos (by rw [hw_8.1]; exact failF_in _ _ _) (by rw [hw_17.1]; exact failF_in _ _ _) c_9 c_18).1, fun q9 => absurd q9 (mx_pos (by rw [hw_8.1]; exact failF_in _ _ _) (by rw [hw_17.1]; exact failF_in _ _ _) c_9 c_18).2⟩), ⟨by rw [ht9]; exact hP9, va_K.moved hW9.alike hK9, hD9⟩⟩, hS.F ht9⟩) hS.2.2 dX3_resultOf_38
    · have hc9 := c_18
      refine lv_iconst (v := (-1)) hx hb dX3_resultOf_28 (by decide) ?_
      refine lv_goto (tgt := 38) hx hb dX3_resultOf_29 (by decide) ?_
      have hP9 : va_P D vwCl [(re, .inr (3, [.ref rd, .int nd1v_10, .ref rl, .int ldi1v_11, .int sot1v_12, .int tie1v_13, .int ff1v_14, .int ft1v_15])), (rd, .inr (4, [.ref rdA, .int (nI n1v_16)])), (rdA, .inl (K, 9, .inl (cpy (nrD tn (lnF tn tf 1)) (cpy (nrD tn (lnF tn tf 0)) rg n1v_7) n1v_16))), (rl, .inr (4, [.ref rlA, .int (nI tn)])), (rlA, .inl (K, 41, .inl (cpy (lnF tn tf 1) (cpy (lnF tn tf 0) rlf tn) tn))), (tm, .inr (4, [.ref tmA, .int (nI tn)])), (tmA, .inl (K, 41, .inl tf))] H := hP.sub [0, 1, 2, 3, 4, 5, 6] rfl
      have hD9 : va_D A [(re, .inr (3, [.ref rd, .int nd1v_10, .ref rl, .int ldi1v_11, .int sot1v_12, .int tie1v_13, .int ff1v_14, .int ft1v_15])), (rd, .inr (4, [.ref rdA, .int (nI n1v_16)])), (rdA, .inl (K, 9, .inl (cpy (nrD tn (lnF tn tf 1)) (cpy (nrD tn (lnF tn tf 0)) rg n1v_7) n1v_16))), (rl, .inr (4, [.ref rlA, .int (nI tn)])), (rlA, .inl (K, 41, .inl (cpy (lnF tn tf 1) (cpy (lnF tn tf 0) rlf tn) tn))), (tm, .inr (4, [.ref tmA, .int (nI tn)])), (tmA, .inl (K, 41, .inl tf))] := hD.sub [0, 1, 2, 3, 4, 5, 6] (by decide) rfl
      have hK9 : va_K D vwCl [] s := hK.sub [] rfl
      exact W.iret (v := (-1)) hx hb hr (fun t ht9 hW9 => ⟨⟨(-1), (nd1v_10, ldi1v_11, sot1v_12, tie1v_13, ff1v_14, ft1v_15, n1v_16, (cpy (nrD tn (lnF tn tf 1)) (cpy (nrD tn (lnF tn tf 0)) rg n1v_7) n1v_16), (cpy (lnF tn tf 1) (cpy (lnF tn tf 0) rlf tn) tn)), rfl, by (exact ⟨by unfold resF; rw [← hw_8.1, ← hw_17.1, if_neg c_9, if_pos c_18], hw_17.2.1, fun q9 => absurd q9 (by decide), fun _ => ⟨hw_17.2.2.1 c_18, fun m9 h9 => cpy_lt h9⟩⟩), ⟨by rw [ht9]; exact hP9, va_K.moved hW9.alike hK9, hD9⟩⟩, hS.F ht9⟩) hS.2.2 dX3_resultOf_38
  · have hc9 := c_9
    refine lv_iconst (v := 0) hx hb dX3_resultOf_12 (by decide) ?_
    have hP9 : va_P D vwCl [(re, .inr (3, [.ref rd, .int nd1v_1, .ref rl, .int ldi1v_2, .int sot1v_3, .int tie1v_4, .int ff1v_5, .int ft1v_6])), (rd, .inr (4, [.ref rdA, .int (nI n1v_7)])), (rdA, .inl (K, 9, .inl (cpy (nrD tn (lnF tn tf 0)) rg n1v_7))), (rl, .inr (4, [.ref rlA, .int (nI tn)])), (rlA, .inl (K, 41, .inl (cpy (lnF tn tf 0) rlf tn))), (tm, .inr (4, [.ref tmA, .int (nI tn)])), (tmA, .inl (K, 41, .inl tf))] H := hP.sub [0, 1, 2, 3, 4, 5, 6] rfl
    have hD9 : va_D A [(re, .inr (3, [.ref rd, .int nd1v_1, .ref rl, .int ldi1v_2, .int sot1v_3, .int tie1v_4, .int ff1v_5, .int ft1v_6])), (rd, .inr (4, [.ref rdA, .int (nI n1v_7)])), (rdA, .inl (K, 9, .inl (cpy (nrD tn (lnF tn tf 0)) rg n1v_7))), (rl, .inr (4, [.ref rlA, .int (nI tn)])), (rlA, .inl (K, 41, .inl (cpy (lnF tn tf 0) rlf tn))), (tm, .inr (4, [.ref tmA, .int (nI tn)])), (tmA, .inl (K, 41, .inl tf))] := hD.sub [0, 1, 2, 3, 4, 5, 6] (by decide) rfl
    have hK9 : va_K D vwCl [] s := hK.sub [] rfl
    exact W.iret (v := 0) hx hb hr (fun t ht9 hW9 => ⟨⟨0, (nd1v_1, ldi1v_2, sot1v_3, tie1v_4, ff1v_5, ft1v_6, n1v_7, (cpy (nrD tn (lnF tn tf 0)) rg n1v_7), (cpy (lnF tn tf 0) rlf tn)), rfl, by (exact ⟨by unfold resF; rw [← hw_8.1, if_pos c_9], hw_8.2.1, fun _ => ⟨hw_8.2.2.1 c_9, fun m9 h9 => cpy_lt h9⟩, fun q9 => absurd q9 (by decide)⟩), ⟨by rw [ht9]; exact hP9, va_K.moved hW9.alike hK9, hD9⟩⟩, hS.F ht9⟩) hS.2.2 dX3_resultOf_13
