set_option maxRecDepth 20000 in
theorem lk_X8_command : Cond.code yX8_command cX8_command 2 (some .char) ∈ wsA := mA 1069 rfl rfl
theorem ly_X8_command : k_y yX8_command 0 := ⟨by decide +kernel, by decide +kernel, by decide +kernel⟩
set_option maxRecDepth 20000 in
theorem lm_X8_command : Cond.instanceMethod yX8_command ∈ wsA := mA 1068 rfl rfl
theorem le_X8_command : Cond.selects (yX8_command).cls yX8_command yX8_command ∈ wsA := mS 47 rfl rfl
set_option maxRecDepth 20000 in
theorem Lv_X8_179 : k_LV RX8 179 yX8_command cX8_command 2 (some .char) 0 := ⟨mA 1066 rfl rfl, lm_X8_command, le_X8_command, li_BarcodeWandModel, lk_X8_command, ly_X8_command⟩
set_option maxRecDepth 20000 in
theorem lk_X8_error : Cond.code yX8_error cX8_error 1 (some .int) ∈ wsA := mA 1065 rfl rfl
theorem ly_X8_error : k_y yX8_error 0 := ⟨by decide +kernel, by decide +kernel, by decide +kernel⟩
set_option maxRecDepth 20000 in
theorem lm_X8_error : Cond.instanceMethod yX8_error ∈ wsA := mA 1064 rfl rfl
theorem le_X8_error : Cond.selects (yX8_error).cls yX8_error yX8_error ∈ wsA := mS 46 rfl rfl
set_option maxRecDepth 20000 in
theorem Lv_X8_183 : k_LV RX8 183 yX8_error cX8_error 1 (some .int) 0 := ⟨mA 1062 rfl rfl, lm_X8_error, le_X8_error, li_BarcodeWandModel, lk_X8_error, ly_X8_error⟩
theorem dX8_error_0 : decode cX8_error 0 = .ok (.aload_n 0, 1) := by decide +kernel
theorem dX8_error_1 : decode cX8_error 1 = .ok (.iconst 0, 1) := by decide +kernel
theorem dX8_error_2 : decode cX8_error 2 = .ok (.putfield 150, 3) := by decide +kernel
theorem dX8_error_5 : decode cX8_error 5 = .ok (.aload_n 0, 1) := by decide +kernel
theorem dX8_error_6 : decode cX8_error 6 = .ok (.invokevirtual 179, 3) := by decide +kernel
theorem dX8_error_9 : decode cX8_error 9 = .ok (.bipush 32, 2) := by decide +kernel
theorem dX8_error_11 : decode cX8_error 11 = .ok (.if_icmp .eq 30, 3) := by decide +kernel
theorem dX8_error_14 : decode cX8_error 14 = .ok (.aload_n 0, 1) := by decide +kernel
theorem dX8_error_15 : decode cX8_error 15 = .ok (.getfield 150, 3) := by decide +kernel
theorem dX8_error_18 : decode cX8_error 18 = .ok (.aload_n 0, 1) := by decide +kernel
theorem dX8_error_19 : decode cX8_error 19 = .ok (.getfield 147, 3) := by decide +kernel
theorem dX8_error_22 : decode cX8_error 22 = .ok (.if_icmp .ne 5, 3) := by decide +kernel
theorem dX8_error_25 : decode cX8_error 25 = .ok (.iconst (-1), 1) := by decide +kernel
theorem dX8_error_26 : decode cX8_error 26 = .ok (.ireturn, 1) := by decide +kernel
theorem dX8_error_27 : decode cX8_error 27 = .ok (.aload_n 0, 1) := by decide +kernel
theorem dX8_error_28 : decode cX8_error 28 = .ok (.bipush 59, 2) := by decide +kernel
theorem dX8_error_30 : decode cX8_error 30 = .ok (.invokevirtual 165, 3) := by decide +kernel
theorem dX8_error_33 : decode cX8_error 33 = .ok (.ifCond .ne (-28), 3) := by decide +kernel
theorem dX8_error_36 : decode cX8_error 36 = .ok (.aload_n 0, 1) := by decide +kernel
theorem dX8_error_37 : decode cX8_error 37 = .ok (.getfield 150, 3) := by decide +kernel
theorem dX8_error_40 : decode cX8_error 40 = .ok (.ireturn, 1) := by decide +kernel
theorem dX8_error_41 : decode cX8_error 41 = .ok (.aload_n 0, 1) := by decide +kernel
theorem dX8_error_42 : decode cX8_error 42 = .ok (.getfield 150, 3) := by decide +kernel
theorem dX8_error_45 : decode cX8_error 45 = .ok (.ireturn, 1) := by decide +kernel
theorem dX8_firstError_0 : decode cX8_firstError 0 = .ok (.aload_n 0, 1) := by decide +kernel
theorem dX8_firstError_1 : decode cX8_firstError 1 = .ok (.iconst 0, 1) := by decide +kernel
theorem dX8_firstError_2 : decode cX8_firstError 2 = .ok (.putfield 23, 3) := by decide +kernel
theorem dX8_firstError_5 : decode cX8_firstError 5 = .ok (.aload_n 0, 1) := by decide +kernel
theorem dX8_firstError_6 : decode cX8_firstError 6 = .ok (.invokevirtual 183, 3) := by decide +kernel
theorem dX8_firstError_9 : decode cX8_firstError 9 = .ok (.istore_n 1, 1) := by decide +kernel
theorem dX8_firstError_10 : decode cX8_firstError 10 = .ok (.iload_n 1, 1) := by decide +kernel
theorem dX8_firstError_11 : decode cX8_firstError 11 = .ok (.iconst (-1), 1) := by decide +kernel
theorem dX8_firstError_12 : decode cX8_firstError 12 = .ok (.if_icmp .ne 10, 3) := by decide +kernel
theorem dX8_firstError_15 : decode cX8_firstError 15 = .ok (.aload_n 0, 1) := by decide +kernel
theorem dX8_firstError_16 : decode cX8_firstError 16 = .ok (.getfield 147, 3) := by decide +kernel
theorem dX8_firstError_19 : decode cX8_firstError 19 = .ok (.goto 4, 3) := by decide +kernel
theorem dX8_firstError_22 : decode cX8_firstError 22 = .ok (.iload_n 1, 1) := by decide +kernel
theorem dX8_firstError_23 : decode cX8_firstError 23 = .ok (.ireturn, 1) := by decide +kernel
set_option maxHeartbeats 4000000 in
set_option maxRecDepth 100000 in
theorem c_M_error (l : Launch) (D : va_G) (mo : Nat) (ms : Nat) (sv : Int32) (mb : Nat) (ty : Nat) (th : Int32) (mk : Nat) (ml : Int32) (mfd : Nat) (mf : Int32) (sp : Int32) (on : Int32) (tw : Int32) (KC : ClassId) (bf : Nat → Int32) (tx : Nat → Int32) (hcf : ∀ j9, j9 < ty → bf j9 = tx j9) (hty : ty ≤ 60) (sz : Nat) : k_Mi (S := Int32 × Int32 × Int32) l D yX8_error cX8_error 1 (some .int) 5 0 0 110 [.ref mo] [(mo, .inr (8, [.ref ms, .int sv, .ref mb, .int (nI ty), .int th, .ref mk, .int ml, .ref mfd, .int mf, .int sp, .int on, .int tw])), (mb, .inl (KC, 60, .inl bf))] [(KC, .char)] (fun (r : Int32) (u : Int32 × Int32 × Int32) => match u with | (spx, on1, tw1) => ERR tx ty r) (fun u => match u with | (spx, on1, tw1) => [(mo, .inr (8, [.ref ms, .int sv, .ref mb, .int (nI ty), .int th, .ref mk, .int ml, .ref mfd, .int mf, .int spx, .int on1, .int tw1])), (mb, .inl (KC, 60, .inl bf))]) (fun u => match u with | (spx, on1, tw1) => []) sz := by
  refine Met.ofW (cc := cX8_error) (maxL := 1) (ret := (some .int)) (by decide) rfl ?_
  intro p e s m args below meth c s₁ B hml hv
  obtain ⟨rfl, hsz, hP, hK, hD0, hG⟩ := hv
  have hx := B.exec
  have hb := B.bytes
  have hr := B.returns
  have ht : ∀ v9 ∈ wsA, v9.before ([.ref mo] : List Value).toArray s = true := fun v9 h9 => atoms_spec (ws := k_ws yX8_error cX8_error 1 (some .int)) B.pre v9 (List.mem_cons_of_mem _ h9)
  have hown : s.vm.findClass RX8 = some m.cls := findClass_of_methodNamed B.named
  have S0 : k_C p s m ([.ref mo] : List Value).toArray c cX8_error 1 RX8 := ⟨hx, hb, hml, hown, ht⟩
  have hlocks := B.notSynchronized
  subst hsz
  have hD := hD0.self (sz := s.heap.size)
  generalize hAe : va_A [(mo, .inr (8, [.ref ms, .int sv, .ref mb, .int (nI ty), .int th, .ref mk, .int ml, .ref mfd, .int mf, .int sp, .int on, .int tw])), (mb, .inl (KC, 60, .inl bf))] s.heap.size = A at hD hG ⊢
  have hA : ∀ q : Nat, s.heap.size ≤ q → A q := fun q h => by rw [← hAe]; exact Or.inr h
  have hS : va_S A s.heap s.heap [] := va_S.rf
  have hl := lv_entry ([.ref mo]) (n := 1) (Nat.le_of_ble_eq_true rfl)
  rw [lg_entry_eq]
  generalize (lg_sl ([.ref mo]) ++ List.replicate (1 - (lg_sl ([.ref mo])).length) Slot.unset).toArray = ls at hl ⊢
  have hl : lv_has ls 1 [(0, .ref mo)] := hl
  have hP : va_P D vwCl [(mo, .inr (8, [.ref ms, .int sv, .ref mb, .int (nI ty), .int th, .ref mk, .int ml, .ref mfd, .int mf, .int sp, .int on, .int tw])), (mb, .inl (KC, 60, .inl bf))] s.heap := hP
  refine lv_aload_n hx hb dX8_error_0 rfl (lv_at hl 0 rfl) ?_
  refine lv_iconst (v := 0) hx hb dX8_error_1 (by decide) ?_
  refine va_put (D := D) (ci := 8) (v := .int 0) (ty := .int) (C := RX8) (T := TX8) (N := 12) hx hb ht inA_X8 tyX8 tyX8_ok nmX8 hown hK hP hD hS 0 rfl rfl 9 (by decide) (ht _ lf_X8_150) (fun _ h9 => h9) rfl (tyX8_ok 9 (by decide)) rfl rfl (Nat.le_of_ble_eq_true rfl) dX8_error_2 (fun H locs hP hD hS => ?_)
  have hP : va_P D vwCl [(mo, .inr (8, [.ref ms, .int sv, .ref mb, .int (nI ty), .int th, .ref mk, .int ml, .ref mfd, .int mf, .int 0, .int on, .int tw])), (mb, .inl (KC, 60, .inl bf))] H := hP
  have hD : va_D A [(mo, .inr (8, [.ref ms, .int sv, .ref mb, .int (nI ty), .int th, .ref mk, .int ml, .ref mfd, .int mf, .int 0, .int on, .int tw])), (mb, .inl (KC, 60, .inl bf))] := hD
  have hf_1 : (0 : Int32) = (nI 0) := rfl
  have hP : va_P D vwCl [(mo, .inr (8, [.ref ms, .int sv, .ref mb, .int (nI ty), .int th, .ref mk, .int ml, .ref mfd, .int mf, .int (nI 0), .int on, .int tw])), (mb, .inl (KC, 60, .inl bf))] H := (congrArg (fun z9 : Int32 => va_P D vwCl [(mo, .inr (8, [.ref ms, .int sv, .ref mb, .int (nI ty), .int th, .ref mk, .int ml, .ref mfd, .int mf, .int z9, .int on, .int tw])), (mb, .inl (KC, 60, .inl bf))] H) hf_1).mp hP
  have hD : va_D A [(mo, .inr (8, [.ref ms, .int sv, .ref mb, .int (nI ty), .int th, .ref mk, .int ml, .ref mfd, .int mf, .int (nI 0), .int on, .int tw])), (mb, .inl (KC, 60, .inl bf))] := (congrArg (fun z9 : Int32 => va_D A [(mo, .inr (8, [.ref ms, .int sv, .ref mb, .int (nI ty), .int th, .ref mk, .int ml, .ref mfd, .int mf, .int z9, .int on, .int tw])), (mb, .inl (KC, 60, .inl bf))]) hf_1).mp hD
  refine k_loop (ι := Nat × Int32 × Int32) (fun (x9 : Nat × Int32 × Int32) H9 locs9 ls9 => match x9 with | (i, oq, tq) => (i ≤ ty) ∧ (∃ g, itA tx g0 i = some g ∧ q_p g = 0) ∧ va_P D vwCl [(mo, .inr (8, [.ref ms, .int sv, .ref mb, .int (nI ty), .int th, .ref mk, .int ml, .ref mfd, .int mf, .int (nI i), .int oq, .int tq])), (mb, .inl (KC, 60, .inl bf))] H9 ∧ va_D A [(mo, .inr (8, [.ref ms, .int sv, .ref mb, .int (nI ty), .int th, .ref mk, .int ml, .ref mfd, .int mf, .int (nI i), .int oq, .int tq])), (mb, .inl (KC, 60, .inl bf))] ∧ va_S A s.heap H9 locs9 ∧ lv_has ls9 1 [(0, .ref mo)]) (fun (x9 : Nat × Int32 × Int32) => match x9 with | (i, oq, tq) => ty + 1 - i) ?_ ((0, on, tw)) ⟨(Nat.zero_le _), (⟨g0, rfl, rfl⟩), hP.sub [0, 1] rfl, hD.sub [0, 1] (by decide) rfl, hS, lv_sub hl [0] rfl⟩
  intro x9 H locs ls hF9 ih9
  obtain ⟨i, oq, tq⟩ := x9
  obtain ⟨hit, hg, hP, hD, hS, hl⟩ := hF9
  try dsimp only at ih9
  have hP : va_P D vwCl [(mo, .inr (8, [.ref ms, .int sv, .ref mb, .int (nI ty), .int th, .ref mk, .int ml, .ref mfd, .int mf, .int (nI i), .int oq, .int tq])), (mb, .inl (KC, 60, .inl bf))] H := hP
  have hD : va_D A [(mo, .inr (8, [.ref ms, .int sv, .ref mb, .int (nI ty), .int th, .ref mk, .int ml, .ref mfd, .int mf, .int (nI i), .int oq, .int tq])), (mb, .inl (KC, 60, .inl bf))] := hD
  have hl : lv_has ls 1 [(0, .ref mo)] := hl
  refine lv_aload_n hx hb dX8_error_5 rfl (lv_at hl 0 rfl) ?_
  have ct := k_cut_of (wc := [(mo, .inr (8, [.ref ms, .int sv, .ref mb, .int (nI ty), .int th, .ref mk, .int ml, .ref mfd, .int mf, .int (nI i), .int oq, .int tq])), (mb, .inl (KC, 60, .inl bf))]) (wr := []) (tc := [(KC, .char)]) hG hS hA hK hP hD [0, 1] [] [0] rfl rfl (by decide) (by decide) (by decide) rfl
  refine k_endi (As := [.ref mo]) ct (k_runV (As := []) (rest := []) S0 Lv_X8_179 rfl (ci := 8) (q0 := 0) rfl rfl ct (c_M_command l D mo ms sv mb ty th mk ml mfd mf i oq tq KC bf tx (by assumption) (by first | assumption | omega) (by first | assumption | omega) H.size) hl.1 rfl (Nat.le_of_ble_eq_true rfl) rfl dX8_error_6 ⟨⟨Nat.le_of_ble_eq_true rfl, Nat.le_of_ble_eq_true rfl⟩, Nat.le_of_ble_eq_true rfl, Nat.le_of_ble_eq_true rfl⟩) rfl rfl (fun Lx u H locs hw_2 hP hD hK hS => ?_)
  obtain ⟨jx, ox, wx⟩ := u
  have hK : va_K D vwCl [(KC, .char)] s := hK
  have hP : va_P D vwCl [(mo, .inr (8, [.ref ms, .int sv, .ref mb, .int (nI ty), .int th, .ref mk, .int ml, .ref mfd, .int mf, .int (nI jx), .int ox, .int wx])), (mb, .inl (KC, 60, .inl bf))] H := hP
  have hD : va_D A [(mo, .inr (8, [.ref ms, .int sv, .ref mb, .int (nI ty), .int th, .ref mk, .int ml, .ref mfd, .int mf, .int (nI jx), .int ox, .int wx])), (mb, .inl (KC, 60, .inl bf))] := hD
  have hw_2 : CMD tx ty i Lx jx ox wx := hw_2
  have hjx := CMD_le hw_2 hit
  refine lv_bipush (v := 32) hx hb dX8_error_9 (by decide) ?_
  refine lv_icmp_eq (tgt := 41) hx hb dX8_error_11 (by decide) (fun c_3 => ?_) (fun c_3 => ?_)
  · have hc9 := c_3
    refine lv_aload_n hx hb dX8_error_41 rfl (lv_at hl 0 rfl) ?_
    refine va_get (D := D) (ci := 8) (v := .int (nI jx)) (C := RX8) (T := TX8) (N := 12) hx hb ht inA_X8 hown hK hP 0 rfl rfl 9 (by decide) (ht _ lf_X8_150) (fun _ h9 => h9) rfl dX8_error_42 ?_
    have hP9 : va_P D vwCl [(mo, .inr (8, [.ref ms, .int sv, .ref mb, .int (nI ty), .int th, .ref mk, .int ml, .ref mfd, .int mf, .int (nI jx), .int ox, .int wx])), (mb, .inl (KC, 60, .inl bf))] H := hP.sub [0, 1] rfl
    have hD9 : va_D A [(mo, .inr (8, [.ref ms, .int sv, .ref mb, .int (nI ty), .int th, .ref mk, .int ml, .ref mfd, .int mf, .int (nI jx), .int ox, .int wx])), (mb, .inl (KC, 60, .inl bf))] := hD.sub [0, 1] (by decide) rfl
    have hK9 : va_K D vwCl [] s := hK.sub [] rfl
    exact W.iret (v := (nI jx)) hx hb hr (fun t ht9 hW9 => ⟨⟨(nI jx), ((nI jx), ox, wx), rfl, by (exact err_32 hty hit hg hw_2 c_3), ⟨by rw [ht9]; exact hP9, va_K.moved hW9.alike hK9, hD9⟩⟩, hS.F ht9⟩) hS.2.2 dX8_error_45
  · have hc9 := c_3
    refine lv_aload_n hx hb dX8_error_14 rfl (lv_at hl 0 rfl) ?_
    refine va_get (D := D) (ci := 8) (v := .int (nI jx)) (C := RX8) (T := TX8) (N := 12) hx hb ht inA_X8 hown hK hP 0 rfl rfl 9 (by decide) (ht _ lf_X8_150) (fun _ h9 => h9) rfl dX8_error_15 ?_
    refine lv_aload_n hx hb dX8_error_18 rfl (lv_at hl 0 rfl) ?_
    refine va_get (D := D) (ci := 8) (v := .int (nI ty)) (C := RX8) (T := TX8) (N := 12) hx hb ht inA_X8 hown hK hP 0 rfl rfl 3 (by decide) (ht _ lf_X8_147) (fun _ h9 => h9) rfl dX8_error_19 ?_
    refine lv_icmp_ne (tgt := 27) hx hb dX8_error_22 (by decide) (fun c_4 => ?_) (fun c_4 => ?_)
    · have hc9 := c_4
      refine lv_aload_n hx hb dX8_error_27 rfl (lv_at hl 0 rfl) ?_
      refine lv_bipush (v := 59) hx hb dX8_error_28 (by decide) ?_
      have ct := k_cut_of (wc := [(mo, .inr (8, [.ref ms, .int sv, .ref mb, .int (nI ty), .int th, .ref mk, .int ml, .ref mfd, .int mf, .int (nI jx), .int ox, .int wx])), (mb, .inl (KC, 60, .inl bf))]) (wr := []) (tc := [(KC, .char)]) hG hS hA hK hP hD [0, 1] [] [0] rfl rfl (by decide) (by decide) (by decide) rfl
      refine k_endi (As := [.ref mo, .int 59]) ct (k_runV (As := [.int 59]) (rest := []) S0 Lv_X8_165 rfl (ci := 8) (q0 := 0) rfl rfl ct (c_M_takes l D mo ms sv mb ty th mk ml mfd mf jx ox wx KC bf tx 59 (by assumption) (by first | assumption | omega) (by first | assumption | omega) H.size) hl.1 rfl (Nat.le_of_ble_eq_true rfl) rfl dX8_error_30 ⟨⟨Nat.le_of_ble_eq_true rfl, Nat.le_of_ble_eq_true rfl⟩, Nat.le_of_ble_eq_true rfl, Nat.le_of_ble_eq_true rfl⟩) rfl rfl (fun r_5 sp1v_6 H locs hw_7 hP hD hK hS => ?_)
      have hK : va_K D vwCl [(KC, .char)] s := hK
      have hP : va_P D vwCl [(mo, .inr (8, [.ref ms, .int sv, .ref mb, .int (nI ty), .int th, .ref mk, .int ml, .ref mfd, .int mf, .int (nI sp1v_6), .int ox, .int wx])), (mb, .inl (KC, 60, .inl bf))] H := hP
      have hD : va_D A [(mo, .inr (8, [.ref ms, .int sv, .ref mb, .int (nI ty), .int th, .ref mk, .int ml, .ref mfd, .int mf, .int (nI sp1v_6), .int ox, .int wx])), (mb, .inl (KC, 60, .inl bf))] := hD
      rcases hw_7 with ⟨rfl, rfl, c_8, c_9⟩ | ⟨rfl, he_10, c_11⟩
      · skip
        refine lv_if_ne (tgt := 5) hx hb dX8_error_33 (by decide) (fun _ => ?_) (fun c9 => absurd c9 (by decide))
        exact ih9 ((jx + 1, ox, wx)) H locs ls (by omega) ⟨(by omega), (err_go hg hw_2 c_3 c_9), hP.sub [0, 1] rfl, hD.sub [0, 1] (by decide) rfl, hS, lv_sub hl [0] rfl⟩
      · skip
        have he_10 := he_10.symm
        subst he_10
        refine lv_if_ne (tgt := 5) hx hb dX8_error_33 (by decide) (fun c9 => absurd (by decide) c9) (fun _ => ?_)
        refine lv_aload_n hx hb dX8_error_36 rfl (lv_at hl 0 rfl) ?_
        refine va_get (D := D) (ci := 8) (v := .int (nI jx)) (C := RX8) (T := TX8) (N := 12) hx hb ht inA_X8 hown hK hP 0 rfl rfl 9 (by decide) (ht _ lf_X8_150) (fun _ h9 => h9) rfl dX8_error_37 ?_
        have hP9 : va_P D vwCl [(mo, .inr (8, [.ref ms, .int sv, .ref mb, .int (nI ty), .int th, .ref mk, .int ml, .ref mfd, .int mf, .int (nI jx), .int ox, .int wx])), (mb, .inl (KC, 60, .inl bf))] H := hP.sub [0, 1] rfl
        have hD9 : va_D A [(mo, .inr (8, [.ref ms, .int sv, .ref mb, .int (nI ty), .int th, .ref mk, .int ml, .ref mfd, .int mf, .int (nI jx), .int ox, .int wx])), (mb, .inl (KC, 60, .inl bf))] := hD.sub [0, 1] (by decide) rfl
        have hK9 : va_K D vwCl [] s := hK.sub [] rfl
        exact W.iret (v := (nI jx)) hx hb hr (fun t ht9 hW9 => ⟨⟨(nI jx), ((nI jx), ox, wx), rfl, by (exact err_59 hty hg hw_2 c_3 (fun q9 => c_4 (by rw [q9])) c_11), ⟨by rw [ht9]; exact hP9, va_K.moved hW9.alike hK9, hD9⟩⟩, hS.F ht9⟩) hS.2.2 dX8_error_40
    · have hc9 := c_4
      refine lv_iconst (v := (-1)) hx hb dX8_error_25 (by decide) ?_
      have hP9 : va_P D vwCl [(mo, .inr (8, [.ref ms, .int sv, .ref mb, .int (nI ty), .int th, .ref mk, .int ml, .ref mfd, .int mf, .int (nI jx), .int ox, .int wx])), (mb, .inl (KC, 60, .inl bf))] H := hP.sub [0, 1] rfl
      have hD9 : va_D A [(mo, .inr (8, [.ref ms, .int sv, .ref mb, .int (nI ty), .int th, .ref mk, .int ml, .ref mfd, .int mf, .int (nI jx), .int ox, .int wx])), (mb, .inl (KC, 60, .inl bf))] := hD.sub [0, 1] (by decide) rfl
      have hK9 : va_K D vwCl [] s := hK.sub [] rfl
      exact W.iret (v := (-1)) hx hb hr (fun t ht9 hW9 => ⟨⟨(-1), ((nI jx), ox, wx), rfl, by (exact Or.inl ⟨rfl, err_n1 hg hw_2 c_3 ((nI_eq (by omega) (by omega)).mp c_4)⟩), ⟨by rw [ht9]; exact hP9, va_K.moved hW9.alike hK9, hD9⟩⟩, hS.F ht9⟩) hS.2.2 dX8_error_26
set_option maxHeartbeats 4000000 in
set_option maxRecDepth 100000 in
theorem c_M_firstError (l : Launch) (D : va_G) (mo : Nat) (ms : Nat) (sv : Int32) (mb : Nat) (ty : Nat) (th : Int32) (mk : Nat) (ml : Int32) (mfd : Nat) (mf : Int32) (sp : Int32) (on : Int32) (tw : Int32) (KC : ClassId) (bf : Nat → Int32) (tx : Nat → Int32) (hcf : ∀ j9, j9 < ty → bf j9 = tx j9) (hty : ty ≤ 60) (sz : Nat) : k_Mi (S := Int32 × Int32 × Int32) l D yX8_firstError cX8_firstError 2 (some .int) 6 0 0 130 [.ref mo] [(mo, .inr (8, [.ref ms, .int sv, .ref mb, .int (nI ty), .int th, .ref mk, .int ml, .ref mfd, .int mf, .int sp, .int on, .int tw])), (mb, .inl (KC, 60, .inl bf))] [(KC, .char)] (fun (r : Int32) (u : Int32 × Int32 × Int32) => match u with | (spx, on1, tw1) => FE tx ty r) (fun u => match u with | (spx, on1, tw1) => [(mo, .inr (8, [.ref ms, .int sv, .ref mb, .int (nI ty), .int 0, .ref mk, .int ml, .ref mfd, .int mf, .int spx, .int on1, .int tw1])), (mb, .inl (KC, 60, .inl bf))]) (fun u => match u with | (spx, on1, tw1) => []) sz := by
  refine Met.ofW (cc := cX8_firstError) (maxL := 2) (ret := (some .int)) (by decide) rfl ?_
  intro p e s m args below meth c s₁ B hml hv
  obtain ⟨rfl, hsz, hP, hK, hD0, hG⟩ := hv
  have hx := B.exec
  have hb := B.bytes
  have hr := B.returns
  have ht : ∀ v9 ∈ wsA, v9.before ([.ref mo] : List Value).toArray s = true := fun v9 h9 => atoms_spec (ws := k_ws yX8_firstError cX8_firstError 2 (some .int)) B.pre v9 (List.mem_cons_of_mem _ h9)
  have hown : s.vm.findClass RX8 = some m.cls := findClass_of_methodNamed B.named
  have S0 : k_C p s m ([.ref mo] : List Value).toArray c cX8_firstError 2 RX8 := ⟨hx, hb, hml, hown, ht⟩
  have hlocks := B.notSynchronized
  subst hsz
  have hD := hD0.self (sz := s.heap.size)
  generalize hAe : va_A [(mo, .inr (8, [.ref ms, .int sv, .ref mb, .int (nI ty), .int th, .ref mk, .int ml, .ref mfd, .int mf, .int sp, .int on, .int tw])), (mb, .inl (KC, 60, .inl bf))] s.heap.size = A at hD hG ⊢
  have hA : ∀ q : Nat, s.heap.size ≤ q → A q := fun q h => by rw [← hAe]; exact Or.inr h
  have hS : va_S A s.heap s.heap [] := va_S.rf
  have hl := lv_entry ([.ref mo]) (n := 2) (Nat.le_of_ble_eq_true rfl)
  rw [lg_entry_eq]
  generalize (lg_sl ([.ref mo]) ++ List.replicate (2 - (lg_sl ([.ref mo])).length) Slot.unset).toArray = ls at hl ⊢
  have hl : lv_has ls 2 [(0, .ref mo)] := hl
  have hP : va_P D vwCl [(mo, .inr (8, [.ref ms, .int sv, .ref mb, .int (nI ty), .int th, .ref mk, .int ml, .ref mfd, .int mf, .int sp, .int on, .int tw])), (mb, .inl (KC, 60, .inl bf))] s.heap := hP
  refine lv_aload_n hx hb dX8_firstError_0 rfl (lv_at hl 0 rfl) ?_
  refine lv_iconst (v := 0) hx hb dX8_firstError_1 (by decide) ?_
  refine va_put (D := D) (ci := 8) (v := .int 0) (ty := .int) (C := RX8) (T := TX8) (N := 12) hx hb ht inA_X8 tyX8 tyX8_ok nmX8 hown hK hP hD hS 0 rfl rfl 4 (by decide) (ht _ lf_X8_23) (fun _ h9 => h9) rfl (tyX8_ok 4 (by decide)) rfl rfl (Nat.le_of_ble_eq_true rfl) dX8_firstError_2 (fun H locs hP hD hS => ?_)
  have hP : va_P D vwCl [(mo, .inr (8, [.ref ms, .int sv, .ref mb, .int (nI ty), .int 0, .ref mk, .int ml, .ref mfd, .int mf, .int sp, .int on, .int tw])), (mb, .inl (KC, 60, .inl bf))] H := hP
  have hD : va_D A [(mo, .inr (8, [.ref ms, .int sv, .ref mb, .int (nI ty), .int 0, .ref mk, .int ml, .ref mfd, .int mf, .int sp, .int on, .int tw])), (mb, .inl (KC, 60, .inl bf))] := hD
  refine lv_aload_n hx hb dX8_firstError_5 rfl (lv_at hl 0 rfl) ?_
  have ct := k_cut_of (wc := [(mo, .inr (8, [.ref ms, .int sv, .ref mb, .int (nI ty), .int 0, .ref mk, .int ml, .ref mfd, .int mf, .int sp, .int on, .int tw])), (mb, .inl (KC, 60, .inl bf))]) (wr := []) (tc := [(KC, .char)]) hG hS hA hK hP hD [0, 1] [] [0] rfl rfl (by decide) (by decide) (by decide) rfl
  refine k_endi (As := [.ref mo]) ct (k_runV (As := []) (rest := []) S0 Lv_X8_183 rfl (ci := 8) (q0 := 0) rfl rfl ct (c_M_error l D mo ms sv mb ty 0 mk ml mfd mf sp on tw KC bf tx (by assumption) (by first | assumption | omega) H.size) hl.1 rfl (Nat.le_of_ble_eq_true rfl) rfl dX8_firstError_6 ⟨⟨Nat.le_of_ble_eq_true rfl, Nat.le_of_ble_eq_true rfl⟩, Nat.le_of_ble_eq_true rfl, Nat.le_of_ble_eq_true rfl⟩) rfl rfl (fun r_1 u H locs hw_5 hP hD hK hS => ?_)
  obtain ⟨spx_2, on1v_3, tw1v_4⟩ := u
  have hK : va_K D vwCl [(KC, .char)] s := hK
  have hP : va_P D vwCl [(mo, .inr (8, [.ref ms, .int sv, .ref mb, .int (nI ty), .int 0, .ref mk, .int ml, .ref mfd, .int mf, .int spx_2, .int on1v_3, .int tw1v_4])), (mb, .inl (KC, 60, .inl bf))] H := hP
  have hD : va_D A [(mo, .inr (8, [.ref ms, .int sv, .ref mb, .int (nI ty), .int 0, .ref mk, .int ml, .ref mfd, .int mf, .int spx_2, .int on1v_3, .int tw1v_4])), (mb, .inl (KC, 60, .inl bf))] := hD
  have hw_5 : ERR tx ty r_1 := hw_5
  refine lv_istore_n (lv' := [(1, .int r_1), (0, .ref mo)]) hx hb dX8_firstError_9 rfl hl (by decide) rfl (fun ls hl => ?_)
  refine lv_iload_n hx hb dX8_firstError_10 rfl (lv_at hl 0 rfl) ?_
  refine lv_iconst (v := (-1)) hx hb dX8_firstError_11 (by decide) ?_
  refine lv_icmp_ne (tgt := 22) hx hb dX8_firstError_12 (by decide) (fun c_6 => ?_) (fun c_6 => ?_)
  · have hc9 := c_6
    refine lv_iload_n hx hb dX8_firstError_22 rfl (lv_at hl 0 rfl) ?_
    have hP9 : va_P D vwCl [(mo, .inr (8, [.ref ms, .int sv, .ref mb, .int (nI ty), .int 0, .ref mk, .int ml, .ref mfd, .int mf, .int spx_2, .int on1v_3, .int tw1v_4])), (mb, .inl (KC, 60, .inl bf))] H := hP.sub [0, 1] rfl
    have hD9 : va_D A [(mo, .inr (8, [.ref ms, .int sv, .ref mb, .int (nI ty), .int 0, .ref mk, .int ml, .ref mfd, .int mf, .int spx_2, .int on1v_3, .int tw1v_4])), (mb, .inl (KC, 60, .inl bf))] := hD.sub [0, 1] (by decide) rfl
    have hK9 : va_K D vwCl [] s := hK.sub [] rfl
    exact W.iret (v := r_1) hx hb hr (fun t ht9 hW9 => ⟨⟨r_1, (spx_2, on1v_3, tw1v_4), rfl, by (exact (err_FE hw_5).2 c_6), ⟨by rw [ht9]; exact hP9, va_K.moved hW9.alike hK9, hD9⟩⟩, hS.F ht9⟩) hS.2.2 dX8_firstError_23
  · have hc9 := c_6
    refine lv_aload_n hx hb dX8_firstError_15 rfl (lv_at hl 1 rfl) ?_
    refine va_get (D := D) (ci := 8) (v := .int (nI ty)) (C := RX8) (T := TX8) (N := 12) hx hb ht inA_X8 hown hK hP 0 rfl rfl 3 (by decide) (ht _ lf_X8_147) (fun _ h9 => h9) rfl dX8_firstError_16 ?_
    refine lv_goto (tgt := 23) hx hb dX8_firstError_19 (by decide) ?_
    have hP9 : va_P D vwCl [(mo, .inr (8, [.ref ms, .int sv, .ref mb, .int (nI ty), .int 0, .ref mk, .int ml, .ref mfd, .int mf, .int spx_2, .int on1v_3, .int tw1v_4])), (mb, .inl (KC, 60, .inl bf))] H := hP.sub [0, 1] rfl
    have hD9 : va_D A [(mo, .inr (8, [.ref ms, .int sv, .ref mb, .int (nI ty), .int 0, .ref mk, .int ml, .ref mfd, .int mf, .int spx_2, .int on1v_3, .int tw1v_4])), (mb, .inl (KC, 60, .inl bf))] := hD.sub [0, 1] (by decide) rfl
    have hK9 : va_K D vwCl [] s := hK.sub [] rfl
    exact W.iret (v := (nI ty)) hx hb hr (fun t ht9 hW9 => ⟨⟨(nI ty), (spx_2, on1v_3, tw1v_4), rfl, by (exact (err_FE hw_5).1 c_6), ⟨by rw [ht9]; exact hP9, va_K.moved hW9.alike hK9, hD9⟩⟩, hS.F ht9⟩) hS.2.2 dX8_firstError_23
