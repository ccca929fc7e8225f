
theorem dX8_isLeftGuard_0 : decode cX8_isLeftGuard 0 = .ok (.aload_n 0, 1) := by decide +kernel
theorem dX8_isLeftGuard_1 : decode cX8_isLeftGuard 1 = .ok (.iconst 0, 1) := by decide +kernel
theorem dX8_isLeftGuard_2 : decode cX8_isLeftGuard 2 = .ok (.iload_n 1, 1) := by decide +kernel
theorem dX8_isLeftGuard_3 : decode cX8_isLeftGuard 3 = .ok (.invokevirtual 81, 3) := by decide +kernel
theorem dX8_isLeftGuard_6 : decode cX8_isLeftGuard 6 = .ok (.istore_n 2, 1) := by decide +kernel
theorem dX8_isLeftGuard_7 : decode cX8_isLeftGuard 7 = .ok (.iload_n 2, 1) := by decide +kernel
theorem dX8_isLeftGuard_8 : decode cX8_isLeftGuard 8 = .ok (.istore_n 3, 1) := by decide +kernel
theorem dX8_isLeftGuard_9 : decode cX8_isLeftGuard 9 = .ok (.iconst 1, 1) := by decide +kernel
theorem dX8_isLeftGuard_10 : decode cX8_isLeftGuard 10 = .ok (.istore 4, 2) := by decide +kernel
theorem dX8_isLeftGuard_12 : decode cX8_isLeftGuard 12 = .ok (.iload 4, 2) := by decide +kernel
theorem dX8_isLeftGuard_14 : decode cX8_isLeftGuard 14 = .ok (.iconst 3, 1) := by decide +kernel
theorem dX8_isLeftGuard_15 : decode cX8_isLeftGuard 15 = .ok (.if_icmp .ge 44, 3) := by decide +kernel
theorem dX8_isLeftGuard_18 : decode cX8_isLeftGuard 18 = .ok (.aload_n 0, 1) := by decide +kernel
theorem dX8_isLeftGuard_19 : decode cX8_isLeftGuard 19 = .ok (.iload 4, 2) := by decide +kernel
theorem dX8_isLeftGuard_21 : decode cX8_isLeftGuard 21 = .ok (.iload_n 1, 1) := by decide +kernel
theorem dX8_isLeftGuard_22 : decode cX8_isLeftGuard 22 = .ok (.invokevirtual 81, 3) := by decide +kernel
theorem dX8_isLeftGuard_25 : decode cX8_isLeftGuard 25 = .ok (.istore 5, 2) := by decide +kernel
theorem dX8_isLeftGuard_27 : decode cX8_isLeftGuard 27 = .ok (.iload 5, 2) := by decide +kernel
theorem dX8_isLeftGuard_29 : decode cX8_isLeftGuard 29 = .ok (.iload_n 2, 1) := by decide +kernel
theorem dX8_isLeftGuard_30 : decode cX8_isLeftGuard 30 = .ok (.if_icmp .ge 8, 3) := by decide +kernel
theorem dX8_isLeftGuard_33 : decode cX8_isLeftGuard 33 = .ok (.iload 5, 2) := by decide +kernel
theorem dX8_isLeftGuard_35 : decode cX8_isLeftGuard 35 = .ok (.goto 4, 3) := by decide +kernel
theorem dX8_isLeftGuard_38 : decode cX8_isLeftGuard 38 = .ok (.iload_n 2, 1) := by decide +kernel
theorem dX8_isLeftGuard_39 : decode cX8_isLeftGuard 39 = .ok (.istore_n 2, 1) := by decide +kernel
theorem dX8_isLeftGuard_40 : decode cX8_isLeftGuard 40 = .ok (.iload 5, 2) := by decide +kernel
theorem dX8_isLeftGuard_42 : decode cX8_isLeftGuard 42 = .ok (.iload_n 3, 1) := by decide +kernel
theorem dX8_isLeftGuard_43 : decode cX8_isLeftGuard 43 = .ok (.if_icmp .le 8, 3) := by decide +kernel
theorem dX8_isLeftGuard_46 : decode cX8_isLeftGuard 46 = .ok (.iload 5, 2) := by decide +kernel
theorem dX8_isLeftGuard_48 : decode cX8_isLeftGuard 48 = .ok (.goto 4, 3) := by decide +kernel
theorem dX8_isLeftGuard_51 : decode cX8_isLeftGuard 51 = .ok (.iload_n 3, 1) := by decide +kernel
theorem dX8_isLeftGuard_52 : decode cX8_isLeftGuard 52 = .ok (.istore_n 3, 1) := by decide +kernel
theorem dX8_isLeftGuard_53 : decode cX8_isLeftGuard 53 = .ok (.iinc 4 1, 3) := by decide +kernel
theorem dX8_isLeftGuard_56 : decode cX8_isLeftGuard 56 = .ok (.goto (-44), 3) := by decide +kernel
theorem dX8_isLeftGuard_59 : decode cX8_isLeftGuard 59 = .ok (.iconst 2, 1) := by decide +kernel
theorem dX8_isLeftGuard_60 : decode cX8_isLeftGuard 60 = .ok (.iload_n 3, 1) := by decide +kernel
theorem dX8_isLeftGuard_61 : decode cX8_isLeftGuard 61 = .ok (.imul, 1) := by decide +kernel
theorem dX8_isLeftGuard_62 : decode cX8_isLeftGuard 62 = .ok (.iconst 3, 1) := by decide +kernel
theorem dX8_isLeftGuard_63 : decode cX8_isLeftGuard 63 = .ok (.iload_n 2, 1) := by decide +kernel
theorem dX8_isLeftGuard_64 : decode cX8_isLeftGuard 64 = .ok (.imul, 1) := by decide +kernel
theorem dX8_isLeftGuard_65 : decode cX8_isLeftGuard 65 = .ok (.if_icmp .ge 7, 3) := by decide +kernel
theorem dX8_isLeftGuard_68 : decode cX8_isLeftGuard 68 = .ok (.iconst 1, 1) := by decide +kernel
theorem dX8_isLeftGuard_69 : decode cX8_isLeftGuard 69 = .ok (.goto 4, 3) := by decide +kernel
theorem dX8_isLeftGuard_72 : decode cX8_isLeftGuard 72 = .ok (.iconst 0, 1) := by decide +kernel
theorem dX8_isLeftGuard_73 : decode cX8_isLeftGuard 73 = .ok (.ireturn, 1) := by decide +kernel
theorem dX8_isRightGuard_0 : decode cX8_isRightGuard 0 = .ok (.aload_n 0, 1) := by decide +kernel
theorem dX8_isRightGuard_1 : decode cX8_isRightGuard 1 = .ok (.aload_n 0, 1) := by decide +kernel
theorem dX8_isRightGuard_2 : decode cX8_isRightGuard 2 = .ok (.getfield 78, 3) := by decide +kernel
theorem dX8_isRightGuard_5 : decode cX8_isRightGuard 5 = .ok (.iconst 2, 1) := by decide +kernel
theorem dX8_isRightGuard_6 : decode cX8_isRightGuard 6 = .ok (.isub, 1) := by decide +kernel
theorem dX8_isRightGuard_7 : decode cX8_isRightGuard 7 = .ok (.iload_n 1, 1) := by decide +kernel
theorem dX8_isRightGuard_8 : decode cX8_isRightGuard 8 = .ok (.invokevirtual 81, 3) := by decide +kernel
theorem dX8_isRightGuard_11 : decode cX8_isRightGuard 11 = .ok (.istore_n 2, 1) := by decide +kernel
theorem dX8_isRightGuard_12 : decode cX8_isRightGuard 12 = .ok (.aload_n 0, 1) := by decide +kernel
theorem dX8_isRightGuard_13 : decode cX8_isRightGuard 13 = .ok (.aload_n 0, 1) := by decide +kernel
theorem dX8_isRightGuard_14 : decode cX8_isRightGuard 14 = .ok (.getfield 78, 3) := by decide +kernel
theorem dX8_isRightGuard_17 : decode cX8_isRightGuard 17 = .ok (.iconst 1, 1) := by decide +kernel
theorem dX8_isRightGuard_18 : decode cX8_isRightGuard 18 = .ok (.isub, 1) := by decide +kernel
theorem dX8_isRightGuard_19 : decode cX8_isRightGuard 19 = .ok (.iload_n 1, 1) := by decide +kernel
theorem dX8_isRightGuard_20 : decode cX8_isRightGuard 20 = .ok (.invokevirtual 81, 3) := by decide +kernel
theorem dX8_isRightGuard_23 : decode cX8_isRightGuard 23 = .ok (.istore_n 3, 1) := by decide +kernel
theorem dX8_isRightGuard_24 : decode cX8_isRightGuard 24 = .ok (.iconst 2, 1) := by decide +kernel
theorem dX8_isRightGuard_25 : decode cX8_isRightGuard 25 = .ok (.iload_n 3, 1) := by decide +kernel
theorem dX8_isRightGuard_26 : decode cX8_isRightGuard 26 = .ok (.imul, 1) := by decide +kernel
theorem dX8_isRightGuard_27 : decode cX8_isRightGuard 27 = .ok (.iconst 3, 1) := by decide +kernel
theorem dX8_isRightGuard_28 : decode cX8_isRightGuard 28 = .ok (.iload_n 2, 1) := by decide +kernel
theorem dX8_isRightGuard_29 : decode cX8_isRightGuard 29 = .ok (.imul, 1) := by decide +kernel
theorem dX8_isRightGuard_30 : decode cX8_isRightGuard 30 = .ok (.if_icmp .le 14, 3) := by decide +kernel
theorem dX8_isRightGuard_33 : decode cX8_isRightGuard 33 = .ok (.iload_n 3, 1) := by decide +kernel
theorem dX8_isRightGuard_34 : decode cX8_isRightGuard 34 = .ok (.iconst 3, 1) := by decide +kernel
theorem dX8_isRightGuard_35 : decode cX8_isRightGuard 35 = .ok (.iload_n 2, 1) := by decide +kernel
theorem dX8_isRightGuard_36 : decode cX8_isRightGuard 36 = .ok (.imul, 1) := by decide +kernel
theorem dX8_isRightGuard_37 : decode cX8_isRightGuard 37 = .ok (.if_icmp .ge 7, 3) := by decide +kernel
theorem dX8_isRightGuard_40 : decode cX8_isRightGuard 40 = .ok (.iconst 1, 1) := by decide +kernel
theorem dX8_isRightGuard_41 : decode cX8_isRightGuard 41 = .ok (.goto 4, 3) := by decide +kernel
theorem dX8_isRightGuard_44 : decode cX8_isRightGuard 44 = .ok (.iconst 0, 1) := by decide +kernel
theorem dX8_isRightGuard_45 : decode cX8_isRightGuard 45 = .ok (.ireturn, 1) := by decide +kernel
theorem dX8_check_0 : decode cX8_check 0 = .ok (.iconst 0, 1) := by decide +kernel
theorem dX8_check_1 : decode cX8_check 1 = .ok (.istore_n 3, 1) := by decide +kernel
theorem dX8_check_2 : decode cX8_check 2 = .ok (.iconst 0, 1) := by decide +kernel
theorem dX8_check_3 : decode cX8_check 3 = .ok (.istore 4, 2) := by decide +kernel
theorem dX8_check_5 : decode cX8_check 5 = .ok (.iload 4, 2) := by decide +kernel
theorem dX8_check_7 : decode cX8_check 7 = .ok (.iload_n 2, 1) := by decide +kernel
theorem dX8_check_8 : decode cX8_check 8 = .ok (.if_icmp .ge 40, 3) := by decide +kernel
theorem dX8_check_11 : decode cX8_check 11 = .ok (.iload_n 3, 1) := by decide +kernel
theorem dX8_check_12 : decode cX8_check 12 = .ok (.iload_n 2, 1) := by decide +kernel
theorem dX8_check_13 : decode cX8_check 13 = .ok (.iconst 1, 1) := by decide +kernel
theorem dX8_check_14 : decode cX8_check 14 = .ok (.isub, 1) := by decide +kernel
theorem dX8_check_15 : decode cX8_check 15 = .ok (.iload 4, 2) := by decide +kernel
theorem dX8_check_17 : decode cX8_check 17 = .ok (.isub, 1) := by decide +kernel
theorem dX8_check_18 : decode cX8_check 18 = .ok (.iconst 2, 1) := by decide +kernel
theorem dX8_check_19 : decode cX8_check 19 = .ok (.irem, 1) := by decide +kernel
theorem dX8_check_20 : decode cX8_check 20 = .ok (.ifCond .ne 14, 3) := by decide +kernel
theorem dX8_check_23 : decode cX8_check 23 = .ok (.iconst 3, 1) := by decide +kernel
theorem dX8_check_24 : decode cX8_check 24 = .ok (.aload_n 0, 1) := by decide +kernel
theorem dX8_check_25 : decode cX8_check 25 = .ok (.iload_n 1, 1) := by decide +kernel
theorem dX8_check_26 : decode cX8_check 26 = .ok (.iload 4, 2) := by decide +kernel
theorem dX8_check_28 : decode cX8_check 28 = .ok (.iadd, 1) := by decide +kernel
theorem dX8_check_29 : decode cX8_check 29 = .ok (.iaload, 1) := by decide +kernel
theorem dX8_check_30 : decode cX8_check 30 = .ok (.imul, 1) := by decide +kernel
theorem dX8_check_31 : decode cX8_check 31 = .ok (.goto 9, 3) := by decide +kernel
theorem dX8_check_34 : decode cX8_check 34 = .ok (.aload_n 0, 1) := by decide +kernel
theorem dX8_check_35 : decode cX8_check 35 = .ok (.iload_n 1, 1) := by decide +kernel
theorem dX8_check_36 : decode cX8_check 36 = .ok (.iload 4, 2) := by decide +kernel
theorem dX8_check_38 : decode cX8_check 38 = .ok (.iadd, 1) := by decide +kernel
theorem dX8_check_39 : decode cX8_check 39 = .ok (.iaload, 1) := by decide +kernel
theorem dX8_check_40 : decode cX8_check 40 = .ok (.iadd, 1) := by decide +kernel
theorem dX8_check_41 : decode cX8_check 41 = .ok (.istore_n 3, 1) := by decide +kernel
theorem dX8_check_42 : decode cX8_check 42 = .ok (.iinc 4 1, 3) := by decide +kernel
theorem dX8_check_45 : decode cX8_check 45 = .ok (.goto (-40), 3) := by decide +kernel
theorem dX8_check_48 : decode cX8_check 48 = .ok (.bipush 10, 2) := by decide +kernel
theorem dX8_check_50 : decode cX8_check 50 = .ok (.iload_n 3, 1) := by decide +kernel
theorem dX8_check_51 : decode cX8_check 51 = .ok (.bipush 10, 2) := by decide +kernel
theorem dX8_check_53 : decode cX8_check 53 = .ok (.irem, 1) := by decide +kernel
theorem dX8_check_54 : decode cX8_check 54 = .ok (.isub, 1) := by decide +kernel
theorem dX8_check_55 : decode cX8_check 55 = .ok (.bipush 10, 2) := by decide +kernel
theorem dX8_check_57 : decode cX8_check 57 = .ok (.irem, 1) := by decide +kernel
theorem dX8_check_58 : decode cX8_check 58 = .ok (.ireturn, 1) := by decide +kernel
set_option maxHeartbeats 4000000 in
set_option maxRecDepth 100000 in
theorem c_M_time0 (l : Launch) (D : va_G) (mo : Nat) (ms : Nat) (sv : Int32) (mb : Nat) (ty : Int32) (th : Int32) (mk : Nat) (lm : Nat) (mfd : Nat) (mf : Int32) (sp : Int32) (on : Int32) (tw : Int32) (K : ClassId) (lk : Nat → Int32) (b : Int32) (hi : 0 < lm) (hlm : lm ≤ 41) (sz : Nat) : k_Mi (S := Unit) l D yX8_time cX8_time 3 (some .int) 0 0 0 0 [.ref mo, .int 0, .int b] [(mo, .inr (8, [.ref ms, .int sv, .ref mb, .int ty, .int th, .ref mk, .int (nI lm), .ref mfd, .int mf, .int sp, .int on, .int tw])), (mk, .inl (K, 41, .inl lk))] [(K, .int)] (fun (r : Int32) (_ : Unit) => r = (lnF lm lk b 0)) (fun _ => [(mo, .inr (8, [.ref ms, .int sv, .ref mb, .int ty, .int th, .ref mk, .int (nI lm), .ref mfd, .int mf, .int sp, .int on, .int tw])), (mk, .inl (K, 41, .inl lk))]) (fun _ => []) sz := by
  refine Met.ofW (cc := cX8_time) (maxL := 3) (ret := (some .int)) (by decide) rfl ?_
  intro p e s m args below meth c s₁ B hml hv
  obtain ⟨rfl, hsz, hP, hK, hD0, hG⟩ := hv
  have hx := B.exec
  have hb := B.bytes
  have hr := B.returns
  have ht : ∀ v9 ∈ wsA, v9.before ([.ref mo, .int 0, .int b] : List Value).toArray s = true := fun v9 h9 => atoms_spec (ws := k_ws yX8_time cX8_time 3 (some .int)) B.pre v9 (List.mem_cons_of_mem _ h9)
  have hown : s.vm.findClass RX8 = some m.cls := findClass_of_methodNamed B.named
  have S0 : k_C p s m ([.ref mo, .int 0, .int b] : List Value).toArray c cX8_time 3 RX8 := ⟨hx, hb, hml, hown, ht⟩
  have hlocks := B.notSynchronized
  subst hsz
  have hD := hD0.self (sz := s.heap.size)
  generalize hAe : va_A [(mo, .inr (8, [.ref ms, .int sv, .ref mb, .int ty, .int th, .ref mk, .int (nI lm), .ref mfd, .int mf, .int sp, .int on, .int tw])), (mk, .inl (K, 41, .inl lk))] s.heap.size = A at hD hG ⊢
  have hA : ∀ q : Nat, s.heap.size ≤ q → A q := fun q h => by rw [← hAe]; exact Or.inr h
  have hS : va_S A s.heap s.heap [] := va_S.rf
  have hl := lv_entry ([.ref mo, .int 0, .int b]) (n := 3) (Nat.le_of_ble_eq_true rfl)
  rw [lg_entry_eq]
  generalize (lg_sl ([.ref mo, .int 0, .int b]) ++ List.replicate (3 - (lg_sl ([.ref mo, .int 0, .int b])).length) Slot.unset).toArray = ls at hl ⊢
  have hl : lv_has ls 3 [(0, .ref mo), (1, .int 0), (2, .int b)] := hl
  have hP : va_P D vwCl [(mo, .inr (8, [.ref ms, .int sv, .ref mb, .int ty, .int th, .ref mk, .int (nI lm), .ref mfd, .int mf, .int sp, .int on, .int tw])), (mk, .inl (K, 41, .inl lk))] s.heap := hP
  refine lv_aload_n hx hb dX8_time_0 rfl (lv_at hl 0 rfl) ?_
  refine va_get (D := D) (ci := 8) (v := .ref mk) (C := RX8) (T := TX8) (N := 12) hx hb ht inA_X8 hown hK hP 0 rfl rfl 5 (by decide) (ht _ lf_X8_17) (fun _ h9 => h9) rfl dX8_time_1 ?_
  refine lv_iload_n hx hb dX8_time_4 rfl (lv_at hl 2 rfl) ?_
  refine lv_if_eq (tgt := 19) hx hb dX8_time_5 (by decide) (fun c_1 => ?_) (fun c_1 => ?_)
  · have hc9 := c_1
    refine lv_iload_n hx hb dX8_time_19 rfl (lv_at hl 1 rfl) ?_
    refine va_iald hx hb hK hP 1 0 rfl rfl (by unfold vp_in; decide) dX8_time_20 ?_
    refine k_nrm (y := (lnF lm lk b 0)) ((show lk 0 = (lnF lm lk b 0) from (lnF_b0 (j := 0) c_1 hi hlm).symm)) ?_
    have hP9 : va_P D vwCl [(mo, .inr (8, [.ref ms, .int sv, .ref mb, .int ty, .int th, .ref mk, .int (nI lm), .ref mfd, .int mf, .int sp, .int on, .int tw])), (mk, .inl (K, 41, .inl lk))] s.heap := hP.sub [0, 1] rfl
    have hD9 : va_D A [(mo, .inr (8, [.ref ms, .int sv, .ref mb, .int ty, .int th, .ref mk, .int (nI lm), .ref mfd, .int mf, .int sp, .int on, .int tw])), (mk, .inl (K, 41, .inl lk))] := hD.sub [0, 1] (by decide) rfl
    have hK9 : va_K D vwCl [] s := hK.sub [] rfl
    exact W.iret (v := (lnF lm lk b 0)) hx hb hr (fun t ht9 hW9 => ⟨⟨(lnF lm lk b 0), (), rfl, by first | rfl | trivial | (simp only [c_1, if_true, if_false, reduceIte, and_self]; done) | simp_all, ⟨by rw [ht9]; exact hP9, va_K.moved hW9.alike hK9, hD9⟩⟩, hS.F ht9⟩) hS.2.2 dX8_time_21
  · have hc9 := c_1
    refine lv_aload_n hx hb dX8_time_8 rfl (lv_at hl 0 rfl) ?_
    refine va_get (D := D) (ci := 8) (v := .int (nI lm)) (C := RX8) (T := TX8) (N := 12) hx hb ht inA_X8 hown hK hP 0 rfl rfl 6 (by decide) (ht _ lf_X8_78) (fun _ h9 => h9) rfl dX8_time_9 ?_
    refine lv_iconst (v := 1) hx hb dX8_time_12 (by decide) ?_
    refine lv_isub hx hb dX8_time_13 ?_
    refine k_nrm (y := (nI (lm - 1))) (pk_sub (b := 1) (by omega)) ?_
    refine lv_iload_n hx hb dX8_time_14 rfl (lv_at hl 1 rfl) ?_
    refine lv_isub hx hb dX8_time_15 ?_
    refine k_nrm (y := (nI (lm - 1 - 0))) (pk_sub (b := 0) (by omega)) ?_
    refine lv_goto (tgt := 20) hx hb dX8_time_16 (by decide) ?_
    refine va_iald hx hb hK hP 1 0 rfl rfl (vp_in_nI (by omega) (by omega)) dX8_time_20 ?_
    refine k_nrm (y := (lnF lm lk b 0)) (by rw [nI_clamp (by omega)]; exact (lnF_b1 c_1 (by omega) hlm).symm) ?_
    have hP9 : va_P D vwCl [(mo, .inr (8, [.ref ms, .int sv, .ref mb, .int ty, .int th, .ref mk, .int (nI lm), .ref mfd, .int mf, .int sp, .int on, .int tw])), (mk, .inl (K, 41, .inl lk))] s.heap := hP.sub [0, 1] rfl
    have hD9 : va_D A [(mo, .inr (8, [.ref ms, .int sv, .ref mb, .int ty, .int th, .ref mk, .int (nI lm), .ref mfd, .int mf, .int sp, .int on, .int tw])), (mk, .inl (K, 41, .inl lk))] := hD.sub [0, 1] (by decide) rfl
    have hK9 : va_K D vwCl [] s := hK.sub [] rfl
    exact W.iret (v := (lnF lm lk b 0)) hx hb hr (fun t ht9 hW9 => ⟨⟨(lnF lm lk b 0), (), rfl, by first | rfl | trivial | (simp only [c_1, if_true, if_false, reduceIte, and_self]; done) | simp_all, ⟨by rw [ht9]; exact hP9, va_K.moved hW9.alike hK9, hD9⟩⟩, hS.F ht9⟩) hS.2.2 dX8_time_21
set_option maxHeartbeats 4000000 in
set_option maxRecDepth 100000 in
theorem c_M_time1 (l : Launch) (D : va_G) (mo : Nat) (ms : Nat) (sv : Int32) (mb : Nat) (ty : Int32) (th : Int32) (mk : Nat) (lm : Nat) (mfd : Nat) (mf : Int32) (sp : Int32) (on : Int32) (tw : Int32) (K : ClassId) (lk : Nat → Int32) (b : Int32) (hi : 1 < lm) (hlm : lm ≤ 41) (sz : Nat) : k_Mi (S := Unit) l D yX8_time cX8_time 3 (some .int) 0 0 0 0 [.ref mo, .int 1, .int b] [(mo, .inr (8, [.ref ms, .int sv, .ref mb, .int ty, .int th, .ref mk, .int (nI lm), .ref mfd, .int mf, .int sp, .int on, .int tw])), (mk, .inl (K, 41, .inl lk))] [(K, .int)] (fun (r : Int32) (_ : Unit) => r = (lnF lm lk b 1)) (fun _ => [(mo, .inr (8, [.ref ms, .int sv, .ref mb, .int ty, .int th, .ref mk, .int (nI lm), .ref mfd, .int mf, .int sp, .int on, .int tw])), (mk, .inl (K, 41, .inl lk))]) (fun _ => []) sz := by
  refine Met.ofW (cc := cX8_time) (maxL := 3) (ret := (some .int)) (by decide) rfl ?_
  intro p e s m args below meth c s₁ B hml hv
  obtain ⟨rfl, hsz, hP, hK, hD0, hG⟩ := hv
  have hx := B.exec
  have hb := B.bytes
  have hr := B.returns
  have ht : ∀ v9 ∈ wsA, v9.before ([.ref mo, .int 1, .int b] : List Value).toArray s = true := fun v9 h9 => atoms_spec (ws := k_ws yX8_time cX8_time 3 (some .int)) B.pre v9 (List.mem_cons_of_mem _ h9)
  have hown : s.vm.findClass RX8 = some m.cls := findClass_of_methodNamed B.named
  have S0 : k_C p s m ([.ref mo, .int 1, .int b] : List Value).toArray c cX8_time 3 RX8 := ⟨hx, hb, hml, hown, ht⟩
  have hlocks := B.notSynchronized
  subst hsz
  have hD := hD0.self (sz := s.heap.size)
  generalize hAe : va_A [(mo, .inr (8, [.ref ms, .int sv, .ref mb, .int ty, .int th, .ref mk, .int (nI lm), .ref mfd, .int mf, .int sp, .int on, .int tw])), (mk, .inl (K, 41, .inl lk))] s.heap.size = A at hD hG ⊢
  have hA : ∀ q : Nat, s.heap.size ≤ q → A q := fun q h => by rw [← hAe]; exact Or.inr h
  have hS : va_S A s.heap s.heap [] := va_S.rf
  have hl := lv_entry ([.ref mo, .int 1, .int b]) (n := 3) (Nat.le_of_ble_eq_true rfl)
  rw [lg_entry_eq]
  generalize (lg_sl ([.ref mo, .int 1, .int b]) ++ List.replicate (3 - (lg_sl ([.ref mo, .int 1, .int b])).length) Slot.unset).toArray = ls at hl ⊢
  have hl : lv_has ls 3 [(0, .ref mo), (1, .int 1), (2, .int b)] := hl
  have hP : va_P D vwCl [(mo, .inr (8, [.ref ms, .int sv, .ref mb, .int ty, .int th, .ref mk, .int (nI lm), .ref mfd, .int mf, .int sp, .int on, .int tw])), (mk, .inl (K, 41, .inl lk))] s.heap := hP
  refine lv_aload_n hx hb dX8_time_0 rfl (lv_at hl 0 rfl) ?_
  refine va_get (D := D) (ci := 8) (v := .ref mk) (C := RX8) (T := TX8) (N := 12) hx hb ht inA_X8 hown hK hP 0 rfl rfl 5 (by decide) (ht _ lf_X8_17) (fun _ h9 => h9) rfl dX8_time_1 ?_
  refine lv_iload_n hx hb dX8_time_4 rfl (lv_at hl 2 rfl) ?_
  refine lv_if_eq (tgt := 19) hx hb dX8_time_5 (by decide) (fun c_1 => ?_) (fun c_1 => ?_)
  · have hc9 := c_1
    refine lv_iload_n hx hb dX8_time_19 rfl (lv_at hl 1 rfl) ?_
    refine va_iald hx hb hK hP 1 0 rfl rfl (by unfold vp_in; decide) dX8_time_20 ?_
    refine k_nrm (y := (lnF lm lk b 1)) ((show lk 1 = (lnF lm lk b 1) from (lnF_b0 (j := 1) c_1 hi hlm).symm)) ?_
    have hP9 : va_P D vwCl [(mo, .inr (8, [.ref ms, .int sv, .ref mb, .int ty, .int th, .ref mk, .int (nI lm), .ref mfd, .int mf, .int sp, .int on, .int tw])), (mk, .inl (K, 41, .inl lk))] s.heap := hP.sub [0, 1] rfl
    have hD9 : va_D A [(mo, .inr (8, [.ref ms, .int sv, .ref mb, .int ty, .int th, .ref mk, .int (nI lm), .ref mfd, .int mf, .int sp, .int on, .int tw])), (mk, .inl (K, 41, .inl lk))] := hD.sub [0, 1] (by decide) rfl
    have hK9 : va_K D vwCl [] s := hK.sub [] rfl
    exact W.iret (v := (lnF lm lk b 1)) hx hb hr (fun t ht9 hW9 => ⟨⟨(lnF lm lk b 1), (), rfl, by first | rfl | trivial | (simp only [c_1, if_true, if_false, reduceIte, and_self]; done) | simp_all, ⟨by rw [ht9]; exact hP9, va_K.moved hW9.alike hK9, hD9⟩⟩, hS.F ht9⟩) hS.2.2 dX8_time_21
  · have hc9 := c_1
    refine lv_aload_n hx hb dX8_time_8 rfl (lv_at hl 0 rfl) ?_
    refine va_get (D := D) (ci := 8) (v := .int (nI lm)) (C := RX8) (T := TX8) (N := 12) hx hb ht inA_X8 hown hK hP 0 rfl rfl 6 (by decide) (ht _ lf_X8_78) (fun _ h9 => h9) rfl dX8_time_9 ?_
    refine lv_iconst (v := 1) hx hb dX8_time_12 (by decide) ?_
    refine lv_isub hx hb dX8_time_13 ?_
    refine k_nrm (y := (nI (lm - 1))) (pk_sub (b := 1) (by omega)) ?_
    refine lv_iload_n hx hb dX8_time_14 rfl (lv_at hl 1 rfl) ?_
    refine lv_isub hx hb dX8_time_15 ?_
    refine k_nrm (y := (nI (lm - 1 - 1))) (pk_sub (b := 1) (by omega)) ?_
    refine lv_goto (tgt := 20) hx hb dX8_time_16 (by decide) ?_
    refine va_iald hx hb hK hP 1 0 rfl rfl (vp_in_nI (by omega) (by omega)) dX8_time_20 ?_
    refine k_nrm (y := (lnF lm lk b 1)) (by rw [nI_clamp (by omega)]; exact (lnF_b1 c_1 (by omega) hlm).symm) ?_
    have hP9 : va_P D vwCl [(mo, .inr (8, [.ref ms, .int sv, .ref mb, .int ty, .int th, .ref mk, .int (nI lm), .ref mfd, .int mf, .int sp, .int on, .int tw])), (mk, .inl (K, 41, .inl lk))] s.heap := hP.sub [0, 1] rfl
    have hD9 : va_D A [(mo, .inr (8, [.ref ms, .int sv, .ref mb, .int ty, .int th, .ref mk, .int (nI lm), .ref mfd, .int mf, .int sp, .int on, .int tw])), (mk, .inl (K, 41, .inl lk))] := hD.sub [0, 1] (by decide) rfl
    have hK9 : va_K D vwCl [] s := hK.sub [] rfl
    exact W.iret (v := (lnF lm lk b 1)) hx hb hr (fun t ht9 hW9 => ⟨⟨(lnF lm lk b 1), (), rfl, by first | rfl | trivial | (simp only [c_1, if_true, if_false, reduceIte, and_self]; done) | simp_all, ⟨by rw [ht9]; exact hP9, va_K.moved hW9.alike hK9, hD9⟩⟩, hS.F ht9⟩) hS.2.2 dX8_time_21
set_option maxHeartbeats 4000000 in
set_option maxRecDepth 100000 in
theorem c_M_time2 (l : Launch) (D : va_G) (mo : Nat) (ms : Nat) (sv : Int32) (mb : Nat) (ty : Int32) (th : Int32) (mk : Nat) (lm : Nat) (mfd : Nat) (mf : Int32) (sp : Int32) (on : Int32) (tw : Int32) (K : ClassId) (lk : Nat → Int32) (b : Int32) (hi : 2 < lm) (hlm : lm ≤ 41) (sz : Nat) : k_Mi (S := Unit) l D yX8_time cX8_time 3 (some .int) 0 0 0 0 [.ref mo, .int 2, .int b] [(mo, .inr (8, [.ref ms, .int sv, .ref mb, .int ty, .int th, .ref mk, .int (nI lm), .ref mfd, .int mf, .int sp, .int on, .int tw])), (mk, .inl (K, 41, .inl lk))] [(K, .int)] (fun (r : Int32) (_ : Unit) => r = (lnF lm lk b 2)) (fun _ => [(mo, .inr (8, [.ref ms, .int sv, .ref mb, .int ty, .int th, .ref mk, .int (nI lm), .ref mfd, .int mf, .int sp, .int on, .int tw])), (mk, .inl (K, 41, .inl lk))]) (fun _ => []) sz := by
  refine Met.ofW (cc := cX8_time) (maxL := 3) (ret := (some .int)) (by decide) rfl ?_
  intro p e s m args below meth c s₁ B hml hv
  obtain ⟨rfl, hsz, hP, hK, hD0, hG⟩ := hv
  have hx := B.exec
  have hb := B.bytes
  have hr := B.returns
  have ht : ∀ v9 ∈ wsA, v9.before ([.ref mo, .int 2, .int b] : List Value).toArray s = true := fun v9 h9 => atoms_spec (ws := k_ws yX8_time cX8_time 3 (some .int)) B.pre v9 (List.mem_cons_of_mem _ h9)
  have hown : s.vm.findClass RX8 = some m.cls := findClass_of_methodNamed B.named
  have S0 : k_C p s m ([.ref mo, .int 2, .int b] : List Value).toArray c cX8_time 3 RX8 := ⟨hx, hb, hml, hown, ht⟩
  have hlocks := B.notSynchronized
  subst hsz
  have hD := hD0.self (sz := s.heap.size)
  generalize hAe : va_A [(mo, .inr (8, [.ref ms, .int sv, .ref mb, .int ty, .int th, .ref mk, .int (nI lm), .ref mfd, .int mf, .int sp, .int on, .int tw])), (mk, .inl (K, 41, .inl lk))] s.heap.size = A at hD hG ⊢
  have hA : ∀ q : Nat, s.heap.size ≤ q → A q := fun q h => by rw [← hAe]; exact Or.inr h
  have hS : va_S A s.heap s.heap [] := va_S.rf
  have hl := lv_entry ([.ref mo, .int 2, .int b]) (n := 3) (Nat.le_of_ble_eq_true rfl)
  rw [lg_entry_eq]
  generalize (lg_sl ([.ref mo, .int 2, .int b]) ++ List.replicate (3 - (lg_sl ([.ref mo, .int 2, .int b])).length) Slot.unset).toArray = ls at hl ⊢
  have hl : lv_has ls 3 [(0, .ref mo), (1, .int 2), (2, .int b)] := hl
  have hP : va_P D vwCl [(mo, .inr (8, [.ref ms, .int sv, .ref mb, .int ty, .int th, .ref mk, .int (nI lm), .ref mfd, .int mf, .int sp, .int on, .int tw])), (mk, .inl (K, 41, .inl lk))] s.heap := hP
  refine lv_aload_n hx hb dX8_time_0 rfl (lv_at hl 0 rfl) ?_
  refine va_get (D := D) (ci := 8) (v := .ref mk) (C := RX8) (T := TX8) (N := 12) hx hb ht inA_X8 hown hK hP 0 rfl rfl 5 (by decide) (ht _ lf_X8_17) (fun _ h9 => h9) rfl dX8_time_1 ?_
  refine lv_iload_n hx hb dX8_time_4 rfl (lv_at hl 2 rfl) ?_
  refine lv_if_eq (tgt := 19) hx hb dX8_time_5 (by decide) (fun c_1 => ?_) (fun c_1 => ?_)
  · have hc9 := c_1
    refine lv_iload_n hx hb dX8_time_19 rfl (lv_at hl 1 rfl) ?_
    refine va_iald hx hb hK hP 1 0 rfl rfl (by unfold vp_in; decide) dX8_time_20 ?_
    refine k_nrm (y := (lnF lm lk b 2)) ((show lk 2 = (lnF lm lk b 2) from (lnF_b0 (j := 2) c_1 hi hlm).symm)) ?_
    have hP9 : va_P D vwCl [(mo, .inr (8, [.ref ms, .int sv, .ref mb, .int ty, .int th, .ref mk, .int (nI lm), .ref mfd, .int mf, .int sp, .int on, .int tw])), (mk, .inl (K, 41, .inl lk))] s.heap := hP.sub [0, 1] rfl
    have hD9 : va_D A [(mo, .inr (8, [.ref ms, .int sv, .ref mb, .int ty, .int th, .ref mk, .int (nI lm), .ref mfd, .int mf, .int sp, .int on, .int tw])), (mk, .inl (K, 41, .inl lk))] := hD.sub [0, 1] (by decide) rfl
    have hK9 : va_K D vwCl [] s := hK.sub [] rfl
    exact W.iret (v := (lnF lm lk b 2)) hx hb hr (fun t ht9 hW9 => ⟨⟨(lnF lm lk b 2), (), rfl, by first | rfl | trivial | (simp only [c_1, if_true, if_false, reduceIte, and_self]; done) | simp_all, ⟨by rw [ht9]; exact hP9, va_K.moved hW9.alike hK9, hD9⟩⟩, hS.F ht9⟩) hS.2.2 dX8_time_21
  · have hc9 := c_1
    refine lv_aload_n hx hb dX8_time_8 rfl (lv_at hl 0 rfl) ?_
    refine va_get (D := D) (ci := 8) (v := .int (nI lm)) (C := RX8) (T := TX8) (N := 12) hx hb ht inA_X8 hown hK hP 0 rfl rfl 6 (by decide) (ht _ lf_X8_78) (fun _ h9 => h9) rfl dX8_time_9 ?_
    refine lv_iconst (v := 1) hx hb dX8_time_12 (by decide) ?_
    refine lv_isub hx hb dX8_time_13 ?_
    refine k_nrm (y := (nI (lm - 1))) (pk_sub (b := 1) (by omega)) ?_
    refine lv_iload_n hx hb dX8_time_14 rfl (lv_at hl 1 rfl) ?_
    refine lv_isub hx hb dX8_time_15 ?_
    refine k_nrm (y := (nI (lm - 1 - 2))) (pk_sub (b := 2) (by omega)) ?_
    refine lv_goto (tgt := 20) hx hb dX8_time_16 (by decide) ?_
    refine va_iald hx hb hK hP 1 0 rfl rfl (vp_in_nI (by omega) (by omega)) dX8_time_20 ?_
    refine k_nrm (y := (lnF lm lk b 2)) (by rw [nI_clamp (by omega)]; exact (lnF_b1 c_1 (by omega) hlm).symm) ?_
    have hP9 : va_P D vwCl [(mo, .inr (8, [.ref ms, .int sv, .ref mb, .int ty, .int th, .ref mk, .int (nI lm), .ref mfd, .int mf, .int sp, .int on, .int tw])), (mk, .inl (K, 41, .inl lk))] s.heap := hP.sub [0, 1] rfl
    have hD9 : va_D A [(mo, .inr (8, [.ref ms, .int sv, .ref mb, .int ty, .int th, .ref mk, .int (nI lm), .ref mfd, .int mf, .int sp, .int on, .int tw])), (mk, .inl (K, 41, .inl lk))] := hD.sub [0, 1] (by decide) rfl
    have hK9 : va_K D vwCl [] s := hK.sub [] rfl
    exact W.iret (v := (lnF lm lk b 2)) hx hb hr (fun t ht9 hW9 => ⟨⟨(lnF lm lk b 2), (), rfl, by first | rfl | trivial | (simp only [c_1, if_true, if_false, reduceIte, and_self]; done) | simp_all, ⟨by rw [ht9]; exact hP9, va_K.moved hW9.alike hK9, hD9⟩⟩, hS.F ht9⟩) hS.2.2 dX8_time_21
set_option maxHeartbeats 4000000 in
set_option maxRecDepth 100000 in
theorem c_M_leftG (l : Launch) (D : va_G) (mo : Nat) (ms : Nat) (sv : Int32) (mb : Nat) (ty : Int32) (th : Int32) (mk : Nat) (lm : Nat) (mfd : Nat) (mf : Int32) (sp : Int32) (on : Int32) (tw : Int32) (K : ClassId) (lk : Nat → Int32) (b : Int32) (h13 : 13 ≤ lm) (hlm : lm ≤ 41) (sz : Nat) : k_Mi (S := Unit) l D yX8_isLeftGuard cX8_isLeftGuard 6 (some .boolean) 1 0 0 22 [.ref mo, .int b] [(mo, .inr (8, [.ref ms, .int sv, .ref mb, .int ty, .int th, .ref mk, .int (nI lm), .ref mfd, .int mf, .int sp, .int on, .int tw])), (mk, .inl (K, 41, .inl lk))] [(K, .int)] (fun (r : Int32) (_ : Unit) => r = (lgF (lnF lm lk b 0) (lnF lm lk b 1) (lnF lm lk b 2))) (fun _ => [(mo, .inr (8, [.ref ms, .int sv, .ref mb, .int ty, .int th, .ref mk, .int (nI lm), .ref mfd, .int mf, .int sp, .int on, .int tw])), (mk, .inl (K, 41, .inl lk))]) (fun _ => []) sz := by
  refine Met.ofW (cc := cX8_isLeftGuard) (maxL := 6) (ret := (some .boolean)) (by decide) rfl ?_
  intro p e s m args below meth c s₁ B hml hv
  obtain ⟨rfl, hsz, hP, hK, hD0, hG⟩ := hv
  have hx := B.exec
  have hb := B.bytes
  have hr := B.returns
  have ht : ∀ v9 ∈ wsA, v9.before ([.ref mo, .int b] : List Value).toArray s = true := fun v9 h9 => atoms_spec (ws := k_ws yX8_isLeftGuard cX8_isLeftGuard 6 (some .boolean)) B.pre v9 (List.mem_cons_of_mem _ h9)
  have hown : s.vm.findClass RX8 = some m.cls := findClass_of_methodNamed B.named
  have S0 : k_C p s m ([.ref mo, .int b] : List Value).toArray c cX8_isLeftGuard 6 RX8 := ⟨hx, hb, hml, hown, ht⟩
  have hlocks := B.notSynchronized
  subst hsz
  have hD := hD0.self (sz := s.heap.size)
  generalize hAe : va_A [(mo, .inr (8, [.ref ms, .int sv, .ref mb, .int ty, .int th, .ref mk, .int (nI lm), .ref mfd, .int mf, .int sp, .int on, .int tw])), (mk, .inl (K, 41, .inl lk))] s.heap.size = A at hD hG ⊢
  have hA : ∀ q : Nat, s.heap.size ≤ q → A q := fun q h => by rw [← hAe]; exact Or.inr h
  have hS : va_S A s.heap s.heap [] := va_S.rf
  have hl := lv_entry ([.ref mo, .int b]) (n := 6) (Nat.le_of_ble_eq_true rfl)
  rw [lg_entry_eq]
  generalize (lg_sl ([.ref mo, .int b]) ++ List.replicate (6 - (lg_sl ([.ref mo, .int b])).length) Slot.unset).toArray = ls at hl ⊢
  have hl : lv_has ls 6 [(0, .ref mo), (1, .int b)] := hl
  have hP : va_P D vwCl [(mo, .inr (8, [.ref ms, .int sv, .ref mb, .int ty, .int th, .ref mk, .int (nI lm), .ref mfd, .int mf, .int sp, .int on, .int tw])), (mk, .inl (K, 41, .inl lk))] s.heap := hP
  refine lv_aload_n hx hb dX8_isLeftGuard_0 rfl (lv_at hl 0 rfl) ?_
  refine lv_iconst (v := 0) hx hb dX8_isLeftGuard_1 (by decide) ?_
  refine lv_iload_n hx hb dX8_isLeftGuard_2 rfl (lv_at hl 1 rfl) ?_
  have ct := k_cut_of (wc := [(mo, .inr (8, [.ref ms, .int sv, .ref mb, .int ty, .int th, .ref mk, .int (nI lm), .ref mfd, .int mf, .int sp, .int on, .int tw])), (mk, .inl (K, 41, .inl lk))]) (wr := []) (tc := [(K, .int)]) hG hS hA hK hP hD [0, 1] [] [0] rfl rfl (by decide) (by decide) (by decide) rfl
  refine k_endi (As := [.ref mo, .int 0, .int b]) ct (k_runV (As := [.int 0, .int b]) (rest := []) S0 Lv_X8_81 rfl (ci := 8) (q0 := 0) rfl rfl ct (c_M_time0 l D mo ms sv mb ty th mk lm mfd mf sp on tw K lk b (by first | assumption | omega) (by first | assumption | omega) s.heap.size) hl.1 rfl (Nat.le_of_ble_eq_true rfl) rfl dX8_isLeftGuard_3 ⟨⟨Nat.le_of_ble_eq_true rfl, Nat.le_of_ble_eq_true rfl⟩, Nat.le_of_ble_eq_true rfl, Nat.le_of_ble_eq_true rfl⟩) rfl rfl (fun r_1 _ H locs hw_2 hP hD hK hS => ?_)
  have hK : va_K D vwCl [(K, .int)] s := hK
  have hP : va_P D vwCl [(mo, .inr (8, [.ref ms, .int sv, .ref mb, .int ty, .int th, .ref mk, .int (nI lm), .ref mfd, .int mf, .int sp, .int on, .int tw])), (mk, .inl (K, 41, .inl lk))] H := hP
  have hD : va_D A [(mo, .inr (8, [.ref ms, .int sv, .ref mb, .int ty, .int th, .ref mk, .int (nI lm), .ref mfd, .int mf, .int sp, .int on, .int tw])), (mk, .inl (K, 41, .inl lk))] := hD
  have hw_2 : r_1 = (lnF lm lk b 0) := hw_2
  have hw_2 := hw_2.symm
  subst hw_2
  refine k_nrm (y := (lnF lm lk b 0)) rfl ?_
  refine lv_istore_n (lv' := [(2, .int (lnF lm lk b 0)), (0, .ref mo), (1, .int b)]) hx hb dX8_isLeftGuard_6 rfl hl (by decide) rfl (fun ls hl => ?_)
  refine lv_iload_n hx hb dX8_isLeftGuard_7 rfl (lv_at hl 0 rfl) ?_
  refine lv_istore_n (lv' := [(3, .int (lnF lm lk b 0)), (2, .int (lnF lm lk b 0)), (0, .ref mo), (1, .int b)]) hx hb dX8_isLeftGuard_8 rfl hl (by decide) rfl (fun ls hl => ?_)
  refine lv_iconst (v := 1) hx hb dX8_isLeftGuard_9 (by decide) ?_
  refine lv_istore (lv' := [(4, .int 1), (3, .int (lnF lm lk b 0)), (2, .int (lnF lm lk b 0)), (0, .ref mo), (1, .int b)]) hx hb dX8_isLeftGuard_10 hl (by decide) rfl (fun ls hl => ?_)
  refine lv_iload hx hb dX8_isLeftGuard_12 (lv_at hl 0 rfl) ?_
  refine lv_iconst (v := 3) hx hb dX8_isLeftGuard_14 (by decide) ?_
  refine lv_icmp_ge (tgt := 59) hx hb dX8_isLeftGuard_15 (by decide) (fun c9 => absurd c9 (by decide)) (fun _ => ?_)
  refine lv_aload_n hx hb dX8_isLeftGuard_18 rfl (lv_at hl 3 rfl) ?_
  refine lv_iload hx hb dX8_isLeftGuard_19 (lv_at hl 0 rfl) ?_
  refine lv_iload_n hx hb dX8_isLeftGuard_21 rfl (lv_at hl 4 rfl) ?_
  have ct := k_cut_of (wc := [(mo, .inr (8, [.ref ms, .int sv, .ref mb, .int ty, .int th, .ref mk, .int (nI lm), .ref mfd, .int mf, .int sp, .int on, .int tw])), (mk, .inl (K, 41, .inl lk))]) (wr := []) (tc := [(K, .int)]) hG hS hA hK hP hD [0, 1] [] [0] rfl rfl (by decide) (by decide) (by decide) rfl
  refine k_endi (As := [.ref mo, .int 1, .int b]) ct (k_runV (As := [.int 1, .int b]) (rest := []) S0 Lv_X8_81 rfl (ci := 8) (q0 := 0) rfl rfl ct (c_M_time1 l D mo ms sv mb ty th mk lm mfd mf sp on tw K lk b (by first | assumption | omega) (by first | assumption | omega) H.size) hl.1 rfl (Nat.le_of_ble_eq_true rfl) rfl dX8_isLeftGuard_22 ⟨⟨Nat.le_of_ble_eq_true rfl, Nat.le_of_ble_eq_true rfl⟩, Nat.le_of_ble_eq_true rfl, Nat.le_of_ble_eq_true rfl⟩) rfl rfl (fun r_3 _ H locs hw_4 hP hD hK hS => ?_)
  have hK : va_K D vwCl [(K, .int)] s := hK
  have hP : va_P D vwCl [(mo, .inr (8, [.ref ms, .int sv, .ref mb, .int ty, .int th, .ref mk, .int (nI lm), .ref mfd, .int mf, .int sp, .int on, .int tw])), (mk, .inl (K, 41, .inl lk))] H := hP
  have hD : va_D A [(mo, .inr (8, [.ref ms, .int sv, .ref mb, .int ty, .int th, .ref mk, .int (nI lm), .ref mfd, .int mf, .int sp, .int on, .int tw])), (mk, .inl (K, 41, .inl lk))] := hD
  have hw_4 : r_3 = (lnF lm lk b 1) := hw_4
  have hw_4 := hw_4.symm
  subst hw_4
  refine k_nrm (y := (lnF lm lk b 1)) rfl ?_
  refine lv_istore (lv' := [(5, .int (lnF lm lk b 1)), (4, .int 1), (3, .int (lnF lm lk b 0)), (2, .int (lnF lm lk b 0)), (0, .ref mo), (1, .int b)]) hx hb dX8_isLeftGuard_25 hl (by decide) rfl (fun ls hl => ?_)
  refine lv_iload hx hb dX8_isLeftGuard_27 (lv_at hl 0 rfl) ?_
  refine lv_iload_n hx hb dX8_isLeftGuard_29 rfl (lv_at hl 3 rfl) ?_
  refine lv_icmp_ge (tgt := 38) hx hb dX8_isLeftGuard_30 (by decide) (fun c_5 => ?_) (fun c_5 => ?_)
  · have hc9 := c_5
    refine lv_iload_n hx hb dX8_isLeftGuard_38 rfl (lv_at hl 3 rfl) ?_
    refine k_nrm (y := (mnI (lnF lm lk b 0) (lnF lm lk b 1))) ((if_neg (Int32.not_lt.mpr c_5)).symm) ?_
    refine lv_istore_n (lv' := [(2, .int (mnI (lnF lm lk b 0) (lnF lm lk b 1))), (5, .int (lnF lm lk b 1)), (4, .int 1), (3, .int (lnF lm lk b 0)), (0, .ref mo), (1, .int b)]) hx hb dX8_isLeftGuard_39 rfl hl (by decide) rfl (fun ls hl => ?_)
    refine lv_iload hx hb dX8_isLeftGuard_40 (lv_at hl 1 rfl) ?_
    refine lv_iload_n hx hb dX8_isLeftGuard_42 rfl (lv_at hl 3 rfl) ?_
    refine lv_icmp_le (tgt := 51) hx hb dX8_isLeftGuard_43 (by decide) (fun c_6 => ?_) (fun c_6 => ?_)
    · have hc9 := c_6
      refine lv_iload_n hx hb dX8_isLeftGuard_51 rfl (lv_at hl 3 rfl) ?_
      refine k_nrm (y := (mxI (lnF lm lk b 0) (lnF lm lk b 1))) ((if_neg (Int32.not_lt.mpr c_6)).symm) ?_
      refine lv_istore_n (lv' := [(3, .int (mxI (lnF lm lk b 0) (lnF lm lk b 1))), (2, .int (mnI (lnF lm lk b 0) (lnF lm lk b 1))), (5, .int (lnF lm lk b 1)), (4, .int 1), (0, .ref mo), (1, .int b)]) hx hb dX8_isLeftGuard_52 rfl hl (by decide) rfl (fun ls hl => ?_)
      refine lv_iinc (v := 2) (lv' := [(4, .int 2), (3, .int (mxI (lnF lm lk b 0) (lnF lm lk b 1))), (2, .int (mnI (lnF lm lk b 0) (lnF lm lk b 1))), (5, .int (lnF lm lk b 1)), (0, .ref mo), (1, .int b)]) hx hb dX8_isLeftGuard_53 hl (k := 3) rfl (by decide) (by decide) rfl (fun ls hl => ?_)
      refine lv_goto (tgt := 12) hx hb dX8_isLeftGuard_56 (by decide) ?_
      refine lv_iload hx hb dX8_isLeftGuard_12 (lv_at hl 0 rfl) ?_
      refine lv_iconst (v := 3) hx hb dX8_isLeftGuard_14 (by decide) ?_
      refine lv_icmp_ge (tgt := 59) hx hb dX8_isLeftGuard_15 (by decide) (fun c9 => absurd c9 (by decide)) (fun _ => ?_)
      refine lv_aload_n hx hb dX8_isLeftGuard_18 rfl (lv_at hl 4 rfl) ?_
      refine lv_iload hx hb dX8_isLeftGuard_19 (lv_at hl 0 rfl) ?_
      refine lv_iload_n hx hb dX8_isLeftGuard_21 rfl (lv_at hl 5 rfl) ?_
      have ct := k_cut_of (wc := [(mo, .inr (8, [.ref ms, .int sv, .ref mb, .int ty, .int th, .ref mk, .int (nI lm), .ref mfd, .int mf, .int sp, .int on, .int tw])), (mk, .inl (K, 41, .inl lk))]) (wr := []) (tc := [(K, .int)]) hG hS hA hK hP hD [0, 1] [] [0] rfl rfl (by decide) (by decide) (by decide) rfl
      refine k_endi (As := [.ref mo, .int 2, .int b]) ct (k_runV (As := [.int 2, .int b]) (rest := []) S0 Lv_X8_81 rfl (ci := 8) (q0 := 0) rfl rfl ct (c_M_time2 l D mo ms sv mb ty th mk lm mfd mf sp on tw K lk b (by first | assumption | omega) (by first | assumption | omega) H.size) hl.1 rfl (Nat.le_of_ble_eq_true rfl) rfl dX8_isLeftGuard_22 ⟨⟨Nat.le_of_ble_eq_true rfl, Nat.le_of_ble_eq_true rfl⟩, Nat.le_of_ble_eq_true rfl, Nat.le_of_ble_eq_true rfl⟩) rfl rfl (fun r_7 _ H locs hw_8 hP hD hK hS => ?_)
      have hK : va_K D vwCl [(K, .int)] s := hK
      have hP : va_P D vwCl [(mo, .inr (8, [.ref ms, .int sv, .ref mb, .int ty, .int th, .ref mk, .int (nI lm), .ref mfd, .int mf, .int sp, .int on, .int tw])), (mk, .inl (K, 41, .inl lk))] H := hP
      have hD : va_D A [(mo, .inr (8, [.ref ms, .int sv, .ref mb, .int ty, .int th, .ref mk, .int (nI lm), .ref mfd, .int mf, .int sp, .int on, .int tw])), (mk, .inl (K, 41, .inl lk))] := hD
      have hw_8 : r_7 = (lnF lm lk b 2) := hw_8
      have hw_8 := hw_8.symm
      subst hw_8
      refine k_nrm (y := (lnF lm lk b 2)) rfl ?_
      refine lv_istore (lv' := [(5, .int (lnF lm lk b 2)), (4, .int 2), (3, .int (mxI (lnF lm lk b 0) (lnF lm lk b 1))), (2, .int (mnI (lnF lm lk b 0) (lnF lm lk b 1))), (0, .ref mo), (1, .int b)]) hx hb dX8_isLeftGuard_25 hl (by decide) rfl (fun ls hl => ?_)
      refine lv_iload hx hb dX8_isLeftGuard_27 (lv_at hl 0 rfl) ?_
      refine lv_iload_n hx hb dX8_isLeftGuard_29 rfl (lv_at hl 3 rfl) ?_
      refine lv_icmp_ge (tgt := 38) hx hb dX8_isLeftGuard_30 (by decide) (fun c_9 => ?_) (fun c_9 => ?_)
      · have hc9 := c_9
        refine lv_iload_n hx hb dX8_isLeftGuard_38 rfl (lv_at hl 3 rfl) ?_
        refine k_nrm (y := (mnI (mnI (lnF lm lk b 0) (lnF lm lk b 1)) (lnF lm lk b 2))) ((if_neg (Int32.not_lt.mpr c_9)).symm) ?_
        refine lv_istore_n (lv' := [(2, .int (mnI (mnI (lnF lm lk b 0) (lnF lm lk b 1)) (lnF lm lk b 2))), (5, .int (lnF lm lk b 2)), (4, .int 2), (3, .int (mxI (lnF lm lk b 0) (lnF lm lk b 1))), (0, .ref mo), (1, .int b)]) hx hb dX8_isLeftGuard_39 rfl hl (by decide) rfl (fun ls hl => ?_)
        refine lv_iload hx hb dX8_isLeftGuard_40 (lv_at hl 1 rfl) ?_
        refine lv_iload_n hx hb dX8_isLeftGuard_42 rfl (lv_at hl 3 rfl) ?_
        refine lv_icmp_le (tgt := 51) hx hb dX8_isLeftGuard_43 (by decide) (fun c_10 => ?_) (fun c_10 => ?_)
        · have hc9 := c_10
          refine lv_iload_n hx hb dX8_isLeftGuard_51 rfl (lv_at hl 3 rfl) ?_
          refine k_nrm (y := (mxI (mxI (lnF lm lk b 0) (lnF lm lk b 1)) (lnF lm lk b 2))) ((if_neg (Int32.not_lt.mpr c_10)).symm) ?_
          refine lv_istore_n (lv' := [(3, .int (mxI (mxI (lnF lm lk b 0) (lnF lm lk b 1)) (lnF lm lk b 2))), (2, .int (mnI (mnI (lnF lm lk b 0) (lnF lm lk b 1)) (lnF lm lk b 2))), (5, .int (lnF lm lk b 2)), (4, .int 2), (0, .ref mo), (1, .int b)]) hx hb dX8_isLeftGuard_52 rfl hl (by decide) rfl (fun ls hl => ?_)
          refine lv_iinc (v := 3) (lv' := [(4, .int 3), (3, .int (mxI (mxI (lnF lm lk b 0) (lnF lm lk b 1)) (lnF lm lk b 2))), (2, .int (mnI (mnI (lnF lm lk b 0) (lnF lm lk b 1)) (lnF lm lk b 2))), (5, .int (lnF lm lk b 2)), (0, .ref mo), (1, .int b)]) hx hb dX8_isLeftGuard_53 hl (k := 3) rfl (by decide) (by decide) rfl (fun ls hl => ?_)
          refine lv_goto (tgt := 12) hx hb dX8_isLeftGuard_56 (by decide) ?_
          refine lv_iload hx hb dX8_isLeftGuard_12 (lv_at hl 0 rfl) ?_
          refine lv_iconst (v := 3) hx hb dX8_isLeftGuard_14 (by decide) ?_
          refine lv_icmp_ge (tgt := 59) hx hb dX8_isLeftGuard_15 (by decide) (fun _ => ?_) (fun c9 => absurd (by decide) c9)
          refine lv_iconst (v := 2) hx hb dX8_isLeftGuard_59 (by decide) ?_
          refine lv_iload_n hx hb dX8_isLeftGuard_60 rfl (lv_at hl 1 rfl) ?_
          refine lv_imul hx hb dX8_isLeftGuard_61 ?_
          refine k_nrm (y := (2 * (mxI (mxI (lnF lm lk b 0) (lnF lm lk b 1)) (lnF lm lk b 2)))) (rfl) ?_
          refine lv_iconst (v := 3) hx hb dX8_isLeftGuard_62 (by decide) ?_
          refine lv_iload_n hx hb dX8_isLeftGuard_63 rfl (lv_at hl 2 rfl) ?_
          refine lv_imul hx hb dX8_isLeftGuard_64 ?_
          refine k_nrm (y := (3 * (mnI (mnI (lnF lm lk b 0) (lnF lm lk b 1)) (lnF lm lk b 2)))) (rfl) ?_
          refine lv_icmp_ge (tgt := 72) hx hb dX8_isLeftGuard_65 (by decide) (fun c_11 => ?_) (fun c_11 => ?_)
          · have hc9 := c_11
            refine lv_iconst (v := 0) hx hb dX8_isLeftGuard_72 (by decide) ?_
            have hP9 : va_P D vwCl [(mo, .inr (8, [.ref ms, .int sv, .ref mb, .int ty, .int th, .ref mk, .int (nI lm), .ref mfd, .int mf, .int sp, .int on, .int tw])), (mk, .inl (K, 41, .inl lk))] H := hP.sub [0, 1] rfl
            have hD9 : va_D A [(mo, .inr (8, [.ref ms, .int sv, .ref mb, .int ty, .int th, .ref mk, .int (nI lm), .ref mfd, .int mf, .int sp, .int on, .int tw])), (mk, .inl (K, 41, .inl lk))] := hD.sub [0, 1] (by decide) rfl
            have hK9 : va_K D vwCl [] s := hK.sub [] rfl
            exact W.zret (v := 0) hx hb hr (rfl) (fun t ht9 hW9 => ⟨⟨0, (), rfl, by (exact lg_p c_11), ⟨by rw [ht9]; exact hP9, va_K.moved hW9.alike hK9, hD9⟩⟩, hS.F ht9⟩) hS.2.2 dX8_isLeftGuard_73
          · have hc9 := c_11
            refine lv_iconst (v := 1) hx hb dX8_isLeftGuard_68 (by decide) ?_
            refine lv_goto (tgt := 73) hx hb dX8_isLeftGuard_69 (by decide) ?_
            have hP9 : va_P D vwCl [(mo, .inr (8, [.ref ms, .int sv, .ref mb, .int ty, .int th, .ref mk, .int (nI lm), .ref mfd, .int mf, .int sp, .int on, .int tw])), (mk, .inl (K, 41, .inl lk))] H := hP.sub [0, 1] rfl
            have hD9 : va_D A [(mo, .inr (8, [.ref ms, .int sv, .ref mb, .int ty, .int th, .ref mk, .int (nI lm), .ref mfd, .int mf, .int sp, .int on, .int tw])), (mk, .inl (K, 41, .inl lk))] := hD.sub [0, 1] (by decide) rfl
            have hK9 : va_K D vwCl [] s := hK.sub [] rfl
            exact W.zret (v := 1) hx hb hr (rfl) (fun t ht9 hW9 => ⟨⟨1, (), rfl, by (exact lg_n c_11), ⟨by rw [ht9]; exact hP9, va_K.moved hW9.alike hK9, hD9⟩⟩, hS.F ht9⟩) hS.2.2 dX8_isLeftGuard_73
        · have hc9 := c_10
          refine lv_iload hx hb dX8_isLeftGuard_46 (lv_at hl 1 rfl) ?_
          refine lv_goto (tgt := 52) hx hb dX8_isLeftGuard_48 (by decide) ?_
          refine k_nrm (y := (mxI (mxI (lnF lm lk b 0) (lnF lm lk b 1)) (lnF lm lk b 2))) ((if_pos (fa_of_nle c_10)).symm) ?_
          refine lv_istore_n (lv' := [(3, .int (mxI (mxI (lnF lm lk b 0) (lnF lm lk b 1)) (lnF lm lk b 2))), (2, .int (mnI (mnI (lnF lm lk b 0) (lnF lm lk b 1)) (lnF lm lk b 2))), (5, .int (lnF lm lk b 2)), (4, .int 2), (0, .ref mo), (1, .int b)]) hx hb dX8_isLeftGuard_52 rfl hl (by decide) rfl (fun ls hl => ?_)
          refine lv_iinc (v := 3) (lv' := [(4, .int 3), (3, .int (mxI (mxI (lnF lm lk b 0) (lnF lm lk b 1)) (lnF lm lk b 2))), (2, .int (mnI (mnI (lnF lm lk b 0) (lnF lm lk b 1)) (lnF lm lk b 2))), (5, .int (lnF lm lk b 2)), (0, .ref mo), (1, .int b)]) hx hb dX8_isLeftGuard_53 hl (k := 3) rfl (by decide) (by decide) rfl (fun ls hl => ?_)
          refine lv_goto (tgt := 12) hx hb dX8_isLeftGuard_56 (by decide) ?_
          refine lv_iload hx hb dX8_isLeftGuard_12 (lv_at hl 0 rfl) ?_
          refine lv_iconst (v := 3) hx hb dX8_isLeftGuard_14 (by decide) ?_
          refine lv_icmp_ge (tgt := 59) hx hb dX8_isLeftGuard_15 (by decide) (fun _ => ?_) (fun c9 => absurd (by decide) c9)
          refine lv_iconst (v := 2) hx hb dX8_isLeftGuard_59 (by decide) ?_
          refine lv_iload_n hx hb dX8_isLeftGuard_60 rfl (lv_at hl 1 rfl) ?_
          refine lv_imul hx hb dX8_isLeftGuard_61 ?_
          refine k_nrm (y := (2 * (mxI (mxI (lnF lm lk b 0) (lnF lm lk b 1)) (lnF lm lk b 2)))) (rfl) ?_
          refine lv_iconst (v := 3) hx hb dX8_isLeftGuard_62 (by decide) ?_
          refine lv_iload_n hx hb dX8_isLeftGuard_63 rfl (lv_at hl 2 rfl) ?_
          refine lv_imul hx hb dX8_isLeftGuard_64 ?_
          refine k_nrm (y := (3 * (mnI (mnI (lnF lm lk b 0) (lnF lm lk b 1)) (lnF lm lk b 2)))) (rfl) ?_
          refine lv_icmp_ge (tgt := 72) hx hb dX8_isLeftGuard_65 (by decide) (fun c_12 => ?_) (fun c_12 => ?_)
          · have hc9 := c_12
            refine lv_iconst (v := 0) hx hb dX8_isLeftGuard_72 (by decide) ?_
            have hP9 : va_P D vwCl [(mo, .inr (8, [.ref ms, .int sv, .ref mb, .int ty, .int th, .ref mk, .int (nI lm), .ref mfd, .int mf, .int sp, .int on, .int tw])), (mk, .inl (K, 41, .inl lk))] H := hP.sub [0, 1] rfl
            have hD9 : va_D A [(mo, .inr (8, [.ref ms, .int sv, .ref mb, .int ty, .int th, .ref mk, .int (nI lm), .ref mfd, .int mf, .int sp, .int on, .int tw])), (mk, .inl (K, 41, .inl lk))] := hD.sub [0, 1] (by decide) rfl
            have hK9 : va_K D vwCl [] s := hK.sub [] rfl
            exact W.zret (v := 0) hx hb hr (rfl) (fun t ht9 hW9 => ⟨⟨0, (), rfl, by (exact lg_p c_12), ⟨by rw [ht9]; exact hP9, va_K.moved hW9.alike hK9, hD9⟩⟩, hS.F ht9⟩) hS.2.2 dX8_isLeftGuard_73
          · have hc9 := c_12
            refine lv_iconst (v := 1) hx hb dX8_isLeftGuard_68 (by decide) ?_
            refine lv_goto (tgt := 73) hx hb dX8_isLeftGuard_69 (by decide) ?_
            have hP9 : va_P D vwCl [(mo, .inr (8, [.ref ms, .int sv, .ref mb, .int ty, .int th, .ref mk, .int (nI lm), .ref mfd, .int mf, .int sp, .int on, .int tw])), (mk, .inl (K, 41, .inl lk))] H := hP.sub [0, 1] rfl
            have hD9 : va_D A [(mo, .inr (8, [.ref ms, .int sv, .ref mb, .int ty, .int th, .ref mk, .int (nI lm), .ref mfd, .int mf, .int sp, .int on, .int tw])), (mk, .inl (K, 41, .inl lk))] := hD.sub [0, 1] (by decide) rfl
            have hK9 : va_K D vwCl [] s := hK.sub [] rfl
            exact W.zret (v := 1) hx hb hr (rfl) (fun t ht9 hW9 => ⟨⟨1, (), rfl, by (exact lg_n c_12), ⟨by rw [ht9]; exact hP9, va_K.moved hW9.alike hK9, hD9⟩⟩, hS.F ht9⟩) hS.2.2 dX8_isLeftGuard_73
      · have hc9 := c_9
        refine lv_iload hx hb dX8_isLeftGuard_33 (lv_at hl 0 rfl) ?_
        refine lv_goto (tgt := 39) hx hb dX8_isLeftGuard_35 (by decide) ?_
        refine k_nrm (y := (mnI (mnI (lnF lm lk b 0) (lnF lm lk b 1)) (lnF lm lk b 2))) ((if_pos (fa_of_nle c_9)).symm) ?_
        refine lv_istore_n (lv' := [(2, .int (mnI (mnI (lnF lm lk b 0) (lnF lm lk b 1)) (lnF lm lk b 2))), (5, .int (lnF lm lk b 2)), (4, .int 2), (3, .int (mxI (lnF lm lk b 0) (lnF lm lk b 1))), (0, .ref mo), (1, .int b)]) hx hb dX8_isLeftGuard_39 rfl hl (by decide) rfl (fun ls hl => ?_)
        refine lv_iload hx hb dX8_isLeftGuard_40 (lv_at hl 1 rfl) ?_
        refine lv_iload_n hx hb dX8_isLeftGuard_42 rfl (lv_at hl 3 rfl) ?_
        refine lv_icmp_le (tgt := 51) hx hb dX8_isLeftGuard_43 (by decide) (fun c_13 => ?_) (fun c_13 => ?_)
        · have hc9 := c_13
          refine lv_iload_n hx hb dX8_isLeftGuard_51 rfl (lv_at hl 3 rfl) ?_
          refine k_nrm (y := (mxI (mxI (lnF lm lk b 0) (lnF lm lk b 1)) (lnF lm lk b 2))) ((if_neg (Int32.not_lt.mpr c_13)).symm) ?_
          refine lv_istore_n (lv' := [(3, .int (mxI (mxI (lnF lm lk b 0) (lnF lm lk b 1)) (lnF lm lk b 2))), (2, .int (mnI (mnI (lnF lm lk b 0) (lnF lm lk b 1)) (lnF lm lk b 2))), (5, .int (lnF lm lk b 2)), (4, .int 2), (0, .ref mo), (1, .int b)]) hx hb dX8_isLeftGuard_52 rfl hl (by decide) rfl (fun ls hl => ?_)
          refine lv_iinc (v := 3) (lv' := [(4, .int 3), (3, .int (mxI (mxI (lnF lm lk b 0) (lnF lm lk b 1)) (lnF lm lk b 2))), (2, .int (mnI (mnI (lnF lm lk b 0) (lnF lm lk b 1)) (lnF lm lk b 2))), (5, .int (lnF lm lk b 2)), (0, .ref mo), (1, .int b)]) hx hb dX8_isLeftGuard_53 hl (k := 3) rfl (by decide) (by decide) rfl (fun ls hl => ?_)
          refine lv_goto (tgt := 12) hx hb dX8_isLeftGuard_56 (by decide) ?_
          refine lv_iload hx hb dX8_isLeftGuard_12 (lv_at hl 0 rfl) ?_
          refine lv_iconst (v := 3) hx hb dX8_isLeftGuard_14 (by decide) ?_
          refine lv_icmp_ge (tgt := 59) hx hb dX8_isLeftGuard_15 (by decide) (fun _ => ?_) (fun c9 => absurd (by decide) c9)
          refine lv_iconst (v := 2) hx hb dX8_isLeftGuard_59 (by decide) ?_
          refine lv_iload_n hx hb dX8_isLeftGuard_60 rfl (lv_at hl 1 rfl) ?_
          refine lv_imul hx hb dX8_isLeftGuard_61 ?_
          refine k_nrm (y := (2 * (mxI (mxI (lnF lm lk b 0) (lnF lm lk b 1)) (lnF lm lk b 2)))) (rfl) ?_
          refine lv_iconst (v := 3) hx hb dX8_isLeftGuard_62 (by decide) ?_
          refine lv_iload_n hx hb dX8_isLeftGuard_63 rfl (lv_at hl 2 rfl) ?_
          refine lv_imul hx hb dX8_isLeftGuard_64 ?_
          refine k_nrm (y := (3 * (mnI (mnI (lnF lm lk b 0) (lnF lm lk b 1)) (lnF lm lk b 2)))) (rfl) ?_
          refine lv_icmp_ge (tgt := 72) hx hb dX8_isLeftGuard_65 (by decide) (fun c_14 => ?_) (fun c_14 => ?_)
          · have hc9 := c_14
            refine lv_iconst (v := 0) hx hb dX8_isLeftGuard_72 (by decide) ?_
            have hP9 : va_P D vwCl [(mo, .inr (8, [.ref ms, .int sv, .ref mb, .int ty, .int th, .ref mk, .int (nI lm), .ref mfd, .int mf, .int sp, .int on, .int tw])), (mk, .inl (K, 41, .inl lk))] H := hP.sub [0, 1] rfl
            have hD9 : va_D A [(mo, .inr (8, [.ref ms, .int sv, .ref mb, .int ty, .int th, .ref mk, .int (nI lm), .ref mfd, .int mf, .int sp, .int on, .int tw])), (mk, .inl (K, 41, .inl lk))] := hD.sub [0, 1] (by decide) rfl
            have hK9 : va_K D vwCl [] s := hK.sub [] rfl
            exact W.zret (v := 0) hx hb hr (rfl) (fun t ht9 hW9 => ⟨⟨0, (), rfl, by (exact lg_p c_14), ⟨by rw [ht9]; exact hP9, va_K.moved hW9.alike hK9, hD9⟩⟩, hS.F ht9⟩) hS.2.2 dX8_isLeftGuard_73
          · have hc9 := c_14
            refine lv_iconst (v := 1) hx hb dX8_isLeftGuard_68 (by decide) ?_
            refine lv_goto (tgt := 73) hx hb dX8_isLeftGuard_69 (by decide) ?_
            have hP9 : va_P D vwCl [(mo, .inr (8, [.ref ms, .int sv, .ref mb, .int ty, .int th, .ref mk, .int (nI lm), .ref mfd, .int mf, .int sp, .int on, .int tw])), (mk, .inl (K, 41, .inl lk))] H := hP.sub [0, 1] rfl
            have hD9 : va_D A [(mo, .inr (8, [.ref ms, .int sv, .ref mb, .int ty, .int th, .ref mk, .int (nI lm), .ref mfd, .int mf, .int sp, .int on, .int tw])), (mk, .inl (K, 41, .inl lk))] := hD.sub [0, 1] (by decide) rfl
            have hK9 : va_K D vwCl [] s := hK.sub [] rfl
            exact W.zret (v := 1) hx hb hr (rfl) (fun t ht9 hW9 => ⟨⟨1, (), rfl, by (exact lg_n c_14), ⟨by rw [ht9]; exact hP9, va_K.moved hW9.alike hK9, hD9⟩⟩, hS.F ht9⟩) hS.2.2 dX8_isLeftGuard_73
        · have hc9 := c_13
          refine lv_iload hx hb dX8_isLeftGuard_46 (lv_at hl 1 rfl) ?_
          refine lv_goto (tgt := 52) hx hb dX8_isLeftGuard_48 (by decide) ?_
          refine k_nrm (y := (mxI (mxI (lnF lm lk b 0) (lnF lm lk b 1)) (lnF lm lk b 2))) ((if_pos (fa_of_nle c_13)).symm) ?_
          refine lv_istore_n (lv' := [(3, .int (mxI (mxI (lnF lm lk b 0) (lnF lm lk b 1)) (lnF lm lk b 2))), (2, .int (mnI (mnI (lnF lm lk b 0) (lnF lm lk b 1)) (lnF lm lk b 2))), (5, .int (lnF lm lk b 2)), (4, .int 2), (0, .ref mo), (1, .int b)]) hx hb dX8_isLeftGuard_52 rfl hl (by decide) rfl (fun ls hl => ?_)
          refine lv_iinc (v := 3) (lv' := [(4, .int 3), (3, .int (mxI (mxI (lnF lm lk b 0) (lnF lm lk b 1)) (lnF lm lk b 2))), (2, .int (mnI (mnI (lnF lm lk b 0) (lnF lm lk b 1)) (lnF lm lk b 2))), (5, .int (lnF lm lk b 2)), (0, .ref mo), (1, .int b)]) hx hb dX8_isLeftGuard_53 hl (k := 3) rfl (by decide) (by decide) rfl (fun ls hl => ?_)
          refine lv_goto (tgt := 12) hx hb dX8_isLeftGuard_56 (by decide) ?_
          refine lv_iload hx hb dX8_isLeftGuard_12 (lv_at hl 0 rfl) ?_
          refine lv_iconst (v := 3) hx hb dX8_isLeftGuard_14 (by decide) ?_
          refine lv_icmp_ge (tgt := 59) hx hb dX8_isLeftGuard_15 (by decide) (fun _ => ?_) (fun c9 => absurd (by decide) c9)
          refine lv_iconst (v := 2) hx hb dX8_isLeftGuard_59 (by decide) ?_
          refine lv_iload_n hx hb dX8_isLeftGuard_60 rfl (lv_at hl 1 rfl) ?_
          refine lv_imul hx hb dX8_isLeftGuard_61 ?_
          refine k_nrm (y := (2 * (mxI (mxI (lnF lm lk b 0) (lnF lm lk b 1)) (lnF lm lk b 2)))) (rfl) ?_
          refine lv_iconst (v := 3) hx hb dX8_isLeftGuard_62 (by decide) ?_
          refine lv_iload_n hx hb dX8_isLeftGuard_63 rfl (lv_at hl 2 rfl) ?_
          refine lv_imul hx hb dX8_isLeftGuard_64 ?_
          refine k_nrm (y := (3 * (mnI (mnI (lnF lm lk b 0) (lnF lm lk b 1)) (lnF lm lk b 2)))) (rfl) ?_
          refine lv_icmp_ge (tgt := 72) hx hb dX8_isLeftGuard_65 (by decide) (fun c_15 => ?_) (fun c_15 => ?_)
          · have hc9 := c_15
            refine lv_iconst (v := 0) hx hb dX8_isLeftGuard_72 (by decide) ?_
            have hP9 : va_P D vwCl [(mo, .inr (8, [.ref ms, .int sv, .ref mb, .int ty, .int th, .ref mk, .int (nI lm), .ref mfd, .int mf, .int sp, .int on, .int tw])), (mk, .inl (K, 41, .inl lk))] H := hP.sub [0, 1] rfl
            have hD9 : va_D A [(mo, .inr (8, [.ref ms, .int sv, .ref mb, .int ty, .int th, .ref mk, .int (nI lm), .ref mfd, .int mf, .int sp, .int on, .int tw])), (mk, .inl (K, 41, .inl lk))] := hD.sub [0, 1] (by decide) rfl
            have hK9 : va_K D vwCl [] s := hK.sub [] rfl
            exact W.zret (v := 0) hx hb hr (rfl) (fun t ht9 hW9 => ⟨⟨0, (), rfl, by (exact lg_p c_15), ⟨by rw [ht9]; exact hP9, va_K.moved hW9.alike hK9, hD9⟩⟩, hS.F ht9⟩) hS.2.2 dX8_isLeftGuard_73
          · have hc9 := c_15
            refine lv_iconst (v := 1) hx hb dX8_isLeftGuard_68 (by decide) ?_
            refine lv_goto (tgt := 73) hx hb dX8_isLeftGuard_69 (by decide) ?_
            have hP9 : va_P D vwCl [(mo, .inr (8, [.ref ms, .int sv, .ref mb, .int ty, .int th, .ref mk, .int (nI lm), .ref mfd, .int mf, .int sp, .int on, .int tw])), (mk, .inl (K, 41, .inl lk))] H := hP.sub [0, 1] rfl
            have hD9 : va_D A [(mo, .inr (8, [.ref ms, .int sv, .ref mb, .int ty, .int th, .ref mk, .int (nI lm), .ref mfd, .int mf, .int sp, .int on, .int tw])), (mk, .inl (K, 41, .inl lk))] := hD.sub [0, 1] (by decide) rfl
            have hK9 : va_K D vwCl [] s := hK.sub [] rfl
            exact W.zret (v := 1) hx hb hr (rfl) (fun t ht9 hW9 => ⟨⟨1, (), rfl, by (exact lg_n c_15), ⟨by rw [ht9]; exact hP9, va_K.moved hW9.alike hK9, hD9⟩⟩, hS.F ht9⟩) hS.2.2 dX8_isLeftGuard_73
    · have hc9 := c_6
      refine lv_iload hx hb dX8_isLeftGuard_46 (lv_at hl 1 rfl) ?_
      refine lv_goto (tgt := 52) hx hb dX8_isLeftGuard_48 (by decide) ?_
      refine k_nrm (y := (mxI (lnF lm lk b 0) (lnF lm lk b 1))) ((if_pos (fa_of_nle c_6)).symm) ?_
      refine lv_istore_n (lv' := [(3, .int (mxI (lnF lm lk b 0) (lnF lm lk b 1))), (2, .int (mnI (lnF lm lk b 0) (lnF lm lk b 1))), (5, .int (lnF lm lk b 1)), (4, .int 1), (0, .ref mo), (1, .int b)]) hx hb dX8_isLeftGuard_52 rfl hl (by decide) rfl (fun ls hl => ?_)
      refine lv_iinc (v := 2) (lv' := [(4, .int 2), (3, .int (mxI (lnF lm lk b 0) (lnF lm lk b 1))), (2, .int (mnI (lnF lm lk b 0) (lnF lm lk b 1))), (5, .int (lnF lm lk b 1)), (0, .ref mo), (1, .int b)]) hx hb dX8_isLeftGuard_53 hl (k := 3) rfl (by decide) (by decide) rfl (fun ls hl => ?_)
      refine lv_goto (tgt := 12) hx hb dX8_isLeftGuard_56 (by decide) ?_
      refine lv_iload hx hb dX8_isLeftGuard_12 (lv_at hl 0 rfl) ?_
      refine lv_iconst (v := 3) hx hb dX8_isLeftGuard_14 (by decide) ?_
      refine lv_icmp_ge (tgt := 59) hx hb dX8_isLeftGuard_15 (by decide) (fun c9 => absurd c9 (by decide)) (fun _ => ?_)
      refine lv_aload_n hx hb dX8_isLeftGuard_18 rfl (lv_at hl 4 rfl) ?_
      refine lv_iload hx hb dX8_isLeftGuard_19 (lv_at hl 0 rfl) ?_
      refine lv_iload_n hx hb dX8_isLeftGuard_21 rfl (lv_at hl 5 rfl) ?_
      have ct := k_cut_of (wc := [(mo, .inr (8, [.ref ms, .int sv, .ref mb, .int ty, .int th, .ref mk, .int (nI lm), .ref mfd, .int mf, .int sp, .int on, .int tw])), (mk, .inl (K, 41, .inl lk))]) (wr := []) (tc := [(K, .int)]) hG hS hA hK hP hD [0, 1] [] [0] rfl rfl (by decide) (by decide) (by decide) rfl
      refine k_endi (As := [.ref mo, .int 2, .int b]) ct (k_runV (As := [.int 2, .int b]) (rest := []) S0 Lv_X8_81 rfl (ci := 8) (q0 := 0) rfl rfl ct (c_M_time2 l D mo ms sv mb ty th mk lm mfd mf sp on tw K lk b (by first | assumption | omega) (by first | assumption | omega) H.size) hl.1 rfl (Nat.le_of_ble_eq_true rfl) rfl dX8_isLeftGuard_22 ⟨⟨Nat.le_of_ble_eq_true rfl, Nat.le_of_ble_eq_true rfl⟩, Nat.le_of_ble_eq_true rfl, Nat.le_of_ble_eq_true rfl⟩) rfl rfl (fun r_16 _ H locs hw_17 hP hD hK hS => ?_)
      have hK : va_K D vwCl [(K, .int)] s := hK
      have hP : va_P D vwCl [(mo, .inr (8, [.ref ms, .int sv, .ref mb, .int ty, .int th, .ref mk, .int (nI lm), .ref mfd, .int mf, .int sp, .int on, .int tw])), (mk, .inl (K, 41, .inl lk))] H := hP
      have hD : va_D A [(mo, .inr (8, [.ref ms, .int sv, .ref mb, .int ty, .int th, .ref mk, .int (nI lm), .ref mfd, .int mf, .int sp, .int on, .int tw])), (mk, .inl (K, 41, .inl lk))] := hD
      have hw_17 : r_16 = (lnF lm lk b 2) := hw_17
      have hw_17 := hw_17.symm
      subst hw_17
      refine k_nrm (y := (lnF lm lk b 2)) rfl ?_
      refine lv_istore (lv' := [(5, .int (lnF lm lk b 2)), (4, .int 2), (3, .int (mxI (lnF lm lk b 0) (lnF lm lk b 1))), (2, .int (mnI (lnF lm lk b 0) (lnF lm lk b 1))), (0, .ref mo), (1, .int b)]) hx hb dX8_isLeftGuard_25 hl (by decide) rfl (fun ls hl => ?_)
      refine lv_iload hx hb dX8_isLeftGuard_27 (lv_at hl 0 rfl) ?_
      refine lv_iload_n hx hb dX8_isLeftGuard_29 rfl (lv_at hl 3 rfl) ?_
      refine lv_icmp_ge (tgt := 38) hx hb dX8_isLeftGuard_30 (by decide) (fun c_18 => ?_) (fun c_18 => ?_)
      · have hc9 := c_18
        refine lv_iload_n hx hb dX8_isLeftGuard_38 rfl (lv_at hl 3 rfl) ?_
        refine k_nrm (y := (mnI (mnI (lnF lm lk b 0) (lnF lm lk b 1)) (lnF lm lk b 2))) ((if_neg (Int32.not_lt.mpr c_18)).symm) ?_
        refine lv_istore_n (lv' := [(2, .int (mnI (mnI (lnF lm lk b 0) (lnF lm lk b 1)) (lnF lm lk b 2))), (5, .int (lnF lm lk b 2)), (4, .int 2), (3, .int (mxI (lnF lm lk b 0) (lnF lm lk b 1))), (0, .ref mo), (1, .int b)]) hx hb dX8_isLeftGuard_39 rfl hl (by decide) rfl (fun ls hl => ?_)
        refine lv_iload hx hb dX8_isLeftGuard_40 (lv_at hl 1 rfl) ?_
        refine lv_iload_n hx hb dX8_isLeftGuard_42 rfl (lv_at hl 3 rfl) ?_
        refine lv_icmp_le (tgt := 51) hx hb dX8_isLeftGuard_43 (by decide) (fun c_19 => ?_) (fun c_19 => ?_)
        · have hc9 := c_19
          refine lv_iload_n hx hb dX8_isLeftGuard_51 rfl (lv_at hl 3 rfl) ?_
          refine k_nrm (y := (mxI (mxI (lnF lm lk b 0) (lnF lm lk b 1)) (lnF lm lk b 2))) ((if_neg (Int32.not_lt.mpr c_19)).symm) ?_
          refine lv_istore_n (lv' := [(3, .int (mxI (mxI (lnF lm lk b 0) (lnF lm lk b 1)) (lnF lm lk b 2))), (2, .int (mnI (mnI (lnF lm lk b 0) (lnF lm lk b 1)) (lnF lm lk b 2))), (5, .int (lnF lm lk b 2)), (4, .int 2), (0, .ref mo), (1, .int b)]) hx hb dX8_isLeftGuard_52 rfl hl (by decide) rfl (fun ls hl => ?_)
          refine lv_iinc (v := 3) (lv' := [(4, .int 3), (3, .int (mxI (mxI (lnF lm lk b 0) (lnF lm lk b 1)) (lnF lm lk b 2))), (2, .int (mnI (mnI (lnF lm lk b 0) (lnF lm lk b 1)) (lnF lm lk b 2))), (5, .int (lnF lm lk b 2)), (0, .ref mo), (1, .int b)]) hx hb dX8_isLeftGuard_53 hl (k := 3) rfl (by decide) (by decide) rfl (fun ls hl => ?_)
          refine lv_goto (tgt := 12) hx hb dX8_isLeftGuard_56 (by decide) ?_
          refine lv_iload hx hb dX8_isLeftGuard_12 (lv_at hl 0 rfl) ?_
          refine lv_iconst (v := 3) hx hb dX8_isLeftGuard_14 (by decide) ?_
          refine lv_icmp_ge (tgt := 59) hx hb dX8_isLeftGuard_15 (by decide) (fun _ => ?_) (fun c9 => absurd (by decide) c9)
          refine lv_iconst (v := 2) hx hb dX8_isLeftGuard_59 (by decide) ?_
          refine lv_iload_n hx hb dX8_isLeftGuard_60 rfl (lv_at hl 1 rfl) ?_
          refine lv_imul hx hb dX8_isLeftGuard_61 ?_
          refine k_nrm (y := (2 * (mxI (mxI (lnF lm lk b 0) (lnF lm lk b 1)) (lnF lm lk b 2)))) (rfl) ?_
          refine lv_iconst (v := 3) hx hb dX8_isLeftGuard_62 (by decide) ?_
          refine lv_iload_n hx hb dX8_isLeftGuard_63 rfl (lv_at hl 2 rfl) ?_
          refine lv_imul hx hb dX8_isLeftGuard_64 ?_
          refine k_nrm (y := (3 * (mnI (mnI (lnF lm lk b 0) (lnF lm lk b 1)) (lnF lm lk b 2)))) (rfl) ?_
          refine lv_icmp_ge (tgt := 72) hx hb dX8_isLeftGuard_65 (by decide) (fun c_20 => ?_) (fun c_20 => ?_)
          · have hc9 := c_20
            refine lv_iconst (v := 0) hx hb dX8_isLeftGuard_72 (by decide) ?_
            have hP9 : va_P D vwCl [(mo, .inr (8, [.ref ms, .int sv, .ref mb, .int ty, .int th, .ref mk, .int (nI lm), .ref mfd, .int mf, .int sp, .int on, .int tw])), (mk, .inl (K, 41, .inl lk))] H := hP.sub [0, 1] rfl
            have hD9 : va_D A [(mo, .inr (8, [.ref ms, .int sv, .ref mb, .int ty, .int th, .ref mk, .int (nI lm), .ref mfd, .int mf, .int sp, .int on, .int tw])), (mk, .inl (K, 41, .inl lk))] := hD.sub [0, 1] (by decide) rfl
            have hK9 : va_K D vwCl [] s := hK.sub [] rfl
            exact W.zret (v := 0) hx hb hr (rfl) (fun t ht9 hW9 => ⟨⟨0, (), rfl, by (exact lg_p c_20), ⟨by rw [ht9]; exact hP9, va_K.moved hW9.alike hK9, hD9⟩⟩, hS.F ht9⟩) hS.2.2 dX8_isLeftGuard_73
          · have hc9 := c_20
            refine lv_iconst (v := 1) hx hb dX8_isLeftGuard_68 (by decide) ?_
            refine lv_goto (tgt := 73) hx hb dX8_isLeftGuard_69 (by decide) ?_
            have hP9 : va_P D vwCl [(mo, .inr (8, [.ref ms, .int sv, .ref mb, .int ty, .int th, .ref mk, .int (nI lm), .ref mfd, .int mf, .int sp, .int on, .int tw])), (mk, .inl (K, 41, .inl lk))] H := hP.sub [0, 1] rfl
            have hD9 : va_D A [(mo, .inr (8, [.ref ms, .int sv, .ref mb, .int ty, .int th, .ref mk, .int (nI lm), .ref mfd, .int mf, .int sp, .int on, .int tw])), (mk, .inl (K, 41, .inl lk))] := hD.sub [0, 1] (by decide) rfl
            have hK9 : va_K D vwCl [] s := hK.sub [] rfl
            exact W.zret (v := 1) hx hb hr (rfl) (fun t ht9 hW9 => ⟨⟨1, (), rfl, by (exact lg_n c_20), ⟨by rw [ht9]; exact hP9, va_K.moved hW9.alike hK9, hD9⟩⟩, hS.F ht9⟩) hS.2.2 dX8_isLeftGuard_73
        · have hc9 := c_19
          refine lv_iload hx hb dX8_isLeftGuard_46 (lv_at hl 1 rfl) ?_
          refine lv_goto (tgt := 52) hx hb dX8_isLeftGuard_48 (by decide) ?_
          refine k_nrm (y := (mxI (mxI (lnF lm lk b 0) (lnF lm lk b 1)) (lnF lm lk b 2))) ((if_pos (fa_of_nle c_19)).symm) ?_
          refine lv_istore_n (lv' := [(3, .int (mxI (mxI (lnF lm lk b 0) (lnF lm lk b 1)) (lnF lm lk b 2))), (2, .int (mnI (mnI (lnF lm lk b 0) (lnF lm lk b 1)) (lnF lm lk b 2))), (5, .int (lnF lm lk b 2)), (4, .int 2), (0, .ref mo), (1, .int b)]) hx hb dX8_isLeftGuard_52 rfl hl (by decide) rfl (fun ls hl => ?_)
          refine lv_iinc (v := 3) (lv' := [(4, .int 3), (3, .int (mxI (mxI (lnF lm lk b 0) (lnF lm lk b 1)) (lnF lm lk b 2))), (2, .int (mnI (mnI (lnF lm lk b 0) (lnF lm lk b 1)) (lnF lm lk b 2))), (5, .int (lnF lm lk b 2)), (0, .ref mo), (1, .int b)]) hx hb dX8_isLeftGuard_53 hl (k := 3) rfl (by decide) (by decide) rfl (fun ls hl => ?_)
          refine lv_goto (tgt := 12) hx hb dX8_isLeftGuard_56 (by decide) ?_
          refine lv_iload hx hb dX8_isLeftGuard_12 (lv_at hl 0 rfl) ?_
          refine lv_iconst (v := 3) hx hb dX8_isLeftGuard_14 (by decide) ?_
          refine lv_icmp_ge (tgt := 59) hx hb dX8_isLeftGuard_15 (by decide) (fun _ => ?_) (fun c9 => absurd (by decide) c9)
          refine lv_iconst (v := 2) hx hb dX8_isLeftGuard_59 (by decide) ?_
          refine lv_iload_n hx hb dX8_isLeftGuard_60 rfl (lv_at hl 1 rfl) ?_
          refine lv_imul hx hb dX8_isLeftGuard_61 ?_
          refine k_nrm (y := (2 * (mxI (mxI (lnF lm lk b 0) (lnF lm lk b 1)) (lnF lm lk b 2)))) (rfl) ?_
          refine lv_iconst (v := 3) hx hb dX8_isLeftGuard_62 (by decide) ?_
          refine lv_iload_n hx hb dX8_isLeftGuard_63 rfl (lv_at hl 2 rfl) ?_
          refine lv_imul hx hb dX8_isLeftGuard_64 ?_
          refine k_nrm (y := (3 * (mnI (mnI (lnF lm lk b 0) (lnF lm lk b 1)) (lnF lm lk b 2)))) (rfl) ?_
          refine lv_icmp_ge (tgt := 72) hx hb dX8_isLeftGuard_65 (by decide) (fun c_21 => ?_) (fun c_21 => ?_)
          · have hc9 := c_21
            refine lv_iconst (v := 0) hx hb dX8_isLeftGuard_72 (by decide) ?_
            have hP9 : va_P D vwCl [(mo, .inr (8, [.ref ms, .int sv, .ref mb, .int ty, .int th, .ref mk, .int (nI lm), .ref mfd, .int mf, .int sp, .int on, .int tw])), (mk, .inl (K, 41, .inl lk))] H := hP.sub [0, 1] rfl
            have hD9 : va_D A [(mo, .inr (8, [.ref ms, .int sv, .ref mb, .int ty, .int th, .ref mk, .int (nI lm), .ref mfd, .int mf, .int sp, .int on, .int tw])), (mk, .inl (K, 41, .inl lk))] := hD.sub [0, 1] (by decide) rfl
            have hK9 : va_K D vwCl [] s := hK.sub [] rfl
            exact W.zret (v := 0) hx hb hr (rfl) (fun t ht9 hW9 => ⟨⟨0, (), rfl, by (exact lg_p c_21), ⟨by rw [ht9]; exact hP9, va_K.moved hW9.alike hK9, hD9⟩⟩, hS.F ht9⟩) hS.2.2 dX8_isLeftGuard_73
          · have hc9 := c_21
            refine lv_iconst (v := 1) hx hb dX8_isLeftGuard_68 (by decide) ?_
            refine lv_goto (tgt := 73) hx hb dX8_isLeftGuard_69 (by decide) ?_
            have hP9 : va_P D vwCl [(mo, .inr (8, [.ref ms, .int sv, .ref mb, .int ty, .int th, .ref mk, .int (nI lm), .ref mfd, .int mf, .int sp, .int on, .int tw])), (mk, .inl (K, 41, .inl lk))] H := hP.sub [0, 1] rfl
            have hD9 : va_D A [(mo, .inr (8, [.ref ms, .int sv, .ref mb, .int ty, .int th, .ref mk, .int (nI lm), .ref mfd, .int mf, .int sp, .int on, .int tw])), (mk, .inl (K, 41, .inl lk))] := hD.sub [0, 1] (by decide) rfl
            have hK9 : va_K D vwCl [] s := hK.sub [] rfl
            exact W.zret (v := 1) hx hb hr (rfl) (fun t ht9 hW9 => ⟨⟨1, (), rfl, by (exact lg_n c_21), ⟨by rw [ht9]; exact hP9, va_K.moved hW9.alike hK9, hD9⟩⟩, hS.F ht9⟩) hS.2.2 dX8_isLeftGuard_73
      · have hc9 := c_18
        refine lv_iload hx hb dX8_isLeftGuard_33 (lv_at hl 0 rfl) ?_
        refine lv_goto (tgt := 39) hx hb dX8_isLeftGuard_35 (by decide) ?_
        refine k_nrm (y := (mnI (mnI (lnF lm lk b 0) (lnF lm lk b 1)) (lnF lm lk b 2))) ((if_pos (fa_of_nle c_18)).symm) ?_
        refine lv_istore_n (lv' := [(2, .int (mnI (mnI (lnF lm lk b 0) (lnF lm lk b 1)) (lnF lm lk b 2))), (5, .int (lnF lm lk b 2)), (4, .int 2), (3, .int (mxI (lnF lm lk b 0) (lnF lm lk b 1))), (0, .ref mo), (1, .int b)]) hx hb dX8_isLeftGuard_39 rfl hl (by decide) rfl (fun ls hl => ?_)
        refine lv_iload hx hb dX8_isLeftGuard_40 (lv_at hl 1 rfl) ?_
        refine lv_iload_n hx hb dX8_isLeftGuard_42 rfl (lv_at hl 3 rfl) ?_
        refine lv_icmp_le (tgt := 51) hx hb dX8_isLeftGuard_43 (by decide) (fun c_22 => ?_) (fun c_22 => ?_)
        · have hc9 := c_22
          refine lv_iload_n hx hb dX8_isLeftGuard_51 rfl (lv_at hl 3 rfl) ?_
          refine k_nrm (y := (mxI (mxI (lnF lm lk b 0) (lnF lm lk b 1)) (lnF lm lk b 2))) ((if_neg (Int32.not_lt.mpr c_22)).symm) ?_
          refine lv_istore_n (lv' := [(3, .int (mxI (mxI (lnF lm lk b 0) (lnF lm lk b 1)) (lnF lm lk b 2))), (2, .int (mnI (mnI (lnF lm lk b 0) (lnF lm lk b 1)) (lnF lm lk b 2))), (5, .int (lnF lm lk b 2)), (4, .int 2), (0, .ref mo), (1, .int b)]) hx hb dX8_isLeftGuard_52 rfl hl (by decide) rfl (fun ls hl => ?_)
          refine lv_iinc (v := 3) (lv' := [(4, .int 3), (3, .int (mxI (mxI (lnF lm lk b 0) (lnF lm lk b 1)) (lnF lm lk b 2))), (2, .int (mnI (mnI (lnF lm lk b 0) (lnF lm lk b 1)) (lnF lm lk b 2))), (5, .int (lnF lm lk b 2)), (0, .ref mo), (1, .int b)]) hx hb dX8_isLeftGuard_53 hl (k := 3) rfl (by decide) (by decide) rfl (fun ls hl => ?_)
          refine lv_goto (tgt := 12) hx hb dX8_isLeftGuard_56 (by decide) ?_
          refine lv_iload hx hb dX8_isLeftGuard_12 (lv_at hl 0 rfl) ?_
          refine lv_iconst (v := 3) hx hb dX8_isLeftGuard_14 (by decide) ?_
          refine lv_icmp_ge (tgt := 59) hx hb dX8_isLeftGuard_15 (by decide) (fun _ => ?_) (fun c9 => absurd (by decide) c9)
          refine lv_iconst (v := 2) hx hb dX8_isLeftGuard_59 (by decide) ?_
          refine lv_iload_n hx hb dX8_isLeftGuard_60 rfl (lv_at hl 1 rfl) ?_
          refine lv_imul hx hb dX8_isLeftGuard_61 ?_
          refine k_nrm (y := (2 * (mxI (mxI (lnF lm lk b 0) (lnF lm lk b 1)) (lnF lm lk b 2)))) (rfl) ?_
          refine lv_iconst (v := 3) hx hb dX8_isLeftGuard_62 (by decide) ?_
          refine lv_iload_n hx hb dX8_isLeftGuard_63 rfl (lv_at hl 2 rfl) ?_
          refine lv_imul hx hb dX8_isLeftGuard_64 ?_
          refine k_nrm (y := (3 * (mnI (mnI (lnF lm lk b 0) (lnF lm lk b 1)) (lnF lm lk b 2)))) (rfl) ?_
          refine lv_icmp_ge (tgt := 72) hx hb dX8_isLeftGuard_65 (by decide) (fun c_23 => ?_) (fun c_23 => ?_)
          · have hc9 := c_23
            refine lv_iconst (v := 0) hx hb dX8_isLeftGuard_72 (by decide) ?_
            have hP9 : va_P D vwCl [(mo, .inr (8, [.ref ms, .int sv, .ref mb, .int ty, .int th, .ref mk, .int (nI lm), .ref mfd, .int mf, .int sp, .int on, .int tw])), (mk, .inl (K, 41, .inl lk))] H := hP.sub [0, 1] rfl
            have hD9 : va_D A [(mo, .inr (8, [.ref ms, .int sv, .ref mb, .int ty, .int th, .ref mk, .int (nI lm), .ref mfd, .int mf, .int sp, .int on, .int tw])), (mk, .inl (K, 41, .inl lk))] := hD.sub [0, 1] (by decide) rfl
            have hK9 : va_K D vwCl [] s := hK.sub [] rfl
            exact W.zret (v := 0) hx hb hr (rfl) (fun t ht9 hW9 => ⟨⟨0, (), rfl, by (exact lg_p c_23), ⟨by rw [ht9]; exact hP9, va_K.moved hW9.alike hK9, hD9⟩⟩, hS.F ht9⟩) hS.2.2 dX8_isLeftGuard_73
          · have hc9 := c_23
            refine lv_iconst (v := 1) hx hb dX8_isLeftGuard_68 (by decide) ?_
            refine lv_goto (tgt := 73) hx hb dX8_isLeftGuard_69 (by decide) ?_
            have hP9 : va_P D vwCl [(mo, .inr (8, [.ref ms, .int sv, .ref mb, .int ty, .int th, .ref mk, .int (nI lm), .ref mfd, .int mf, .int sp, .int on, .int tw])), (mk, .inl (K, 41, .inl lk))] H := hP.sub [0, 1] rfl
            have hD9 : va_D A [(mo, .inr (8, [.ref ms, .int sv, .ref mb, .int ty, .int th, .ref mk, .int (nI lm), .ref mfd, .int mf, .int sp, .int on, .int tw])), (mk, .inl (K, 41, .inl lk))] := hD.sub [0, 1] (by decide) rfl
            have hK9 : va_K D vwCl [] s := hK.sub [] rfl
            exact W.zret (v := 1) hx hb hr (rfl) (fun t ht9 hW9 => ⟨⟨1, (), rfl, by (exact lg_n c_23), ⟨by rw [ht9]; exact hP9, va_K.moved hW9.alike hK9, hD9⟩⟩, hS.F ht9⟩) hS.2.2 dX8_isLeftGuard_73
        · have hc9 := c_22
          refine lv_iload hx hb dX8_isLeftGuard_46 (lv_at hl 1 rfl) ?_
          refine lv_goto (tgt := 52) hx hb dX8_isLeftGuard_48 (by decide) ?_
          refine k_nrm (y := (mxI (mxI (lnF lm lk b 0) (lnF lm lk b 1)) (lnF lm lk b 2))) ((if_pos (fa_of_nle c_22)).symm) ?_
          refine lv_istore_n (lv' := [(3, .int (mxI (mxI (lnF lm lk b 0) (lnF lm lk b 1)) (lnF lm lk b 2))), (2, .int (mnI (mnI (lnF lm lk b 0) (lnF lm lk b 1)) (lnF lm lk b 2))), (5, .int (lnF lm lk b 2)), (4, .int 2), (0, .ref mo), (1, .int b)]) hx hb dX8_isLeftGuard_52 rfl hl (by decide) rfl (fun ls hl => ?_)
          refine lv_iinc (v := 3) (lv' := [(4, .int 3), (3, .int (mxI (mxI (lnF lm lk b 0) (lnF lm lk b 1)) (lnF lm lk b 2))), (2, .int (mnI (mnI (lnF lm lk b 0) (lnF lm lk b 1)) (lnF lm lk b 2))), (5, .int (lnF lm lk b 2)), (0, .ref mo), (1, .int b)]) hx hb dX8_isLeftGuard_53 hl (k := 3) rfl (by decide) (by decide) rfl (fun ls hl => ?_)
          refine lv_goto (tgt := 12) hx hb dX8_isLeftGuard_56 (by decide) ?_
          refine lv_iload hx hb dX8_isLeftGuard_12 (lv_at hl 0 rfl) ?_
          refine lv_iconst (v := 3) hx hb dX8_isLeftGuard_14 (by decide) ?_
          refine lv_icmp_ge (tgt := 59) hx hb dX8_isLeftGuard_15 (by decide) (fun _ => ?_) (fun c9 => absurd (by decide) c9)
          refine lv_iconst (v := 2) hx hb dX8_isLeftGuard_59 (by decide) ?_
          refine lv_iload_n hx hb dX8_isLeftGuard_60 rfl (lv_at hl 1 rfl) ?_
          refine lv_imul hx hb dX8_isLeftGuard_61 ?_
          refine k_nrm (y := (2 * (mxI (mxI (lnF lm lk b 0) (lnF lm lk b 1)) (lnF lm lk b 2)))) (rfl) ?_
          refine lv_iconst (v := 3) hx hb dX8_isLeftGuard_62 (by decide) ?_
          refine lv_iload_n hx hb dX8_isLeftGuard_63 rfl (lv_at hl 2 rfl) ?_
          refine lv_imul hx hb dX8_isLeftGuard_64 ?_
          refine k_nrm (y := (3 * (mnI (mnI (lnF lm lk b 0) (lnF lm lk b 1)) (lnF lm lk b 2)))) (rfl) ?_
          refine lv_icmp_ge (tgt := 72) hx hb dX8_isLeftGuard_65 (by decide) (fun c_24 => ?_) (fun c_24 => ?_)
          · have hc9 := c_24
            refine lv_iconst (v := 0) hx hb dX8_isLeftGuard_72 (by decide) ?_
            have hP9 : va_P D vwCl [(mo, .inr (8, [.ref ms, .int sv, .ref mb, .int ty, .int th, .ref mk, .int (nI lm), .ref mfd, .int mf, .int sp, .int on, .int tw])), (mk, .inl (K, 41, .inl lk))] H := hP.sub [0, 1] rfl
            have hD9 : va_D A [(mo, .inr (8, [.ref ms, .int sv, .ref mb, .int ty, .int th, .ref mk, .int (nI lm), .ref mfd, .int mf, .int sp, .int on, .int tw])), (mk, .inl (K, 41, .inl lk))] := hD.sub [0, 1] (by decide) rfl
            have hK9 : va_K D vwCl [] s := hK.sub [] rfl
            exact W.zret (v := 0) hx hb hr (rfl) (fun t ht9 hW9 => ⟨⟨0, (), rfl, by (exact lg_p c_24), ⟨by rw [ht9]; exact hP9, va_K.moved hW9.alike hK9, hD9⟩⟩, hS.F ht9⟩) hS.2.2 dX8_isLeftGuard_73
          · have hc9 := c_24
            refine lv_iconst (v := 1) hx hb dX8_isLeftGuard_68 (by decide) ?_
            refine lv_goto (tgt := 73) hx hb dX8_isLeftGuard_69 (by decide) ?_
            have hP9 : va_P D vwCl [(mo, .inr (8, [.ref ms, .int sv, .ref mb, .int ty, .int th, .ref mk, .int (nI lm), .ref mfd, .int mf, .int sp, .int on, .int tw])), (mk, .inl (K, 41, .inl lk))] H := hP.sub [0, 1] rfl
            have hD9 : va_D A [(mo, .inr (8, [.ref ms, .int sv, .ref mb, .int ty, .int th, .ref mk, .int (nI lm), .ref mfd, .int mf, .int sp, .int on, .int tw])), (mk, .inl (K, 41, .inl lk))] := hD.sub [0, 1] (by decide) rfl
            have hK9 : va_K D vwCl [] s := hK.sub [] rfl
            exact W.zret (v := 1) hx hb hr (rfl) (fun t ht9 hW9 => ⟨⟨1, (), rfl, by (exact lg_n c_24), ⟨by rw [ht9]; exact hP9, va_K.moved hW9.alike hK9, hD9⟩⟩, hS.F ht9⟩) hS.2.2 dX8_isLeftGuard_73
  · have hc9 := c_5
    refine lv_iload hx hb dX8_isLeftGuard_33 (lv_at hl 0 rfl) ?_
    refine lv_goto (tgt := 39) hx hb dX8_isLeftGuard_35 (by decide) ?_
    refine k_nrm (y := (mnI (lnF lm lk b 0) (lnF lm lk b 1))) ((if_pos (fa_of_nle c_5)).symm) ?_
    refine lv_istore_n (lv' := [(2, .int (mnI (lnF lm lk b 0) (lnF lm lk b 1))), (5, .int (lnF lm lk b 1)), (4, .int 1), (3, .int (lnF lm lk b 0)), (0, .ref mo), (1, .int b)]) hx hb dX8_isLeftGuard_39 rfl hl (by decide) rfl (fun ls hl => ?_)
    refine lv_iload hx hb dX8_isLeftGuard_40 (lv_at hl 1 rfl) ?_
    refine lv_iload_n hx hb dX8_isLeftGuard_42 rfl (lv_at hl 3 rfl) ?_
    refine lv_icmp_le (tgt := 51) hx hb dX8_isLeftGuard_43 (by decide) (fun c_25 => ?_) (fun c_25 => ?_)
    · have hc9 := c_25
      refine lv_iload_n hx hb dX8_isLeftGuard_51 rfl (lv_at hl 3 rfl) ?_
      refine k_nrm (y := (mxI (lnF lm lk b 0) (lnF lm lk b 1))) ((if_neg (Int32.not_lt.mpr c_25)).symm) ?_
      refine lv_istore_n (lv' := [(3, .int (mxI (lnF lm lk b 0) (lnF lm lk b 1))), (2, .int (mnI (lnF lm lk b 0) (lnF lm lk b 1))), (5, .int (lnF lm lk b 1)), (4, .int 1), (0, .ref mo), (1, .int b)]) hx hb dX8_isLeftGuard_52 rfl hl (by decide) rfl (fun ls hl => ?_)
      refine lv_iinc (v := 2) (lv' := [(4, .int 2), (3, .int (mxI (lnF lm lk b 0) (lnF lm lk b 1))), (2, .int (mnI (lnF lm lk b 0) (lnF lm lk b 1))), (5, .int (lnF lm lk b 1)), (0, .ref mo), (1, .int b)]) hx hb dX8_isLeftGuard_53 hl (k := 3) rfl (by decide) (by decide) rfl (fun ls hl => ?_)
      refine lv_goto (tgt := 12) hx hb dX8_isLeftGuard_56 (by decide) ?_
      refine lv_iload hx hb dX8_isLeftGuard_12 (lv_at hl 0 rfl) ?_
      refine lv_iconst (v := 3) hx hb dX8_isLeftGuard_14 (by decide) ?_
      refine lv_icmp_ge (tgt := 59) hx hb dX8_isLeftGuard_15 (by decide) (fun c9 => absurd c9 (by decide)) (fun _ => ?_)
      refine lv_aload_n hx hb dX8_isLeftGuard_18 rfl (lv_at hl 4 rfl) ?_
      refine lv_iload hx hb dX8_isLeftGuard_19 (lv_at hl 0 rfl) ?_
      refine lv_iload_n hx hb dX8_isLeftGuard_21 rfl (lv_at hl 5 rfl) ?_
      have ct := k_cut_of (wc := [(mo, .inr (8, [.ref ms, .int sv, .ref mb, .int ty, .int th, .ref mk, .int (nI lm), .ref mfd, .int mf, .int sp, .int on, .int tw])), (mk, .inl (K, 41, .inl lk))]) (wr := []) (tc := [(K, .int)]) hG hS hA hK hP hD [0, 1] [] [0] rfl rfl (by decide) (by decide) (by decide) rfl
      refine k_endi (As := [.ref mo, .int 2, .int b]) ct (k_runV (As := [.int 2, .int b]) (rest := []) S0 Lv_X8_81 rfl (ci := 8) (q0 := 0) rfl rfl ct (c_M_time2 l D mo ms sv mb ty th mk lm mfd mf sp on tw K lk b (by first | assumption | omega) (by first | assumption | omega) H.size) hl.1 rfl (Nat.le_of_ble_eq_true rfl) rfl dX8_isLeftGuard_22 ⟨⟨Nat.le_of_ble_eq_true rfl, Nat.le_of_ble_eq_true rfl⟩, Nat.le_of_ble_eq_true rfl, Nat.le_of_ble_eq_true rfl⟩) rfl rfl (fun r_26 _ H locs hw_27 hP hD hK hS => ?_)
      have hK : va_K D vwCl [(K, .int)] s := hK
      have hP : va_P D vwCl [(mo, .inr (8, [.ref ms, .int sv, .ref mb, .int ty, .int th, .ref mk, .int (nI lm), .ref mfd, .int mf, .int sp, .int on, .int tw])), (mk, .inl (K, 41, .inl lk))] H := hP
      have hD : va_D A [(mo, .inr (8, [.ref ms, .int sv, .ref mb, .int ty, .int th, .ref mk, .int (nI lm), .ref mfd, .int mf, .int sp, .int on, .int tw])), (mk, .inl (K, 41, .inl lk))] := hD
      have hw_27 : r_26 = (lnF lm lk b 2) := hw_27
      have hw_27 := hw_27.symm
      subst hw_27
      refine k_nrm (y := (lnF lm lk b 2)) rfl ?_
      refine lv_istore (lv' := [(5, .int (lnF lm lk b 2)), (4, .int 2), (3, .int (mxI (lnF lm lk b 0) (lnF lm lk b 1))), (2, .int (mnI (lnF lm lk b 0) (lnF lm lk b 1))), (0, .ref mo), (1, .int b)]) hx hb dX8_isLeftGuard_25 hl (by decide) rfl (fun ls hl => ?_)
      refine lv_iload hx hb dX8_isLeftGuard_27 (lv_at hl 0 rfl) ?_
      refine lv_iload_n hx hb dX8_isLeftGuard_29 rfl (lv_at hl 3 rfl) ?_
      refine lv_icmp_ge (tgt := 38) hx hb dX8_isLeftGuard_30 (by decide) (fun c_28 => ?_) (fun c_28 => ?_)
      · have hc9 := c_28
        refine lv_iload_n hx hb dX8_isLeftGuard_38 rfl (lv_at hl 3 rfl) ?_
        refine k_nrm (y := (mnI (mnI (lnF lm lk b 0) (lnF lm lk b 1)) (lnF lm lk b 2))) ((if_neg (Int32.not_lt.mpr c_28)).symm) ?_
        refine lv_istore_n (lv' := [(2, .int (mnI (mnI (lnF lm lk b 0) (lnF lm lk b 1)) (lnF lm lk b 2))), (5, .int (lnF lm lk b 2)), (4, .int 2), (3, .int (mxI (lnF lm lk b 0) (lnF lm lk b 1))), (0, .ref mo), (1, .int b)]) hx hb dX8_isLeftGuard_39 rfl hl (by decide) rfl (fun ls hl => ?_)
        refine lv_iload hx hb dX8_isLeftGuard_40 (lv_at hl 1 rfl) ?_
        refine lv_iload_n hx hb dX8_isLeftGuard_42 rfl (lv_at hl 3 rfl) ?_
        refine lv_icmp_le (tgt := 51) hx hb dX8_isLeftGuard_43 (by decide) (fun c_29 => ?_) (fun c_29 => ?_)
        · have hc9 := c_29
          refine lv_iload_n hx hb dX8_isLeftGuard_51 rfl (lv_at hl 3 rfl) ?_
          refine k_nrm (y := (mxI (mxI (lnF lm lk b 0) (lnF lm lk b 1)) (lnF lm lk b 2))) ((if_neg (Int32.not_lt.mpr c_29)).symm) ?_
          refine lv_istore_n (lv' := [(3, .int (mxI (mxI (lnF lm lk b 0) (lnF lm lk b 1)) (lnF lm lk b 2))), (2, .int (mnI (mnI (lnF lm lk b 0) (lnF lm lk b 1)) (lnF lm lk b 2))), (5, .int (lnF lm lk b 2)), (4, .int 2), (0, .ref mo), (1, .int b)]) hx hb dX8_isLeftGuard_52 rfl hl (by decide) rfl (fun ls hl => ?_)
          refine lv_iinc (v := 3) (lv' := [(4, .int 3), (3, .int (mxI (mxI (lnF lm lk b 0) (lnF lm lk b 1)) (lnF lm lk b 2))), (2, .int (mnI (mnI (lnF lm lk b 0) (lnF lm lk b 1)) (lnF lm lk b 2))), (5, .int (lnF lm lk b 2)), (0, .ref mo), (1, .int b)]) hx hb dX8_isLeftGuard_53 hl (k := 3) rfl (by decide) (by decide) rfl (fun ls hl => ?_)
          refine lv_goto (tgt := 12) hx hb dX8_isLeftGuard_56 (by decide) ?_
          refine lv_iload hx hb dX8_isLeftGuard_12 (lv_at hl 0 rfl) ?_
          refine lv_iconst (v := 3) hx hb dX8_isLeftGuard_14 (by decide) ?_
          refine lv_icmp_ge (tgt := 59) hx hb dX8_isLeftGuard_15 (by decide) (fun _ => ?_) (fun c9 => absurd (by decide) c9)
          refine lv_iconst (v := 2) hx hb dX8_isLeftGuard_59 (by decide) ?_
          refine lv_iload_n hx hb dX8_isLeftGuard_60 rfl (lv_at hl 1 rfl) ?_
          refine lv_imul hx hb dX8_isLeftGuard_61 ?_
          refine k_nrm (y := (2 * (mxI (mxI (lnF lm lk b 0) (lnF lm lk b 1)) (lnF lm lk b 2)))) (rfl) ?_
          refine lv_iconst (v := 3) hx hb dX8_isLeftGuard_62 (by decide) ?_
          refine lv_iload_n hx hb dX8_isLeftGuard_63 rfl (lv_at hl 2 rfl) ?_
          refine lv_imul hx hb dX8_isLeftGuard_64 ?_
          refine k_nrm (y := (3 * (mnI (mnI (lnF lm lk b 0) (lnF lm lk b 1)) (lnF lm lk b 2)))) (rfl) ?_
          refine lv_icmp_ge (tgt := 72) hx hb dX8_isLeftGuard_65 (by decide) (fun c_30 => ?_) (fun c_30 => ?_)
          · have hc9 := c_30
            refine lv_iconst (v := 0) hx hb dX8_isLeftGuard_72 (by decide) ?_
            have hP9 : va_P D vwCl [(mo, .inr (8, [.ref ms, .int sv, .ref mb, .int ty, .int th, .ref mk, .int (nI lm), .ref mfd, .int mf, .int sp, .int on, .int tw])), (mk, .inl (K, 41, .inl lk))] H := hP.sub [0, 1] rfl
            have hD9 : va_D A [(mo, .inr (8, [.ref ms, .int sv, .ref mb, .int ty, .int th, .ref mk, .int (nI lm), .ref mfd, .int mf, .int sp, .int on, .int tw])), (mk, .inl (K, 41, .inl lk))] := hD.sub [0, 1] (by decide) rfl
            have hK9 : va_K D vwCl [] s := hK.sub [] rfl
            exact W.zret (v := 0) hx hb hr (rfl) (fun t ht9 hW9 => ⟨⟨0, (), rfl, by (exact lg_p c_30), ⟨by rw [ht9]; exact hP9, va_K.moved hW9.alike hK9, hD9⟩⟩, hS.F ht9⟩) hS.2.2 dX8_isLeftGuard_73
          · have hc9 := c_30
            refine lv_iconst (v := 1) hx hb dX8_isLeftGuard_68 (by decide) ?_
            refine lv_goto (tgt := 73) hx hb dX8_isLeftGuard_69 (by decide) ?_
            have hP9 : va_P D vwCl [(mo, .inr (8, [.ref ms, .int sv, .ref mb, .int ty, .int th, .ref mk, .int (nI lm), .ref mfd, .int mf, .int sp, .int on, .int tw])), (mk, .inl (K, 41, .inl lk))] H := hP.sub [0, 1] rfl
            have hD9 : va_D A [(mo, .inr (8, [.ref ms, .int sv, .ref mb, .int ty, .int th, .ref mk, .int (nI lm), .ref mfd, .int mf, .int sp, .int on, .int tw])), (mk, .inl (K, 41, .inl lk))] := hD.sub [0, 1] (by decide) rfl
            have hK9 : va_K D vwCl [] s := hK.sub [] rfl
            exact W.zret (v := 1) hx hb hr (rfl) (fun t ht9 hW9 => ⟨⟨1, (), rfl, by (exact lg_n c_30), ⟨by rw [ht9]; exact hP9, va_K.moved hW9.alike hK9, hD9⟩⟩, hS.F ht9⟩) hS.2.2 dX8_isLeftGuard_73
        · have hc9 := c_29
          refine lv_iload hx hb dX8_isLeftGuard_46 (lv_at hl 1 rfl) ?_
          refine lv_goto (tgt := 52) hx hb dX8_isLeftGuard_48 (by decide) ?_
          refine k_nrm (y := (mxI (mxI (lnF lm lk b 0) (lnF lm lk b 1)) (lnF lm lk b 2))) ((if_pos (fa_of_nle c_29)).symm) ?_
          refine lv_istore_n (lv' := [(3, .int (mxI (mxI (lnF lm lk b 0) (lnF lm lk b 1)) (lnF lm lk b 2))), (2, .int (mnI (mnI (lnF lm lk b 0) (lnF lm lk b 1)) (lnF lm lk b 2))), (5, .int (lnF lm lk b 2)), (4, .int 2), (0, .ref mo), (1, .int b)]) hx hb dX8_isLeftGuard_52 rfl hl (by decide) rfl (fun ls hl => ?_)
          refine lv_iinc (v := 3) (lv' := [(4, .int 3), (3, .int (mxI (mxI (lnF lm lk b 0) (lnF lm lk b 1)) (lnF lm lk b 2))), (2, .int (mnI (mnI (lnF lm lk b 0) (lnF lm lk b 1)) (lnF lm lk b 2))), (5, .int (lnF lm lk b 2)), (0, .ref mo), (1, .int b)]) hx hb dX8_isLeftGuard_53 hl (k := 3) rfl (by decide) (by decide) rfl (fun ls hl => ?_)
          refine lv_goto (tgt := 12) hx hb dX8_isLeftGuard_56 (by decide) ?_
          refine lv_iload hx hb dX8_isLeftGuard_12 (lv_at hl 0 rfl) ?_
          refine lv_iconst (v := 3) hx hb dX8_isLeftGuard_14 (by decide) ?_
          refine lv_icmp_ge (tgt := 59) hx hb dX8_isLeftGuard_15 (by decide) (fun _ => ?_) (fun c9 => absurd (by decide) c9)
          refine lv_iconst (v := 2) hx hb dX8_isLeftGuard_59 (by decide) ?_
          refine lv_iload_n hx hb dX8_isLeftGuard_60 rfl (lv_at hl 1 rfl) ?_
          refine lv_imul hx hb dX8_isLeftGuard_61 ?_
          refine k_nrm (y := (2 * (mxI (mxI (lnF lm lk b 0) (lnF lm lk b 1)) (lnF lm lk b 2)))) (rfl) ?_
          refine lv_iconst (v := 3) hx hb dX8_isLeftGuard_62 (by decide) ?_
          refine lv_iload_n hx hb dX8_isLeftGuard_63 rfl (lv_at hl 2 rfl) ?_
          refine lv_imul hx hb dX8_isLeftGuard_64 ?_
          refine k_nrm (y := (3 * (mnI (mnI (lnF lm lk b 0) (lnF lm lk b 1)) (lnF lm lk b 2)))) (rfl) ?_
          refine lv_icmp_ge (tgt := 72) hx hb dX8_isLeftGuard_65 (by decide) (fun c_31 => ?_) (fun c_31 => ?_)
          · have hc9 := c_31
            refine lv_iconst (v := 0) hx hb dX8_isLeftGuard_72 (by decide) ?_
            have hP9 : va_P D vwCl [(mo, .inr (8, [.ref ms, .int sv, .ref mb, .int ty, .int th, .ref mk, .int (nI lm), .ref mfd, .int mf, .int sp, .int on, .int tw])), (mk, .inl (K, 41, .inl lk))] H := hP.sub [0, 1] rfl
            have hD9 : va_D A [(mo, .inr (8, [.ref ms, .int sv, .ref mb, .int ty, .int th, .ref mk, .int (nI lm), .ref mfd, .int mf, .int sp, .int on, .int tw])), (mk, .inl (K, 41, .inl lk))] := hD.sub [0, 1] (by decide) rfl
            have hK9 : va_K D vwCl [] s := hK.sub [] rfl
            exact W.zret (v := 0) hx hb hr (rfl) (fun t ht9 hW9 => ⟨⟨0, (), rfl, by (exact lg_p c_31), ⟨by rw [ht9]; exact hP9, va_K.moved hW9.alike hK9, hD9⟩⟩, hS.F ht9⟩) hS.2.2 dX8_isLeftGuard_73
          · have hc9 := c_31
            refine lv_iconst (v := 1) hx hb dX8_isLeftGuard_68 (by decide) ?_
            refine lv_goto (tgt := 73) hx hb dX8_isLeftGuard_69 (by decide) ?_
            have hP9 : va_P D vwCl [(mo, .inr (8, [.ref ms, .int sv, .ref mb, .int ty, .int th, .ref mk, .int (nI lm), .ref mfd, .int mf, .int sp, .int on, .int tw])), (mk, .inl (K, 41, .inl lk))] H := hP.sub [0, 1] rfl
            have hD9 : va_D A [(mo, .inr (8, [.ref ms, .int sv, .ref mb, .int ty, .int th, .ref mk, .int (nI lm), .ref mfd, .int mf, .int sp, .int on, .int tw])), (mk, .inl (K, 41, .inl lk))] := hD.sub [0, 1] (by decide) rfl
            have hK9 : va_K D vwCl [] s := hK.sub [] rfl
            exact W.zret (v := 1) hx hb hr (rfl) (fun t ht9 hW9 => ⟨⟨1, (), rfl, by (exact lg_n c_31), ⟨by rw [ht9]; exact hP9, va_K.moved hW9.alike hK9, hD9⟩⟩, hS.F ht9⟩) hS.2.2 dX8_isLeftGuard_73
      · have hc9 := c_28
        refine lv_iload hx hb dX8_isLeftGuard_33 (lv_at hl 0 rfl) ?_
        refine lv_goto (tgt := 39) hx hb dX8_isLeftGuard_35 (by decide) ?_
        refine k_nrm (y := (mnI (mnI (lnF lm lk b 0) (lnF lm lk b 1)) (lnF lm lk b 2))) ((if_pos (fa_of_nle c_28)).symm) ?_
        refine lv_istore_n (lv' := [(2, .int (mnI (mnI (lnF lm lk b 0) (lnF lm lk b 1)) (lnF lm lk b 2))), (5, .int (lnF lm lk b 2)), (4, .int 2), (3, .int (mxI (lnF lm lk b 0) (lnF lm lk b 1))), (0, .ref mo), (1, .int b)]) hx hb dX8_isLeftGuard_39 rfl hl (by decide) rfl (fun ls hl => ?_)
        refine lv_iload hx hb dX8_isLeftGuard_40 (lv_at hl 1 rfl) ?_
        refine lv_iload_n hx hb dX8_isLeftGuard_42 rfl (lv_at hl 3 rfl) ?_
        refine lv_icmp_le (tgt := 51) hx hb dX8_isLeftGuard_43 (by decide) (fun c_32 => ?_) (fun c_32 => ?_)
        · have hc9 := c_32
          refine lv_iload_n hx hb dX8_isLeftGuard_51 rfl (lv_at hl 3 rfl) ?_
          refine k_nrm (y := (mxI (mxI (lnF lm lk b 0) (lnF lm lk b 1)) (lnF lm lk b 2))) ((if_neg (Int32.not_lt.mpr c_32)).symm) ?_
          refine lv_istore_n (lv' := [(3, .int (mxI (mxI (lnF lm lk b 0) (lnF lm lk b 1)) (lnF lm lk b 2))), (2, .int (mnI (mnI (lnF lm lk b 0) (lnF lm lk b 1)) (lnF lm lk b 2))), (5, .int (lnF lm lk b 2)), (4, .int 2), (0, .ref mo), (1, .int b)]) hx hb dX8_isLeftGuard_52 rfl hl (by decide) rfl (fun ls hl => ?_)
          refine lv_iinc (v := 3) (lv' := [(4, .int 3), (3, .int (mxI (mxI (lnF lm lk b 0) (lnF lm lk b 1)) (lnF lm lk b 2))), (2, .int (mnI (mnI (lnF lm lk b 0) (lnF lm lk b 1)) (lnF lm lk b 2))), (5, .int (lnF lm lk b 2)), (0, .ref mo), (1, .int b)]) hx hb dX8_isLeftGuard_53 hl (k := 3) rfl (by decide) (by decide) rfl (fun ls hl => ?_)
          refine lv_goto (tgt := 12) hx hb dX8_isLeftGuard_56 (by decide) ?_
          refine lv_iload hx hb dX8_isLeftGuard_12 (lv_at hl 0 rfl) ?_
          refine lv_iconst (v := 3) hx hb dX8_isLeftGuard_14 (by decide) ?_
          refine lv_icmp_ge (tgt := 59) hx hb dX8_isLeftGuard_15 (by decide) (fun _ => ?_) (fun c9 => absurd (by decide) c9)
          refine lv_iconst (v := 2) hx hb dX8_isLeftGuard_59 (by decide) ?_
          refine lv_iload_n hx hb dX8_isLeftGuard_60 rfl (lv_at hl 1 rfl) ?_
          refine lv_imul hx hb dX8_isLeftGuard_61 ?_
          refine k_nrm (y := (2 * (mxI (mxI (lnF lm lk b 0) (lnF lm lk b 1)) (lnF lm lk b 2)))) (rfl) ?_
          refine lv_iconst (v := 3) hx hb dX8_isLeftGuard_62 (by decide) ?_
          refine lv_iload_n hx hb dX8_isLeftGuard_63 rfl (lv_at hl 2 rfl) ?_
          refine lv_imul hx hb dX8_isLeftGuard_64 ?_
          refine k_nrm (y := (3 * (mnI (mnI (lnF lm lk b 0) (lnF lm lk b 1)) (lnF lm lk b 2)))) (rfl) ?_
          refine lv_icmp_ge (tgt := 72) hx hb dX8_isLeftGuard_65 (by decide) (fun c_33 => ?_) (fun c_33 => ?_)
          · have hc9 := c_33
            refine lv_iconst (v := 0) hx hb dX8_isLeftGuard_72 (by decide) ?_
            have hP9 : va_P D vwCl [(mo, .inr (8, [.ref ms, .int sv, .ref mb, .int ty, .int th, .ref mk, .int (nI lm), .ref mfd, .int mf, .int sp, .int on, .int tw])), (mk, .inl (K, 41, .inl lk))] H := hP.sub [0, 1] rfl
            have hD9 : va_D A [(mo, .inr (8, [.ref ms, .int sv, .ref mb, .int ty, .int th, .ref mk, .int (nI lm), .ref mfd, .int mf, .int sp, .int on, .int tw])), (mk, .inl (K, 41, .inl lk))] := hD.sub [0, 1] (by decide) rfl
            have hK9 : va_K D vwCl [] s := hK.sub [] rfl
            exact W.zret (v := 0) hx hb hr (rfl) (fun t ht9 hW9 => ⟨⟨0, (), rfl, by (exact lg_p c_33), ⟨by rw [ht9]; exact hP9, va_K.moved hW9.alike hK9, hD9⟩⟩, hS.F ht9⟩) hS.2.2 dX8_isLeftGuard_73
          · have hc9 := c_33
            refine lv_iconst (v := 1) hx hb dX8_isLeftGuard_68 (by decide) ?_
            refine lv_goto (tgt := 73) hx hb dX8_isLeftGuard_69 (by decide) ?_
            have hP9 : va_P D vwCl [(mo, .inr (8, [.ref ms, .int sv, .ref mb, .int ty, .int th, .ref mk, .int (nI lm), .ref mfd, .int mf, .int sp, .int on, .int tw])), (mk, .inl (K, 41, .inl lk))] H := hP.sub [0, 1] rfl
            have hD9 : va_D A [(mo, .inr (8, [.ref ms, .int sv, .ref mb, .int ty, .int th, .ref mk, .int (nI lm), .ref mfd, .int mf, .int sp, .int on, .int tw])), (mk, .inl (K, 41, .inl lk))] := hD.sub [0, 1] (by decide) rfl
            have hK9 : va_K D vwCl [] s := hK.sub [] rfl
            exact W.zret (v := 1) hx hb hr (rfl) (fun t ht9 hW9 => ⟨⟨1, (), rfl, by (exact lg_n c_33), ⟨by rw [ht9]; exact hP9, va_K.moved hW9.alike hK9, hD9⟩⟩, hS.F ht9⟩) hS.2.2 dX8_isLeftGuard_73
        · have hc9 := c_32
          refine lv_iload hx hb dX8_isLeftGuard_46 (lv_at hl 1 rfl) ?_
          refine lv_goto (tgt := 52) hx hb dX8_isLeftGuard_48 (by decide) ?_
          refine k_nrm (y := (mxI (mxI (lnF lm lk b 0) (lnF lm lk b 1)) (lnF lm lk b 2))) ((if_pos (fa_of_nle c_32)).symm) ?_
          refine lv_istore_n (lv' := [(3, .int (mxI (mxI (lnF lm lk b 0) (lnF lm lk b 1)) (lnF lm lk b 2))), (2, .int (mnI (mnI (lnF lm lk b 0) (lnF lm lk b 1)) (lnF lm lk b 2))), (5, .int (lnF lm lk b 2)), (4, .int 2), (0, .ref mo), (1, .int b)]) hx hb dX8_isLeftGuard_52 rfl hl (by decide) rfl (fun ls hl => ?_)
          refine lv_iinc (v := 3) (lv' := [(4, .int 3), (3, .int (mxI (mxI (lnF lm lk b 0) (lnF lm lk b 1)) (lnF lm lk b 2))), (2, .int (mnI (mnI (lnF lm lk b 0) (lnF lm lk b 1)) (lnF lm lk b 2))), (5, .int (lnF lm lk b 2)), (0, .ref mo), (1, .int b)]) hx hb dX8_isLeftGuard_53 hl (k := 3) rfl (by decide) (by decide) rfl (fun ls hl => ?_)
          refine lv_goto (tgt := 12) hx hb dX8_isLeftGuard_56 (by decide) ?_
          refine lv_iload hx hb dX8_isLeftGuard_12 (lv_at hl 0 rfl) ?_
          refine lv_iconst (v := 3) hx hb dX8_isLeftGuard_14 (by decide) ?_
          refine lv_icmp_ge (tgt := 59) hx hb dX8_isLeftGuard_15 (by decide) (fun _ => ?_) (fun c9 => absurd (by decide) c9)
          refine lv_iconst (v := 2) hx hb dX8_isLeftGuard_59 (by decide) ?_
          refine lv_iload_n hx hb dX8_isLeftGuard_60 rfl (lv_at hl 1 rfl) ?_
          refine lv_imul hx hb dX8_isLeftGuard_61 ?_
          refine k_nrm (y := (2 * (mxI (mxI (lnF lm lk b 0) (lnF lm lk b 1)) (lnF lm lk b 2)))) (rfl) ?_
          refine lv_iconst (v := 3) hx hb dX8_isLeftGuard_62 (by decide) ?_
          refine lv_iload_n hx hb dX8_isLeftGuard_63 rfl (lv_at hl 2 rfl) ?_
          refine lv_imul hx hb dX8_isLeftGuard_64 ?_
          refine k_nrm (y := (3 * (mnI (mnI (lnF lm lk b 0) (lnF lm lk b 1)) (lnF lm lk b 2)))) (rfl) ?_
          refine lv_icmp_ge (tgt := 72) hx hb dX8_isLeftGuard_65 (by decide) (fun c_34 => ?_) (fun c_34 => ?_)
          · have hc9 := c_34
            refine lv_iconst (v := 0) hx hb dX8_isLeftGuard_72 (by decide) ?_
            have hP9 : va_P D vwCl [(mo, .inr (8, [.ref ms, .int sv, .ref mb, .int ty, .int th, .ref mk, .int (nI lm), .ref mfd, .int mf, .int sp, .int on, .int tw])), (mk, .inl (K, 41, .inl lk))] H := hP.sub [0, 1] rfl
            have hD9 : va_D A [(mo, .inr (8, [.ref ms, .int sv, .ref mb, .int ty, .int th, .ref mk, .int (nI lm), .ref mfd, .int mf, .int sp, .int on, .int tw])), (mk, .inl (K, 41, .inl lk))] := hD.sub [0, 1] (by decide) rfl
            have hK9 : va_K D vwCl [] s := hK.sub [] rfl
            exact W.zret (v := 0) hx hb hr (rfl) (fun t ht9 hW9 => ⟨⟨0, (), rfl, by (exact lg_p c_34), ⟨by rw [ht9]; exact hP9, va_K.moved hW9.alike hK9, hD9⟩⟩, hS.F ht9⟩) hS.2.2 dX8_isLeftGuard_73
          · have hc9 := c_34
            refine lv_iconst (v := 1) hx hb dX8_isLeftGuard_68 (by decide) ?_
            refine lv_goto (tgt := 73) hx hb dX8_isLeftGuard_69 (by decide) ?_
            have hP9 : va_P D vwCl [(mo, .inr (8, [.ref ms, .int sv, .ref mb, .int ty, .int th, .ref mk, .int (nI lm), .ref mfd, .int mf, .int sp, .int on, .int tw])), (mk, .inl (K, 41, .inl lk))] H := hP.sub [0, 1] rfl
            have hD9 : va_D A [(mo, .inr (8, [.ref ms, .int sv, .ref mb, .int ty, .int th, .ref mk, .int (nI lm), .ref mfd, .int mf, .int sp, .int on, .int tw])), (mk, .inl (K, 41, .inl lk))] := hD.sub [0, 1] (by decide) rfl
            have hK9 : va_K D vwCl [] s := hK.sub [] rfl
            exact W.zret (v := 1) hx hb hr (rfl) (fun t ht9 hW9 => ⟨⟨1, (), rfl, by (exact lg_n c_34), ⟨by rw [ht9]; exact hP9, va_K.moved hW9.alike hK9, hD9⟩⟩, hS.F ht9⟩) hS.2.2 dX8_isLeftGuard_73
    · have hc9 := c_25
      refine lv_iload hx hb dX8_isLeftGuard_46 (lv_at hl 1 rfl) ?_
      refine lv_goto (tgt := 52) hx hb dX8_isLeftGuard_48 (by decide) ?_
      refine k_nrm (y := (mxI (lnF lm lk b 0) (lnF lm lk b 1))) ((if_pos (fa_of_nle c_25)).symm) ?_
      refine lv_istore_n (lv' := [(3, .int (mxI (lnF lm lk b 0) (lnF lm lk b 1))), (2, .int (mnI (lnF lm lk b 0) (lnF lm lk b 1))), (5, .int (lnF lm lk b 1)), (4, .int 1), (0, .ref mo), (1, .int b)]) hx hb dX8_isLeftGuard_52 rfl hl (by decide) rfl (fun ls hl => ?_)
      refine lv_iinc (v := 2) (lv' := [(4, .int 2), (3, .int (mxI (lnF lm lk b 0) (lnF lm lk b 1))), (2, .int (mnI (lnF lm lk b 0) (lnF lm lk b 1))), (5, .int (lnF lm lk b 1)), (0, .ref mo), (1, .int b)]) hx hb dX8_isLeftGuard_53 hl (k := 3) rfl (by decide) (by decide) rfl (fun ls hl => ?_)
      refine lv_goto (tgt := 12) hx hb dX8_isLeftGuard_56 (by decide) ?_
      refine lv_iload hx hb dX8_isLeftGuard_12 (lv_at hl 0 rfl) ?_
      refine lv_iconst (v := 3) hx hb dX8_isLeftGuard_14 (by decide) ?_
      refine lv_icmp_ge (tgt := 59) hx hb dX8_isLeftGuard_15 (by decide) (fun c9 => absurd c9 (by decide)) (fun _ => ?_)
      refine lv_aload_n hx hb dX8_isLeftGuard_18 rfl (lv_at hl 4 rfl) ?_
      refine lv_iload hx hb dX8_isLeftGuard_19 (lv_at hl 0 rfl) ?_
      refine lv_iload_n hx hb dX8_isLeftGuard_21 rfl (lv_at hl 5 rfl) ?_
      have ct := k_cut_of (wc := [(mo, .inr (8, [.ref ms, .int sv, .ref mb, .int ty, .int th, .ref mk, .int (nI lm), .ref mfd, .int mf, .int sp, .int on, .int tw])), (mk, .inl (K, 41, .inl lk))]) (wr := []) (tc := [(K, .int)]) hG hS hA hK hP hD [0, 1] [] [0] rfl rfl (by decide) (by decide) (by decide) rfl
      refine k_endi (As := [.ref mo, .int 2, .int b]) ct (k_runV (As := [.int 2, .int b]) (rest := []) S0 Lv_X8_81 rfl (ci := 8) (q0 := 0) rfl rfl ct (c_M_time2 l D mo ms sv mb ty th mk lm mfd mf sp on tw K lk b (by first | assumption | omega) (by first | assumption | omega) H.size) hl.1 rfl (Nat.le_of_ble_eq_true rfl) rfl dX8_isLeftGuard_22 ⟨⟨Nat.le_of_ble_eq_true rfl, Nat.le_of_ble_eq_true rfl⟩, Nat.le_of_ble_eq_true rfl, Nat.le_of_ble_eq_true rfl⟩) rfl rfl (fun r_35 _ H locs hw_36 hP hD hK hS => ?_)
      have hK : va_K D vwCl [(K, .int)] s := hK
      have hP : va_P D vwCl [(mo, .inr (8, [.ref ms, .int sv, .ref mb, .int ty, .int th, .ref mk, .int (nI lm), .ref mfd, .int mf, .int sp, .int on, .int tw])), (mk, .inl (K, 41, .inl lk))] H := hP
      have hD : va_D A [(mo, .inr (8, [.ref ms, .int sv, .ref mb, .int ty, .int th, .ref mk, .int (nI lm), .ref mfd, .int mf, .int sp, .int on, .int tw])), (mk, .inl (K, 41, .inl lk))] := hD
      have hw_36 : r_35 = (lnF lm lk b 2) := hw_36
      have hw_36 := hw_36.symm
      subst hw_36
      refine k_nrm (y := (lnF lm lk b 2)) rfl ?_
      refine lv_istore (lv' := [(5, .int (lnF lm lk b 2)), (4, .int 2), (3, .int (mxI (lnF lm lk b 0) (lnF lm lk b 1))), (2, .int (mnI (lnF lm lk b 0) (lnF lm lk b 1))), (0, .ref mo), (1, .int b)]) hx hb dX8_isLeftGuard_25 hl (by decide) rfl (fun ls hl => ?_)
      refine lv_iload hx hb dX8_isLeftGuard_27 (lv_at hl 0 rfl) ?_
      refine lv_iload_n hx hb dX8_isLeftGuard_29 rfl (lv_at hl 3 rfl) ?_
      refine lv_icmp_ge (tgt := 38) hx hb dX8_isLeftGuard_30 (by decide) (fun c_37 => ?_) (fun c_37 => ?_)
      · have hc9 := c_37
        refine lv_iload_n hx hb dX8_isLeftGuard_38 rfl (lv_at hl 3 rfl) ?_
        refine k_nrm (y := (mnI (mnI (lnF lm lk b 0) (lnF lm lk b 1)) (lnF lm lk b 2))) ((if_neg (Int32.not_lt.mpr c_37)).symm) ?_
        refine lv_istore_n (lv' := [(2, .int (mnI (mnI (lnF lm lk b 0) (lnF lm lk b 1)) (lnF lm lk b 2))), (5, .int (lnF lm lk b 2)), (4, .int 2), (3, .int (mxI (lnF lm lk b 0) (lnF lm lk b 1))), (0, .ref mo), (1, .int b)]) hx hb dX8_isLeftGuard_39 rfl hl (by decide) rfl (fun ls hl => ?_)
        refine lv_iload hx hb dX8_isLeftGuard_40 (lv_at hl 1 rfl) ?_
        refine lv_iload_n hx hb dX8_isLeftGuard_42 rfl (lv_at hl 3 rfl) ?_
        refine lv_icmp_le (tgt := 51) hx hb dX8_isLeftGuard_43 (by decide) (fun c_38 => ?_) (fun c_38 => ?_)
        · have hc9 := c_38
          refine lv_iload_n hx hb dX8_isLeftGuard_51 rfl (lv_at hl 3 rfl) ?_
          refine k_nrm (y := (mxI (mxI (lnF lm lk b 0) (lnF lm lk b 1)) (lnF lm lk b 2))) ((if_neg (Int32.not_lt.mpr c_38)).symm) ?_
          refine lv_istore_n (lv' := [(3, .int (mxI (mxI (lnF lm lk b 0) (lnF lm lk b 1)) (lnF lm lk b 2))), (2, .int (mnI (mnI (lnF lm lk b 0) (lnF lm lk b 1)) (lnF lm lk b 2))), (5, .int (lnF lm lk b 2)), (4, .int 2), (0, .ref mo), (1, .int b)]) hx hb dX8_isLeftGuard_52 rfl hl (by decide) rfl (fun ls hl => ?_)
          refine lv_iinc (v := 3) (lv' := [(4, .int 3), (3, .int (mxI (mxI (lnF lm lk b 0) (lnF lm lk b 1)) (lnF lm lk b 2))), (2, .int (mnI (mnI (lnF lm lk b 0) (lnF lm lk b 1)) (lnF lm lk b 2))), (5, .int (lnF lm lk b 2)), (0, .ref mo), (1, .int b)]) hx hb dX8_isLeftGuard_53 hl (k := 3) rfl (by decide) (by decide) rfl (fun ls hl => ?_)
          refine lv_goto (tgt := 12) hx hb dX8_isLeftGuard_56 (by decide) ?_
          refine lv_iload hx hb dX8_isLeftGuard_12 (lv_at hl 0 rfl) ?_
          refine lv_iconst (v := 3) hx hb dX8_isLeftGuard_14 (by decide) ?_
          refine lv_icmp_ge (tgt := 59) hx hb dX8_isLeftGuard_15 (by decide) (fun _ => ?_) (fun c9 => absurd (by decide) c9)
          refine lv_iconst (v := 2) hx hb dX8_isLeftGuard_59 (by decide) ?_
          refine lv_iload_n hx hb dX8_isLeftGuard_60 rfl (lv_at hl 1 rfl) ?_
          refine lv_imul hx hb dX8_isLeftGuard_61 ?_
          refine k_nrm (y := (2 * (mxI (mxI (lnF lm lk b 0) (lnF lm lk b 1)) (lnF lm lk b 2)))) (rfl) ?_
          refine lv_iconst (v := 3) hx hb dX8_isLeftGuard_62 (by decide) ?_
          refine lv_iload_n hx hb dX8_isLeftGuard_63 rfl (lv_at hl 2 rfl) ?_
          refine lv_imul hx hb dX8_isLeftGuard_64 ?_
          refine k_nrm (y := (3 * (mnI (mnI (lnF lm lk b 0) (lnF lm lk b 1)) (lnF lm lk b 2)))) (rfl) ?_
          refine lv_icmp_ge (tgt := 72) hx hb dX8_isLeftGuard_65 (by decide) (fun c_39 => ?_) (fun c_39 => ?_)
          · have hc9 := c_39
            refine lv_iconst (v := 0) hx hb dX8_isLeftGuard_72 (by decide) ?_
            have hP9 : va_P D vwCl [(mo, .inr (8, [.ref ms, .int sv, .ref mb, .int ty, .int th, .ref mk, .int (nI lm), .ref mfd, .int mf, .int sp, .int on, .int tw])), (mk, .inl (K, 41, .inl lk))] H := hP.sub [0, 1] rfl
            have hD9 : va_D A [(mo, .inr (8, [.ref ms, .int sv, .ref mb, .int ty, .int th, .ref mk, .int (nI lm), .ref mfd, .int mf, .int sp, .int on, .int tw])), (mk, .inl (K, 41, .inl lk))] := hD.sub [0, 1] (by decide) rfl
            have hK9 : va_K D vwCl [] s := hK.sub [] rfl
            exact W.zret (v := 0) hx hb hr (rfl) (fun t ht9 hW9 => ⟨⟨0, (), rfl, by (exact lg_p c_39), ⟨by rw [ht9]; exact hP9, va_K.moved hW9.alike hK9, hD9⟩⟩, hS.F ht9⟩) hS.2.2 dX8_isLeftGuard_73
          · have hc9 := c_39
            refine lv_iconst (v := 1) hx hb dX8_isLeftGuard_68 (by decide) ?_
            refine lv_goto (tgt := 73) hx hb dX8_isLeftGuard_69 (by decide) ?_
            have hP9 : va_P D vwCl [(mo, .inr (8, [.ref ms, .int sv, .ref mb, .int ty, .int th, .ref mk, .int (nI lm), .ref mfd, .int mf, .int sp, .int on, .int tw])), (mk, .inl (K, 41, .inl lk))] H := hP.sub [0, 1] rfl
            have hD9 : va_D A [(mo, .inr (8, [.ref ms, .int sv, .ref mb, .int ty, .int th, .ref mk, .int (nI lm), .ref mfd, .int mf, .int sp, .int on, .int tw])), (mk, .inl (K, 41, .inl lk))] := hD.sub [0, 1] (by decide) rfl
            have hK9 : va_K D vwCl [] s := hK.sub [] rfl
            exact W.zret (v := 1) hx hb hr (rfl) (fun t ht9 hW9 => ⟨⟨1, (), rfl, by (exact lg_n c_39), ⟨by rw [ht9]; exact hP9, va_K.moved hW9.alike hK9, hD9⟩⟩, hS.F ht9⟩) hS.2.2 dX8_isLeftGuard_73
        · have hc9 := c_38
          refine lv_iload hx hb dX8_isLeftGuard_46 (lv_at hl 1 rfl) ?_
          refine lv_goto (tgt := 52) hx hb dX8_isLeftGuard_48 (by decide) ?_
          refine k_nrm (y := (mxI (mxI (lnF lm lk b 0) (lnF lm lk b 1)) (lnF lm lk b 2))) ((if_pos (fa_of_nle c_38)).symm) ?_
          refine lv_istore_n (lv' := [(3, .int (mxI (mxI (lnF lm lk b 0) (lnF lm lk b 1)) (lnF lm lk b 2))), (2, .int (mnI (mnI (lnF lm lk b 0) (lnF lm lk b 1)) (lnF lm lk b 2))), (5, .int (lnF lm lk b 2)), (4, .int 2), (0, .ref mo), (1, .int b)]) hx hb dX8_isLeftGuard_52 rfl hl (by decide) rfl (fun ls hl => ?_)
          refine lv_iinc (v := 3) (lv' := [(4, .int 3), (3, .int (mxI (mxI (lnF lm lk b 0) (lnF lm lk b 1)) (lnF lm lk b 2))), (2, .int (mnI (mnI (lnF lm lk b 0) (lnF lm lk b 1)) (lnF lm lk b 2))), (5, .int (lnF lm lk b 2)), (0, .ref mo), (1, .int b)]) hx hb dX8_isLeftGuard_53 hl (k := 3) rfl (by decide) (by decide) rfl (fun ls hl => ?_)
          refine lv_goto (tgt := 12) hx hb dX8_isLeftGuard_56 (by decide) ?_
          refine lv_iload hx hb dX8_isLeftGuard_12 (lv_at hl 0 rfl) ?_
          refine lv_iconst (v := 3) hx hb dX8_isLeftGuard_14 (by decide) ?_
          refine lv_icmp_ge (tgt := 59) hx hb dX8_isLeftGuard_15 (by decide) (fun _ => ?_) (fun c9 => absurd (by decide) c9)
          refine lv_iconst (v := 2) hx hb dX8_isLeftGuard_59 (by decide) ?_
          refine lv_iload_n hx hb dX8_isLeftGuard_60 rfl (lv_at hl 1 rfl) ?_
          refine lv_imul hx hb dX8_isLeftGuard_61 ?_
          refine k_nrm (y := (2 * (mxI (mxI (lnF lm lk b 0) (lnF lm lk b 1)) (lnF lm lk b 2)))) (rfl) ?_
          refine lv_iconst (v := 3) hx hb dX8_isLeftGuard_62 (by decide) ?_
          refine lv_iload_n hx hb dX8_isLeftGuard_63 rfl (lv_at hl 2 rfl) ?_
          refine lv_imul hx hb dX8_isLeftGuard_64 ?_
          refine k_nrm (y := (3 * (mnI (mnI (lnF lm lk b 0) (lnF lm lk b 1)) (lnF lm lk b 2)))) (rfl) ?_
          refine lv_icmp_ge (tgt := 72) hx hb dX8_isLeftGuard_65 (by decide) (fun c_40 => ?_) (fun c_40 => ?_)
          · have hc9 := c_40
            refine lv_iconst (v := 0) hx hb dX8_isLeftGuard_72 (by decide) ?_
            have hP9 : va_P D vwCl [(mo, .inr (8, [.ref ms, .int sv, .ref mb, .int ty, .int th, .ref mk, .int (nI lm), .ref mfd, .int mf, .int sp, .int on, .int tw])), (mk, .inl (K, 41, .inl lk))] H := hP.sub [0, 1] rfl
            have hD9 : va_D A [(mo, .inr (8, [.ref ms, .int sv, .ref mb, .int ty, .int th, .ref mk, .int (nI lm), .ref mfd, .int mf, .int sp, .int on, .int tw])), (mk, .inl (K, 41, .inl lk))] := hD.sub [0, 1] (by decide) rfl
            have hK9 : va_K D vwCl [] s := hK.sub [] rfl
            exact W.zret (v := 0) hx hb hr (rfl) (fun t ht9 hW9 => ⟨⟨0, (), rfl, by (exact lg_p c_40), ⟨by rw [ht9]; exact hP9, va_K.moved hW9.alike hK9, hD9⟩⟩, hS.F ht9⟩) hS.2.2 dX8_isLeftGuard_73
          · have hc9 := c_40
            refine lv_iconst (v := 1) hx hb dX8_isLeftGuard_68 (by decide) ?_
            refine lv_goto (tgt := 73) hx hb dX8_isLeftGuard_69 (by decide) ?_
            have hP9 : va_P D vwCl [(mo, .inr (8, [.ref ms, .int sv, .ref mb, .int ty, .int th, .ref mk, .int (nI lm), .ref mfd, .int mf, .int sp, .int on, .int tw])), (mk, .inl (K, 41, .inl lk))] H := hP.sub [0, 1] rfl
            have hD9 : va_D A [(mo, .inr (8, [.ref ms, .int sv, .ref mb, .int ty, .int th, .ref mk, .int (nI lm), .ref mfd, .int mf, .int sp, .int on, .int tw])), (mk, .inl (K, 41, .inl lk))] := hD.sub [0, 1] (by decide) rfl
            have hK9 : va_K D vwCl [] s := hK.sub [] rfl
            exact W.zret (v := 1) hx hb hr (rfl) (fun t ht9 hW9 => ⟨⟨1, (), rfl, by (exact lg_n c_40), ⟨by rw [ht9]; exact hP9, va_K.moved hW9.alike hK9, hD9⟩⟩, hS.F ht9⟩) hS.2.2 dX8_isLeftGuard_73
      · have hc9 := c_37
        refine lv_iload hx hb dX8_isLeftGuard_33 (lv_at hl 0 rfl) ?_
        refine lv_goto (tgt := 39) hx hb dX8_isLeftGuard_35 (by decide) ?_
        refine k_nrm (y := (mnI (mnI (lnF lm lk b 0) (lnF lm lk b 1)) (lnF lm lk b 2))) ((if_pos (fa_of_nle c_37)).symm) ?_
        refine lv_istore_n (lv' := [(2, .int (mnI (mnI (lnF lm lk b 0) (lnF lm lk b 1)) (lnF lm lk b 2))), (5, .int (lnF lm lk b 2)), (4, .int 2), (3, .int (mxI (lnF lm lk b 0) (lnF lm lk b 1))), (0, .ref mo), (1, .int b)]) hx hb dX8_isLeftGuard_39 rfl hl (by decide) rfl (fun ls hl => ?_)
        refine lv_iload hx hb dX8_isLeftGuard_40 (lv_at hl 1 rfl) ?_
        refine lv_iload_n hx hb dX8_isLeftGuard_42 rfl (lv_at hl 3 rfl) ?_
        refine lv_icmp_le (tgt := 51) hx hb dX8_isLeftGuard_43 (by decide) (fun c_41 => ?_) (fun c_41 => ?_)
        · have hc9 := c_41
          refine lv_iload_n hx hb dX8_isLeftGuard_51 rfl (lv_at hl 3 rfl) ?_
          refine k_nrm (y := (mxI (mxI (lnF lm lk b 0) (lnF lm lk b 1)) (lnF lm lk b 2))) ((if_neg (Int32.not_lt.mpr c_41)).symm) ?_
          refine lv_istore_n (lv' := [(3, .int (mxI (mxI (lnF lm lk b 0) (lnF lm lk b 1)) (lnF lm lk b 2))), (2, .int (mnI (mnI (lnF lm lk b 0) (lnF lm lk b 1)) (lnF lm lk b 2))), (5, .int (lnF lm lk b 2)), (4, .int 2), (0, .ref mo), (1, .int b)]) hx hb dX8_isLeftGuard_52 rfl hl (by decide) rfl (fun ls hl => ?_)
          refine lv_iinc (v := 3) (lv' := [(4, .int 3), (3, .int (mxI (mxI (lnF lm lk b 0) (lnF lm lk b 1)) (lnF lm lk b 2))), (2, .int (mnI (mnI (lnF lm lk b 0) (lnF lm lk b 1)) (lnF lm lk b 2))), (5, .int (lnF lm lk b 2)), (0, .ref mo), (1, .int b)]) hx hb dX8_isLeftGuard_53 hl (k := 3) rfl (by decide) (by decide) rfl (fun ls hl => ?_)
          refine lv_goto (tgt := 12) hx hb dX8_isLeftGuard_56 (by decide) ?_
          refine lv_iload hx hb dX8_isLeftGuard_12 (lv_at hl 0 rfl) ?_
          refine lv_iconst (v := 3) hx hb dX8_isLeftGuard_14 (by decide) ?_
          refine lv_icmp_ge (tgt := 59) hx hb dX8_isLeftGuard_15 (by decide) (fun _ => ?_) (fun c9 => absurd (by decide) c9)
          refine lv_iconst (v := 2) hx hb dX8_isLeftGuard_59 (by decide) ?_
          refine lv_iload_n hx hb dX8_isLeftGuard_60 rfl (lv_at hl 1 rfl) ?_
          refine lv_imul hx hb dX8_isLeftGuard_61 ?_
          refine k_nrm (y := (2 * (mxI (mxI (lnF lm lk b 0) (lnF lm lk b 1)) (lnF lm lk b 2)))) (rfl) ?_
          refine lv_iconst (v := 3) hx hb dX8_isLeftGuard_62 (by decide) ?_
          refine lv_iload_n hx hb dX8_isLeftGuard_63 rfl (lv_at hl 2 rfl) ?_
          refine lv_imul hx hb dX8_isLeftGuard_64 ?_
          refine k_nrm (y := (3 * (mnI (mnI (lnF lm lk b 0) (lnF lm lk b 1)) (lnF lm lk b 2)))) (rfl) ?_
          refine lv_icmp_ge (tgt := 72) hx hb dX8_isLeftGuard_65 (by decide) (fun c_42 => ?_) (fun c_42 => ?_)
          · have hc9 := c_42
            refine lv_iconst (v := 0) hx hb dX8_isLeftGuard_72 (by decide) ?_
            have hP9 : va_P D vwCl [(mo, .inr (8, [.ref ms, .int sv, .ref mb, .int ty, .int th, .ref mk, .int (nI lm), .ref mfd, .int mf, .int sp, .int on, .int tw])), (mk, .inl (K, 41, .inl lk))] H := hP.sub [0, 1] rfl
            have hD9 : va_D A [(mo, .inr (8, [.ref ms, .int sv, .ref mb, .int ty, .int th, .ref mk, .int (nI lm), .ref mfd, .int mf, .int sp, .int on, .int tw])), (mk, .inl (K, 41, .inl lk))] := hD.sub [0, 1] (by decide) rfl
            have hK9 : va_K D vwCl [] s := hK.sub [] rfl
            exact W.zret (v := 0) hx hb hr (rfl) (fun t ht9 hW9 => ⟨⟨0, (), rfl, by (exact lg_p c_42), ⟨by rw [ht9]; exact hP9, va_K.moved hW9.alike hK9, hD9⟩⟩, hS.F ht9⟩) hS.2.2 dX8_isLeftGuard_73
          · have hc9 := c_42
            refine lv_iconst (v := 1) hx hb dX8_isLeftGuard_68 (by decide) ?_
            refine lv_goto (tgt := 73) hx hb dX8_isLeftGuard_69 (by decide) ?_
            have hP9 : va_P D vwCl [(mo, .inr (8, [.ref ms, .int sv, .ref mb, .int ty, .int th, .ref mk, .int (nI lm), .ref mfd, .int mf, .int sp, .int on, .int tw])), (mk, .inl (K, 41, .inl lk))] H := hP.sub [0, 1] rfl
            have hD9 : va_D A [(mo, .inr (8, [.ref ms, .int sv, .ref mb, .int ty, .int th, .ref mk, .int (nI lm), .ref mfd, .int mf, .int sp, .int on, .int tw])), (mk, .inl (K, 41, .inl lk))] := hD.sub [0, 1] (by decide) rfl
            have hK9 : va_K D vwCl [] s := hK.sub [] rfl
            exact W.zret (v := 1) hx hb hr (rfl) (fun t ht9 hW9 => ⟨⟨1, (), rfl, by (exact lg_n c_42), ⟨by rw [ht9]; exact hP9, va_K.moved hW9.alike hK9, hD9⟩⟩, hS.F ht9⟩) hS.2.2 dX8_isLeftGuard_73
        · have hc9 := c_41
          refine lv_iload hx hb dX8_isLeftGuard_46 (lv_at hl 1 rfl) ?_
          refine lv_goto (tgt := 52) hx hb dX8_isLeftGuard_48 (by decide) ?_
          refine k_nrm (y := (mxI (mxI (lnF lm lk b 0) (lnF lm lk b 1)) (lnF lm lk b 2))) ((if_pos (fa_of_nle c_41)).symm) ?_
          refine lv_istore_n (lv' := [(3, .int (mxI (mxI (lnF lm lk b 0) (lnF lm lk b 1)) (lnF lm lk b 2))), (2, .int (mnI (mnI (lnF lm lk b 0) (lnF lm lk b 1)) (lnF lm lk b 2))), (5, .int (lnF lm lk b 2)), (4, .int 2), (0, .ref mo), (1, .int b)]) hx hb dX8_isLeftGuard_52 rfl hl (by decide) rfl (fun ls hl => ?_)
          refine lv_iinc (v := 3) (lv' := [(4, .int 3), (3, .int (mxI (mxI (lnF lm lk b 0) (lnF lm lk b 1)) (lnF lm lk b 2))), (2, .int (mnI (mnI (lnF lm lk b 0) (lnF lm lk b 1)) (lnF lm lk b 2))), (5, .int (lnF lm lk b 2)), (0, .ref mo), (1, .int b)]) hx hb dX8_isLeftGuard_53 hl (k := 3) rfl (by decide) (by decide) rfl (fun ls hl => ?_)
          refine lv_goto (tgt := 12) hx hb dX8_isLeftGuard_56 (by decide) ?_
          refine lv_iload hx hb dX8_isLeftGuard_12 (lv_at hl 0 rfl) ?_
          refine lv_iconst (v := 3) hx hb dX8_isLeftGuard_14 (by decide) ?_
          refine lv_icmp_ge (tgt := 59) hx hb dX8_isLeftGuard_15 (by decide) (fun _ => ?_) (fun c9 => absurd (by decide) c9)
          refine lv_iconst (v := 2) hx hb dX8_isLeftGuard_59 (by decide) ?_
          refine lv_iload_n hx hb dX8_isLeftGuard_60 rfl (lv_at hl 1 rfl) ?_
          refine lv_imul hx hb dX8_isLeftGuard_61 ?_
          refine k_nrm (y := (2 * (mxI (mxI (lnF lm lk b 0) (lnF lm lk b 1)) (lnF lm lk b 2)))) (rfl) ?_
          refine lv_iconst (v := 3) hx hb dX8_isLeftGuard_62 (by decide) ?_
          refine lv_iload_n hx hb dX8_isLeftGuard_63 rfl (lv_at hl 2 rfl) ?_
          refine lv_imul hx hb dX8_isLeftGuard_64 ?_
          refine k_nrm (y := (3 * (mnI (mnI (lnF lm lk b 0) (lnF lm lk b 1)) (lnF lm lk b 2)))) (rfl) ?_
          refine lv_icmp_ge (tgt := 72) hx hb dX8_isLeftGuard_65 (by decide) (fun c_43 => ?_) (fun c_43 => ?_)
          · have hc9 := c_43
            refine lv_iconst (v := 0) hx hb dX8_isLeftGuard_72 (by decide) ?_
            have hP9 : va_P D vwCl [(mo, .inr (8, [.ref ms, .int sv, .ref mb, .int ty, .int th, .ref mk, .int (nI lm), .ref mfd, .int mf, .int sp, .int on, .int tw])), (mk, .inl (K, 41, .inl lk))] H := hP.sub [0, 1] rfl
            have hD9 : va_D A [(mo, .inr (8, [.ref ms, .int sv, .ref mb, .int ty, .int th, .ref mk, .int (nI lm), .ref mfd, .int mf, .int sp, .int on, .int tw])), (mk, .inl (K, 41, .inl lk))] := hD.sub [0, 1] (by decide) rfl
            have hK9 : va_K D vwCl [] s := hK.sub [] rfl
            exact W.zret (v := 0) hx hb hr (rfl) (fun t ht9 hW9 => ⟨⟨0, (), rfl, by (exact lg_p c_43), ⟨by rw [ht9]; exact hP9, va_K.moved hW9.alike hK9, hD9⟩⟩, hS.F ht9⟩) hS.2.2 dX8_isLeftGuard_73
          · have hc9 := c_43
            refine lv_iconst (v := 1) hx hb dX8_isLeftGuard_68 (by decide) ?_
            refine lv_goto (tgt := 73) hx hb dX8_isLeftGuard_69 (by decide) ?_
            have hP9 : va_P D vwCl [(mo, .inr (8, [.ref ms, .int sv, .ref mb, .int ty, .int th, .ref mk, .int (nI lm), .ref mfd, .int mf, .int sp, .int on, .int tw])), (mk, .inl (K, 41, .inl lk))] H := hP.sub [0, 1] rfl
            have hD9 : va_D A [(mo, .inr (8, [.ref ms, .int sv, .ref mb, .int ty, .int th, .ref mk, .int (nI lm), .ref mfd, .int mf, .int sp, .int on, .int tw])), (mk, .inl (K, 41, .inl lk))] := hD.sub [0, 1] (by decide) rfl
            have hK9 : va_K D vwCl [] s := hK.sub [] rfl
            exact W.zret (v := 1) hx hb hr (rfl) (fun t ht9 hW9 => ⟨⟨1, (), rfl, by (exact lg_n c_43), ⟨by rw [ht9]; exact hP9, va_K.moved hW9.alike hK9, hD9⟩⟩, hS.F ht9⟩) hS.2.2 dX8_isLeftGuard_73
set_option maxHeartbeats 4000000 in
set_option maxRecDepth 100000 in
theorem c_M_rightG (l : Launch) (D : va_G) (mo : Nat) (ms : Nat) (sv : Int32) (mb : Nat) (ty : Int32) (th : Int32) (mk : Nat) (lm : Nat) (mfd : Nat) (mf : Int32) (sp : Int32) (on : Int32) (tw : Int32) (K : ClassId) (lk : Nat → Int32) (b : Int32) (h13 : 13 ≤ lm) (hlm : lm ≤ 41) (sz : Nat) : k_Mi (S := Unit) l D yX8_isRightGuard cX8_isRightGuard 4 (some .boolean) 1 0 0 22 [.ref mo, .int b] [(mo, .inr (8, [.ref ms, .int sv, .ref mb, .int ty, .int th, .ref mk, .int (nI lm), .ref mfd, .int mf, .int sp, .int on, .int tw])), (mk, .inl (K, 41, .inl lk))] [(K, .int)] (fun (r : Int32) (_ : Unit) => r = (rgF (lnF lm lk b (lm - 2)) (lnF lm lk b (lm - 1)))) (fun _ => [(mo, .inr (8, [.ref ms, .int sv, .ref mb, .int ty, .int th, .ref mk, .int (nI lm), .ref mfd, .int mf, .int sp, .int on, .int tw])), (mk, .inl (K, 41, .inl lk))]) (fun _ => []) sz := by
  refine Met.ofW (cc := cX8_isRightGuard) (maxL := 4) (ret := (some .boolean)) (by decide) rfl ?_
  intro p e s m args below meth c s₁ B hml hv
  obtain ⟨rfl, hsz, hP, hK, hD0, hG⟩ := hv
  have hx := B.exec
  have hb := B.bytes
  have hr := B.returns
  have ht : ∀ v9 ∈ wsA, v9.before ([.ref mo, .int b] : List Value).toArray s = true := fun v9 h9 => atoms_spec (ws := k_ws yX8_isRightGuard cX8_isRightGuard 4 (some .boolean)) B.pre v9 (List.mem_cons_of_mem _ h9)
  have hown : s.vm.findClass RX8 = some m.cls := findClass_of_methodNamed B.named
  have S0 : k_C p s m ([.ref mo, .int b] : List Value).toArray c cX8_isRightGuard 4 RX8 := ⟨hx, hb, hml, hown, ht⟩
  have hlocks := B.notSynchronized
  subst hsz
  have hD := hD0.self (sz := s.heap.size)
  generalize hAe : va_A [(mo, .inr (8, [.ref ms, .int sv, .ref mb, .int ty, .int th, .ref mk, .int (nI lm), .ref mfd, .int mf, .int sp, .int on, .int tw])), (mk, .inl (K, 41, .inl lk))] s.heap.size = A at hD hG ⊢
  have hA : ∀ q : Nat, s.heap.size ≤ q → A q := fun q h => by rw [← hAe]; exact Or.inr h
  have hS : va_S A s.heap s.heap [] := va_S.rf
  have hl := lv_entry ([.ref mo, .int b]) (n := 4) (Nat.le_of_ble_eq_true rfl)
  rw [lg_entry_eq]
  generalize (lg_sl ([.ref mo, .int b]) ++ List.replicate (4 - (lg_sl ([.ref mo, .int b])).length) Slot.unset).toArray = ls at hl ⊢
  have hl : lv_has ls 4 [(0, .ref mo), (1, .int b)] := hl
  have hP : va_P D vwCl [(mo, .inr (8, [.ref ms, .int sv, .ref mb, .int ty, .int th, .ref mk, .int (nI lm), .ref mfd, .int mf, .int sp, .int on, .int tw])), (mk, .inl (K, 41, .inl lk))] s.heap := hP
  refine lv_aload_n hx hb dX8_isRightGuard_0 rfl (lv_at hl 0 rfl) ?_
  refine lv_aload_n hx hb dX8_isRightGuard_1 rfl (lv_at hl 0 rfl) ?_
  refine va_get (D := D) (ci := 8) (v := .int (nI lm)) (C := RX8) (T := TX8) (N := 12) hx hb ht inA_X8 hown hK hP 0 rfl rfl 6 (by decide) (ht _ lf_X8_78) (fun _ h9 => h9) rfl dX8_isRightGuard_2 ?_
  refine lv_iconst (v := 2) hx hb dX8_isRightGuard_5 (by decide) ?_
  refine lv_isub hx hb dX8_isRightGuard_6 ?_
  refine k_nrm (y := (nI (lm - 2))) (pk_sub (b := 2) (by omega)) ?_
  refine lv_iload_n hx hb dX8_isRightGuard_7 rfl (lv_at hl 1 rfl) ?_
  have ct := k_cut_of (wc := [(mo, .inr (8, [.ref ms, .int sv, .ref mb, .int ty, .int th, .ref mk, .int (nI lm), .ref mfd, .int mf, .int sp, .int on, .int tw])), (mk, .inl (K, 41, .inl lk))]) (wr := []) (tc := [(K, .int)]) hG hS hA hK hP hD [0, 1] [] [0] rfl rfl (by decide) (by decide) (by decide) rfl
  refine k_endi (As := [.ref mo, .int (nI (lm - 2)), .int b]) ct (k_runV (As := [.int (nI (lm - 2)), .int b]) (rest := []) S0 Lv_X8_81 rfl (ci := 8) (q0 := 0) rfl rfl ct (c_M_time l D mo ms sv mb ty th mk lm mfd mf sp on tw K lk (lm - 2) b (by first | assumption | omega) (by first | assumption | omega) s.heap.size) hl.1 rfl (Nat.le_of_ble_eq_true rfl) rfl dX8_isRightGuard_8 ⟨⟨Nat.le_of_ble_eq_true rfl, Nat.le_of_ble_eq_true rfl⟩, Nat.le_of_ble_eq_true rfl, Nat.le_of_ble_eq_true rfl⟩) rfl rfl (fun r_1 _ H locs hw_2 hP hD hK hS => ?_)
  have hK : va_K D vwCl [(K, .int)] s := hK
  have hP : va_P D vwCl [(mo, .inr (8, [.ref ms, .int sv, .ref mb, .int ty, .int th, .ref mk, .int (nI lm), .ref mfd, .int mf, .int sp, .int on, .int tw])), (mk, .inl (K, 41, .inl lk))] H := hP
  have hD : va_D A [(mo, .inr (8, [.ref ms, .int sv, .ref mb, .int ty, .int th, .ref mk, .int (nI lm), .ref mfd, .int mf, .int sp, .int on, .int tw])), (mk, .inl (K, 41, .inl lk))] := hD
  have hw_2 : r_1 = (lnF lm lk b (lm - 2)) := hw_2
  have hw_2 := hw_2.symm
  subst hw_2
  refine k_nrm (y := (lnF lm lk b (lm - 2))) rfl ?_
  refine lv_istore_n (lv' := [(2, .int (lnF lm lk b (lm - 2))), (0, .ref mo), (1, .int b)]) hx hb dX8_isRightGuard_11 rfl hl (by decide) rfl (fun ls hl => ?_)
  refine lv_aload_n hx hb dX8_isRightGuard_12 rfl (lv_at hl 1 rfl) ?_
  refine lv_aload_n hx hb dX8_isRightGuard_13 rfl (lv_at hl 1 rfl) ?_
  refine va_get (D := D) (ci := 8) (v := .int (nI lm)) (C := RX8) (T := TX8) (N := 12) hx hb ht inA_X8 hown hK hP 0 rfl rfl 6 (by decide) (ht _ lf_X8_78) (fun _ h9 => h9) rfl dX8_isRightGuard_14 ?_
  refine lv_iconst (v := 1) hx hb dX8_isRightGuard_17 (by decide) ?_
  refine lv_isub hx hb dX8_isRightGuard_18 ?_
  refine k_nrm (y := (nI (lm - 1))) (pk_sub (b := 1) (by omega)) ?_
  refine lv_iload_n hx hb dX8_isRightGuard_19 rfl (lv_at hl 2 rfl) ?_
  have ct := k_cut_of (wc := [(mo, .inr (8, [.ref ms, .int sv, .ref mb, .int ty, .int th, .ref mk, .int (nI lm), .ref mfd, .int mf, .int sp, .int on, .int tw])), (mk, .inl (K, 41, .inl lk))]) (wr := []) (tc := [(K, .int)]) hG hS hA hK hP hD [0, 1] [] [0] rfl rfl (by decide) (by decide) (by decide) rfl
  refine k_endi (As := [.ref mo, .int (nI (lm - 1)), .int b]) ct (k_runV (As := [.int (nI (lm - 1)), .int b]) (rest := []) S0 Lv_X8_81 rfl (ci := 8) (q0 := 0) rfl rfl ct (c_M_time l D mo ms sv mb ty th mk lm mfd mf sp on tw K lk (lm - 1) b (by first | assumption | omega) (by first | assumption | omega) H.size) hl.1 rfl (Nat.le_of_ble_eq_true rfl) rfl dX8_isRightGuard_20 ⟨⟨Nat.le_of_ble_eq_true rfl, Nat.le_of_ble_eq_true rfl⟩, Nat.le_of_ble_eq_true rfl, Nat.le_of_ble_eq_true rfl⟩) rfl rfl (fun r_3 _ H locs hw_4 hP hD hK hS => ?_)
  have hK : va_K D vwCl [(K, .int)] s := hK
  have hP : va_P D vwCl [(mo, .inr (8, [.ref ms, .int sv, .ref mb, .int ty, .int th, .ref mk, .int (nI lm), .ref mfd, .int mf, .int sp, .int on, .int tw])), (mk, .inl (K, 41, .inl lk))] H := hP
  have hD : va_D A [(mo, .inr (8, [.ref ms, .int sv, .ref mb, .int ty, .int th, .ref mk, .int (nI lm), .ref mfd, .int mf, .int sp, .int on, .int tw])), (mk, .inl (K, 41, .inl lk))] := hD
  have hw_4 : r_3 = (lnF lm lk b (lm - 1)) := hw_4
  have hw_4 := hw_4.symm
  subst hw_4
  refine k_nrm (y := (lnF lm lk b (lm - 1))) rfl ?_
  refine lv_istore_n (lv' := [(3, .int (lnF lm lk b (lm - 1))), (2, .int (lnF lm lk b (lm - 2))), (0, .ref mo), (1, .int b)]) hx hb dX8_isRightGuard_23 rfl hl (by decide) rfl (fun ls hl => ?_)
  refine lv_iconst (v := 2) hx hb dX8_isRightGuard_24 (by decide) ?_
  refine lv_iload_n hx hb dX8_isRightGuard_25 rfl (lv_at hl 0 rfl) ?_
  refine lv_imul hx hb dX8_isRightGuard_26 ?_
  refine k_nrm (y := (2 * (lnF lm lk b (lm - 1)))) (rfl) ?_
  refine lv_iconst (v := 3) hx hb dX8_isRightGuard_27 (by decide) ?_
  refine lv_iload_n hx hb dX8_isRightGuard_28 rfl (lv_at hl 1 rfl) ?_
  refine lv_imul hx hb dX8_isRightGuard_29 ?_
  refine k_nrm (y := (3 * (lnF lm lk b (lm - 2)))) (rfl) ?_
  refine lv_icmp_le (tgt := 44) hx hb dX8_isRightGuard_30 (by decide) (fun c_5 => ?_) (fun c_5 => ?_)
  · have hc9 := c_5
    refine lv_iconst (v := 0) hx hb dX8_isRightGuard_44 (by decide) ?_
    have hP9 : va_P D vwCl [(mo, .inr (8, [.ref ms, .int sv, .ref mb, .int ty, .int th, .ref mk, .int (nI lm), .ref mfd, .int mf, .int sp, .int on, .int tw])), (mk, .inl (K, 41, .inl lk))] H := hP.sub [0, 1] rfl
    have hD9 : va_D A [(mo, .inr (8, [.ref ms, .int sv, .ref mb, .int ty, .int th, .ref mk, .int (nI lm), .ref mfd, .int mf, .int sp, .int on, .int tw])), (mk, .inl (K, 41, .inl lk))] := hD.sub [0, 1] (by decide) rfl
    have hK9 : va_K D vwCl [] s := hK.sub [] rfl
    exact W.zret (v := 0) hx hb hr (rfl) (fun t ht9 hW9 => ⟨⟨0, (), rfl, by (unfold rgF; rw [if_pos c_5]), ⟨by rw [ht9]; exact hP9, va_K.moved hW9.alike hK9, hD9⟩⟩, hS.F ht9⟩) hS.2.2 dX8_isRightGuard_45
  · have hc9 := c_5
    refine lv_iload_n hx hb dX8_isRightGuard_33 rfl (lv_at hl 0 rfl) ?_
    refine lv_iconst (v := 3) hx hb dX8_isRightGuard_34 (by decide) ?_
    refine lv_iload_n hx hb dX8_isRightGuard_35 rfl (lv_at hl 1 rfl) ?_
    refine lv_imul hx hb dX8_isRightGuard_36 ?_
    refine k_nrm (y := (3 * (lnF lm lk b (lm - 2)))) (rfl) ?_
    refine lv_icmp_ge (tgt := 44) hx hb dX8_isRightGuard_37 (by decide) (fun c_6 => ?_) (fun c_6 => ?_)
    · have hc9 := c_6
      refine lv_iconst (v := 0) hx hb dX8_isRightGuard_44 (by decide) ?_
      have hP9 : va_P D vwCl [(mo, .inr (8, [.ref ms, .int sv, .ref mb, .int ty, .int th, .ref mk, .int (nI lm), .ref mfd, .int mf, .int sp, .int on, .int tw])), (mk, .inl (K, 41, .inl lk))] H := hP.sub [0, 1] rfl
      have hD9 : va_D A [(mo, .inr (8, [.ref ms, .int sv, .ref mb, .int ty, .int th, .ref mk, .int (nI lm), .ref mfd, .int mf, .int sp, .int on, .int tw])), (mk, .inl (K, 41, .inl lk))] := hD.sub [0, 1] (by decide) rfl
      have hK9 : va_K D vwCl [] s := hK.sub [] rfl
      exact W.zret (v := 0) hx hb hr (rfl) (fun t ht9 hW9 => ⟨⟨0, (), rfl, by (unfold rgF; rw [if_neg c_5, if_pos c_6]), ⟨by rw [ht9]; exact hP9, va_K.moved hW9.alike hK9, hD9⟩⟩, hS.F ht9⟩) hS.2.2 dX8_isRightGuard_45
    · have hc9 := c_6
      refine lv_iconst (v := 1) hx hb dX8_isRightGuard_40 (by decide) ?_
      refine lv_goto (tgt := 45) hx hb dX8_isRightGuard_41 (by decide) ?_
      have hP9 : va_P D vwCl [(mo, .inr (8, [.ref ms, .int sv, .ref mb, .int ty, .int th, .ref mk, .int (nI lm), .ref mfd, .int mf, .int sp, .int on, .int tw])), (mk, .inl (K, 41, .inl lk))] H := hP.sub [0, 1] rfl
      have hD9 : va_D A [(mo, .inr (8, [.ref ms, .int sv, .ref mb, .int ty, .int th, .ref mk, .int (nI lm), .ref mfd, .int mf, .int sp, .int on, .int tw])), (mk, .inl (K, 41, .inl lk))] := hD.sub [0, 1] (by decide) rfl
      have hK9 : va_K D vwCl [] s := hK.sub [] rfl
      exact W.zret (v := 1) hx hb hr (rfl) (fun t ht9 hW9 => ⟨⟨1, (), rfl, by (unfold rgF; rw [if_neg c_5, if_neg c_6]), ⟨by rw [ht9]; exact hP9, va_K.moved hW9.alike hK9, hD9⟩⟩, hS.F ht9⟩) hS.2.2 dX8_isRightGuard_45
set_option maxHeartbeats 4000000 in
set_option maxRecDepth 100000 in
theorem c_M_checkF (l : Launch) (D : va_G) (mfd : Nat) (K : ClassId) (fd : Nat → Int32) (j : Nat) (hj8 : j ≤ 8) (sz : Nat) : k_Mi (S := Unit) l D yX8_check cX8_check 5 (some .int) 0 0 0 0 [.ref mfd, .int 0, .int (nI j)] [(mfd, .inl (K, 9, .inl fd))] [(K, .int)] (fun (r : Int32) (_ : Unit) => r = (chkd (csum (fun q9 => fd (q9)) j j))) (fun _ => [(mfd, .inl (K, 9, .inl fd))]) (fun _ => []) sz := by
  refine Met.ofW (cc := cX8_check) (maxL := 5) (ret := (some .int)) (by decide) rfl ?_
  intro p e s m args below meth c s₁ B hml hv
  obtain ⟨rfl, hsz, hP, hK, hD0, hG⟩ := hv
  have hx := B.exec
  have hb := B.bytes
  have hr := B.returns
  have ht : ∀ v9 ∈ wsA, v9.before ([.ref mfd, .int 0, .int (nI j)] : List Value).toArray s = true := fun v9 h9 => atoms_spec (ws := k_ws yX8_check cX8_check 5 (some .int)) B.pre v9 (List.mem_cons_of_mem _ h9)
  have hown : s.vm.findClass RX8 = some m.cls := findClass_of_methodNamed B.named
  have S0 : k_C p s m ([.ref mfd, .int 0, .int (nI j)] : List Value).toArray c cX8_check 5 RX8 := ⟨hx, hb, hml, hown, ht⟩
  have hlocks := B.notSynchronized
  subst hsz
  have hD := hD0.self (sz := s.heap.size)
  generalize hAe : va_A [(mfd, .inl (K, 9, .inl fd))] s.heap.size = A at hD hG ⊢
  have hA : ∀ q : Nat, s.heap.size ≤ q → A q := fun q h => by rw [← hAe]; exact Or.inr h
  have hS : va_S A s.heap s.heap [] := va_S.rf
  have hl := lv_entry ([.ref mfd, .int 0, .int (nI j)]) (n := 5) (Nat.le_of_ble_eq_true rfl)
  rw [lg_entry_eq]
  generalize (lg_sl ([.ref mfd, .int 0, .int (nI j)]) ++ List.replicate (5 - (lg_sl ([.ref mfd, .int 0, .int (nI j)])).length) Slot.unset).toArray = ls at hl ⊢
  have hl : lv_has ls 5 [(0, .ref mfd), (1, .int 0), (2, .int (nI j))] := hl
  have hP : va_P D vwCl [(mfd, .inl (K, 9, .inl fd))] s.heap := hP
  refine lv_iconst (v := 0) hx hb dX8_check_0 (by decide) ?_
  refine lv_istore_n (lv' := [(3, .int 0), (0, .ref mfd), (1, .int 0), (2, .int (nI j))]) hx hb dX8_check_1 rfl hl (by decide) rfl (fun ls hl => ?_)
  refine lv_iconst (v := 0) hx hb dX8_check_2 (by decide) ?_
  refine lv_istore (lv' := [(4, .int 0), (3, .int 0), (0, .ref mfd), (1, .int 0), (2, .int (nI j))]) hx hb dX8_check_3 hl (by decide) rfl (fun ls hl => ?_)
  have hl : lv_has ls 5 [(4, .int 0), (3, .int (tS (fun q9 => fd (q9)) j 0)), (0, .ref mfd), (1, .int 0), (2, .int (nI j))] := hl
  have hl : lv_has ls 5 [(4, .int (nI 0)), (3, .int (tS (fun q9 => fd (q9)) j 0)), (0, .ref mfd), (1, .int 0), (2, .int (nI j))] := hl
  refine k_loop (ι := Nat) (fun (k : Nat) H9 locs9 ls9 => (k ≤ j) ∧ va_P D vwCl [(mfd, .inl (K, 9, .inl fd))] H9 ∧ va_D A [(mfd, .inl (K, 9, .inl fd))] ∧ va_S A s.heap H9 locs9 ∧ lv_has ls9 5 [(3, .int (tS (fun q9 => fd (q9)) j k)), (4, .int (nI k)), (0, .ref mfd), (1, .int 0), (2, .int (nI j))]) (fun (k : Nat) => j - k) ?_ (0) ⟨(Nat.zero_le _), hP.sub [0] rfl, hD.sub [0] (by decide) rfl, hS, lv_sub hl [1, 0, 2, 3, 4] rfl⟩
  intro x9 H locs ls hF9 ih9
  obtain ⟨k, hv9⟩ : ∃ z, z = x9 := ⟨_, rfl⟩
  subst hv9
  obtain ⟨hk, hP, hD, hS, hl⟩ := hF9
  try dsimp only at ih9
  have hP : va_P D vwCl [(mfd, .inl (K, 9, .inl fd))] H := hP
  have hD : va_D A [(mfd, .inl (K, 9, .inl fd))] := hD
  have hl : lv_has ls 5 [(3, .int (tS (fun q9 => fd (q9)) j k)), (4, .int (nI k)), (0, .ref mfd), (1, .int 0), (2, .int (nI j))] := hl
  refine lv_iload hx hb dX8_check_5 (lv_at hl 1 rfl) ?_
  refine lv_iload_n hx hb dX8_check_7 rfl (lv_at hl 4 rfl) ?_
  refine lv_icmp_ge (tgt := 48) hx hb dX8_check_8 (by decide) (fun c_1 => ?_) (fun c_1 => ?_)
  · have hc9 := c_1
    obtain rfl : j = k := by rcases Nat.lt_or_ge k j with q9 | q9; exact absurd c_1 (nI_ge q9 (by omega)); omega
    refine lv_bipush (v := 10) hx hb dX8_check_48 (by decide) ?_
    refine lv_iload_n hx hb dX8_check_50 rfl (lv_at hl 0 rfl) ?_
    refine lv_bipush (v := 10) hx hb dX8_check_51 (by decide) ?_
    refine lv_irem hx hb dX8_check_53 (by decide) ?_
    refine k_nrm (y := (rem10 (tS (fun q9 => fd (q9)) j j))) (rfl) ?_
    refine lv_isub hx hb dX8_check_54 ?_
    refine k_nrm (y := (10 - rem10 (tS (fun q9 => fd (q9)) j j))) (rfl) ?_
    refine lv_bipush (v := 10) hx hb dX8_check_55 (by decide) ?_
    refine lv_irem hx hb dX8_check_57 (by decide) ?_
    refine k_nrm (y := (chkd (tS (fun q9 => fd (q9)) j j))) (rfl) ?_
    have hP9 : va_P D vwCl [(mfd, .inl (K, 9, .inl fd))] H := hP.sub [0] rfl
    have hD9 : va_D A [(mfd, .inl (K, 9, .inl fd))] := hD.sub [0] (by decide) rfl
    have hK9 : va_K D vwCl [] s := hK.sub [] rfl
    exact W.iret (v := (chkd (tS (fun q9 => fd (q9)) j j))) hx hb hr (fun t ht9 hW9 => ⟨⟨(chkd (tS (fun q9 => fd (q9)) j j)), (), rfl, by rw [tS_csum], ⟨by rw [ht9]; exact hP9, va_K.moved hW9.alike hK9, hD9⟩⟩, hS.F ht9⟩) hS.2.2 dX8_check_58
  · have hc9 := c_1
    have hik : k + 1 ≤ j := by rcases Nat.lt_or_ge k j with q9 | q9; exact q9; exact absurd (nI_le q9 (by omega)) c_1
    refine lv_iload_n hx hb dX8_check_11 rfl (lv_at hl 0 rfl) ?_
    refine lv_iload_n hx hb dX8_check_12 rfl (lv_at hl 4 rfl) ?_
    refine lv_iconst (v := 1) hx hb dX8_check_13 (by decide) ?_
    refine lv_isub hx hb dX8_check_14 ?_
    refine k_nrm (y := (nI j - 1)) (rfl) ?_
    refine lv_iload hx hb dX8_check_15 (lv_at hl 1 rfl) ?_
    refine lv_isub hx hb dX8_check_17 ?_
    refine k_nrm (y := (nI (j - 1 - k))) (chk_ix hik) ?_
    refine lv_iconst (v := 2) hx hb dX8_check_18 (by decide) ?_
    refine lv_irem hx hb dX8_check_19 (by decide) ?_
    refine k_nrm (y := (nI ((j - 1 - k) % 2))) (pk_rem (a := j - 1 - k) (d := 2) (by omega) (by omega) (by omega)) ?_
    refine lv_if_ne (tgt := 34) hx hb dX8_check_20 (by decide) (fun c_2 => ?_) (fun c_2 => ?_)
    · have hc9 := c_2
      refine lv_aload_n hx hb dX8_check_34 rfl (lv_at hl 2 rfl) ?_
      refine lv_iload_n hx hb dX8_check_35 rfl (lv_at hl 3 rfl) ?_
      refine lv_iload hx hb dX8_check_36 (lv_at hl 1 rfl) ?_
      refine lv_iadd hx hb dX8_check_38 ?_
      refine k_nrm (y := (nI k)) (Int32.zero_add _) ?_
      refine va_iald hx hb hK hP 0 0 rfl rfl (vp_in_nI (by omega) (by omega)) dX8_check_39 ?_
      refine k_nrm (y := fd (k)) (by rw [nI_clamp (by omega)]) ?_
      refine lv_iadd hx hb dX8_check_40 ?_
      refine k_nrm (y := (tS (fun q9 => fd (q9)) j (k + 1))) (by rw [show (tS (fun q9 => fd (q9)) j (k + 1)) = (tS (fun q9 => fd (q9)) j k) + (if (j - 1 - k) % 2 = 0 then 3 * fd (k) else fd (k)) from rfl, if_neg (fun q9 => c_2 (congrArg nI q9))]) ?_
      refine lv_istore_n (lv' := [(3, .int (tS (fun q9 => fd (q9)) j (k + 1))), (4, .int (nI k)), (0, .ref mfd), (1, .int 0), (2, .int (nI j))]) hx hb dX8_check_41 rfl hl (by decide) rfl (fun ls hl => ?_)
      obtain ⟨x_3, ex_3⟩ : ∃ z : Int32, z = (nI k) + 1 := ⟨_, rfl⟩
      refine lv_iinc (v := x_3) (lv' := [(4, .int x_3), (3, .int (tS (fun q9 => fd (q9)) j (k + 1))), (0, .ref mfd), (1, .int 0), (2, .int (nI j))]) hx hb dX8_check_42 hl (k := 1) rfl (by rw [ex_3]; rfl) (by decide) rfl (fun ls hl => ?_)
      refine lv_goto (tgt := 5) hx hb dX8_check_45 (by decide) ?_
      have he9 : x_3 = (nI (k + 1)) := by rw [ex_3]; exact nI_1 k
      rw [he9] at hl
      have hl : lv_has ls 5 [(4, .int (nI (k + 1))), (3, .int (tS (fun q9 => fd (q9)) j (k + 1))), (0, .ref mfd), (1, .int 0), (2, .int (nI j))] := hl
      exact ih9 (k + 1) H locs ls (by omega) ⟨hik, hP.sub [0] rfl, hD.sub [0] (by decide) rfl, hS, lv_sub hl [1, 0, 2, 3, 4] rfl⟩
    · have hc9 := c_2
      refine lv_iconst (v := 3) hx hb dX8_check_23 (by decide) ?_
      refine lv_aload_n hx hb dX8_check_24 rfl (lv_at hl 2 rfl) ?_
      refine lv_iload_n hx hb dX8_check_25 rfl (lv_at hl 3 rfl) ?_
      refine lv_iload hx hb dX8_check_26 (lv_at hl 1 rfl) ?_
      refine lv_iadd hx hb dX8_check_28 ?_
      refine k_nrm (y := (nI k)) (Int32.zero_add _) ?_
      refine va_iald hx hb hK hP 0 0 rfl rfl (vp_in_nI (by omega) (by omega)) dX8_check_29 ?_
      refine k_nrm (y := fd (k)) (by rw [nI_clamp (by omega)]) ?_
      refine lv_imul hx hb dX8_check_30 ?_
      refine k_nrm (y := (3 * fd (k))) (rfl) ?_
      refine lv_goto (tgt := 40) hx hb dX8_check_31 (by decide) ?_
      refine lv_iadd hx hb dX8_check_40 ?_
      refine k_nrm (y := (tS (fun q9 => fd (q9)) j (k + 1))) (by rw [show (tS (fun q9 => fd (q9)) j (k + 1)) = (tS (fun q9 => fd (q9)) j k) + (if (j - 1 - k) % 2 = 0 then 3 * fd (k) else fd (k)) from rfl, if_pos ((nI_eq (a := (j - 1 - k) % 2) (b := 0) (by omega) (by omega)).mp c_2)]) ?_
      refine lv_istore_n (lv' := [(3, .int (tS (fun q9 => fd (q9)) j (k + 1))), (4, .int (nI k)), (0, .ref mfd), (1, .int 0), (2, .int (nI j))]) hx hb dX8_check_41 rfl hl (by decide) rfl (fun ls hl => ?_)
      obtain ⟨x_4, ex_4⟩ : ∃ z : Int32, z = (nI k) + 1 := ⟨_, rfl⟩
      refine lv_iinc (v := x_4) (lv' := [(4, .int x_4), (3, .int (tS (fun q9 => fd (q9)) j (k + 1))), (0, .ref mfd), (1, .int 0), (2, .int (nI j))]) hx hb dX8_check_42 hl (k := 1) rfl (by rw [ex_4]; rfl) (by decide) rfl (fun ls hl => ?_)
      refine lv_goto (tgt := 5) hx hb dX8_check_45 (by decide) ?_
      have he9 : x_4 = (nI (k + 1)) := by rw [ex_4]; exact nI_1 k
      rw [he9] at hl
      have hl : lv_has ls 5 [(4, .int (nI (k + 1))), (3, .int (tS (fun q9 => fd (q9)) j (k + 1))), (0, .ref mfd), (1, .int 0), (2, .int (nI j))] := hl
      exact ih9 (k + 1) H locs ls (by omega) ⟨hik, hP.sub [0] rfl, hD.sub [0] (by decide) rfl, hS, lv_sub hl [1, 0, 2, 3, 4] rfl⟩
set_option maxHeartbeats 4000000 in
set_option maxRecDepth 100000 in
theorem c_M_checkS (l : Launch) (D : va_G) (ms : Nat) (K : ClassId) (sf : Nat → Int32) (j : Nat) (hj8 : j ≤ 8) (sz : Nat) : k_Mi (S := Unit) l D yX8_check cX8_check 5 (some .int) 0 0 0 0 [.ref ms, .int 1, .int (nI j)] [(ms, .inl (K, 889, .inl sf))] [(K, .int)] (fun (r : Int32) (_ : Unit) => r = (chkd (csum (fun q9 => sf (1 + q9)) j j))) (fun _ => [(ms, .inl (K, 889, .inl sf))]) (fun _ => []) sz := by
  refine Met.ofW (cc := cX8_check) (maxL := 5) (ret := (some .int)) (by decide) rfl ?_
  intro p e s m args below meth c s₁ B hml hv
  obtain ⟨rfl, hsz, hP, hK, hD0, hG⟩ := hv
  have hx := B.exec
  have hb := B.bytes
  have hr := B.returns
  have ht : ∀ v9 ∈ wsA, v9.before ([.ref ms, .int 1, .int (nI j)] : List Value).toArray s = true := fun v9 h9 => atoms_spec (ws := k_ws yX8_check cX8_check 5 (some .int)) B.pre v9 (List.mem_cons_of_mem _ h9)
  have hown : s.vm.findClass RX8 = some m.cls := findClass_of_methodNamed B.named
  have S0 : k_C p s m ([.ref ms, .int 1, .int (nI j)] : List Value).toArray c cX8_check 5 RX8 := ⟨hx, hb, hml, hown, ht⟩
  have hlocks := B.notSynchronized
  subst hsz
  have hD := hD0.self (sz := s.heap.size)
  generalize hAe : va_A [(ms, .inl (K, 889, .inl sf))] s.heap.size = A at hD hG ⊢
  have hA : ∀ q : Nat, s.heap.size ≤ q → A q := fun q h => by rw [← hAe]; exact Or.inr h
  have hS : va_S A s.heap s.heap [] := va_S.rf
  have hl := lv_entry ([.ref ms, .int 1, .int (nI j)]) (n := 5) (Nat.le_of_ble_eq_true rfl)
  rw [lg_entry_eq]
  generalize (lg_sl ([.ref ms, .int 1, .int (nI j)]) ++ List.replicate (5 - (lg_sl ([.ref ms, .int 1, .int (nI j)])).length) Slot.unset).toArray = ls at hl ⊢
  have hl : lv_has ls 5 [(0, .ref ms), (1, .int 1), (2, .int (nI j))] := hl
  have hP : va_P D vwCl [(ms, .inl (K, 889, .inl sf))] s.heap := hP
  refine lv_iconst (v := 0) hx hb dX8_check_0 (by decide) ?_
  refine lv_istore_n (lv' := [(3, .int 0), (0, .ref ms), (1, .int 1), (2, .int (nI j))]) hx hb dX8_check_1 rfl hl (by decide) rfl (fun ls hl => ?_)
  refine lv_iconst (v := 0) hx hb dX8_check_2 (by decide) ?_
  refine lv_istore (lv' := [(4, .int 0), (3, .int 0), (0, .ref ms), (1, .int 1), (2, .int (nI j))]) hx hb dX8_check_3 hl (by decide) rfl (fun ls hl => ?_)
  have hl : lv_has ls 5 [(4, .int 0), (3, .int (tS (fun q9 => sf (1 + q9)) j 0)), (0, .ref ms), (1, .int 1), (2, .int (nI j))] := hl
  have hl : lv_has ls 5 [(4, .int (nI 0)), (3, .int (tS (fun q9 => sf (1 + q9)) j 0)), (0, .ref ms), (1, .int 1), (2, .int (nI j))] := hl
  refine k_loop (ι := Nat) (fun (k : Nat) H9 locs9 ls9 => (k ≤ j) ∧ va_P D vwCl [(ms, .inl (K, 889, .inl sf))] H9 ∧ va_D A [(ms, .inl (K, 889, .inl sf))] ∧ va_S A s.heap H9 locs9 ∧ lv_has ls9 5 [(3, .int (tS (fun q9 => sf (1 + q9)) j k)), (4, .int (nI k)), (0, .ref ms), (1, .int 1), (2, .int (nI j))]) (fun (k : Nat) => j - k) ?_ (0) ⟨(Nat.zero_le _), hP.sub [0] rfl, hD.sub [0] (by decide) rfl, hS, lv_sub hl [1, 0, 2, 3, 4] rfl⟩
  intro x9 H locs ls hF9 ih9
  obtain ⟨k, hv9⟩ : ∃ z, z = x9 := ⟨_, rfl⟩
  subst hv9
  obtain ⟨hk, hP, hD, hS, hl⟩ := hF9
  try dsimp only at ih9
  have hP : va_P D vwCl [(ms, .inl (K, 889, .inl sf))] H := hP
  have hD : va_D A [(ms, .inl (K, 889, .inl sf))] := hD
  have hl : lv_has ls 5 [(3, .int (tS (fun q9 => sf (1 + q9)) j k)), (4, .int (nI k)), (0, .ref ms), (1, .int 1), (2, .int (nI j))] := hl
  refine lv_iload hx hb dX8_check_5 (lv_at hl 1 rfl) ?_
  refine lv_iload_n hx hb dX8_check_7 rfl (lv_at hl 4 rfl) ?_
  refine lv_icmp_ge (tgt := 48) hx hb dX8_check_8 (by decide) (fun c_1 => ?_) (fun c_1 => ?_)
  · have hc9 := c_1
    obtain rfl : j = k := by rcases Nat.lt_or_ge k j with q9 | q9; exact absurd c_1 (nI_ge q9 (by omega)); omega
    refine lv_bipush (v := 10) hx hb dX8_check_48 (by decide) ?_
    refine lv_iload_n hx hb dX8_check_50 rfl (lv_at hl 0 rfl) ?_
    refine lv_bipush (v := 10) hx hb dX8_check_51 (by decide) ?_
    refine lv_irem hx hb dX8_check_53 (by decide) ?_
    refine k_nrm (y := (rem10 (tS (fun q9 => sf (1 + q9)) j j))) (rfl) ?_
    refine lv_isub hx hb dX8_check_54 ?_
    refine k_nrm (y := (10 - rem10 (tS (fun q9 => sf (1 + q9)) j j))) (rfl) ?_
    refine lv_bipush (v := 10) hx hb dX8_check_55 (by decide) ?_
    refine lv_irem hx hb dX8_check_57 (by decide) ?_
    refine k_nrm (y := (chkd (tS (fun q9 => sf (1 + q9)) j j))) (rfl) ?_
    have hP9 : va_P D vwCl [(ms, .inl (K, 889, .inl sf))] H := hP.sub [0] rfl
    have hD9 : va_D A [(ms, .inl (K, 889, .inl sf))] := hD.sub [0] (by decide) rfl
    have hK9 : va_K D vwCl [] s := hK.sub [] rfl
    exact W.iret (v := (chkd (tS (fun q9 => sf (1 + q9)) j j))) hx hb hr (fun t ht9 hW9 => ⟨⟨(chkd (tS (fun q9 => sf (1 + q9)) j j)), (), rfl, by rw [tS_csum], ⟨by rw [ht9]; exact hP9, va_K.moved hW9.alike hK9, hD9⟩⟩, hS.F ht9⟩) hS.2.2 dX8_check_58
  · have hc9 := c_1
    have hik : k + 1 ≤ j := by rcases Nat.lt_or_ge k j with q9 | q9; exact q9; exact absurd (nI_le q9 (by omega)) c_1
    refine lv_iload_n hx hb dX8_check_11 rfl (lv_at hl 0 rfl) ?_
    refine lv_iload_n hx hb dX8_check_12 rfl (lv_at hl 4 rfl) ?_
    refine lv_iconst (v := 1) hx hb dX8_check_13 (by decide) ?_
    refine lv_isub hx hb dX8_check_14 ?_
    refine k_nrm (y := (nI j - 1)) (rfl) ?_
    refine lv_iload hx hb dX8_check_15 (lv_at hl 1 rfl) ?_
    refine lv_isub hx hb dX8_check_17 ?_
    refine k_nrm (y := (nI (j - 1 - k))) (chk_ix hik) ?_
    refine lv_iconst (v := 2) hx hb dX8_check_18 (by decide) ?_
    refine lv_irem hx hb dX8_check_19 (by decide) ?_
    refine k_nrm (y := (nI ((j - 1 - k) % 2))) (pk_rem (a := j - 1 - k) (d := 2) (by omega) (by omega) (by omega)) ?_
    refine lv_if_ne (tgt := 34) hx hb dX8_check_20 (by decide) (fun c_2 => ?_) (fun c_2 => ?_)
    · have hc9 := c_2
      refine lv_aload_n hx hb dX8_check_34 rfl (lv_at hl 2 rfl) ?_
      refine lv_iload_n hx hb dX8_check_35 rfl (lv_at hl 3 rfl) ?_
      refine lv_iload hx hb dX8_check_36 (lv_at hl 1 rfl) ?_
      refine lv_iadd hx hb dX8_check_38 ?_
      refine k_nrm (y := (nI (1 + k))) (nI_add 1 k) ?_
      refine va_iald hx hb hK hP 0 0 rfl rfl (vp_in_nI (by omega) (by omega)) dX8_check_39 ?_
      refine k_nrm (y := sf (1 + k)) (by rw [nI_clamp (by omega)]) ?_
      refine lv_iadd hx hb dX8_check_40 ?_
      refine k_nrm (y := (tS (fun q9 => sf (1 + q9)) j (k + 1))) (by rw [show (tS (fun q9 => sf (1 + q9)) j (k + 1)) = (tS (fun q9 => sf (1 + q9)) j k) + (if (j - 1 - k) % 2 = 0 then 3 * sf (1 + k) else sf (1 + k)) from rfl, if_neg (fun q9 => c_2 (congrArg nI q9))]) ?_
      refine lv_istore_n (lv' := [(3, .int (tS (fun q9 => sf (1 + q9)) j (k + 1))), (4, .int (nI k)), (0, .ref ms), (1, .int 1), (2, .int (nI j))]) hx hb dX8_check_41 rfl hl (by decide) rfl (fun ls hl => ?_)
      obtain ⟨x_3, ex_3⟩ : ∃ z : Int32, z = (nI k) + 1 := ⟨_, rfl⟩
      refine lv_iinc (v := x_3) (lv' := [(4, .int x_3), (3, .int (tS (fun q9 => sf (1 + q9)) j (k + 1))), (0, .ref ms), (1, .int 1), (2, .int (nI j))]) hx hb dX8_check_42 hl (k := 1) rfl (by rw [ex_3]; rfl) (by decide) rfl (fun ls hl => ?_)
      refine lv_goto (tgt := 5) hx hb dX8_check_45 (by decide) ?_
      have he9 : x_3 = (nI (k + 1)) := by rw [ex_3]; exact nI_1 k
      rw [he9] at hl
      have hl : lv_has ls 5 [(4, .int (nI (k + 1))), (3, .int (tS (fun q9 => sf (1 + q9)) j (k + 1))), (0, .ref ms), (1, .int 1), (2, .int (nI j))] := hl
      exact ih9 (k + 1) H locs ls (by omega) ⟨hik, hP.sub [0] rfl, hD.sub [0] (by decide) rfl, hS, lv_sub hl [1, 0, 2, 3, 4] rfl⟩
    · have hc9 := c_2
      refine lv_iconst (v := 3) hx hb dX8_check_23 (by decide) ?_
      refine lv_aload_n hx hb dX8_check_24 rfl (lv_at hl 2 rfl) ?_
      refine lv_iload_n hx hb dX8_check_25 rfl (lv_at hl 3 rfl) ?_
      refine lv_iload hx hb dX8_check_26 (lv_at hl 1 rfl) ?_
      refine lv_iadd hx hb dX8_check_28 ?_
      refine k_nrm (y := (nI (1 + k))) (nI_add 1 k) ?_
      refine va_iald hx hb hK hP 0 0 rfl rfl (vp_in_nI (by omega) (by omega)) dX8_check_29 ?_
      refine k_nrm (y := sf (1 + k)) (by rw [nI_clamp (by omega)]) ?_
      refine lv_imul hx hb dX8_check_30 ?_
      refine k_nrm (y := (3 * sf (1 + k))) (rfl) ?_
      refine lv_goto (tgt := 40) hx hb dX8_check_31 (by decide) ?_
      refine lv_iadd hx hb dX8_check_40 ?_
      refine k_nrm (y := (tS (fun q9 => sf (1 + q9)) j (k + 1))) (by rw [show (tS (fun q9 => sf (1 + q9)) j (k + 1)) = (tS (fun q9 => sf (1 + q9)) j k) + (if (j - 1 - k) % 2 = 0 then 3 * sf (1 + k) else sf (1 + k)) from rfl, if_pos ((nI_eq (a := (j - 1 - k) % 2) (b := 0) (by omega) (by omega)).mp c_2)]) ?_
      refine lv_istore_n (lv' := [(3, .int (tS (fun q9 => sf (1 + q9)) j (k + 1))), (4, .int (nI k)), (0, .ref ms), (1, .int 1), (2, .int (nI j))]) hx hb dX8_check_41 rfl hl (by decide) rfl (fun ls hl => ?_)
      obtain ⟨x_4, ex_4⟩ : ∃ z : Int32, z = (nI k) + 1 := ⟨_, rfl⟩
      refine lv_iinc (v := x_4) (lv' := [(4, .int x_4), (3, .int (tS (fun q9 => sf (1 + q9)) j (k + 1))), (0, .ref ms), (1, .int 1), (2, .int (nI j))]) hx hb dX8_check_42 hl (k := 1) rfl (by rw [ex_4]; rfl) (by decide) rfl (fun ls hl => ?_)
      refine lv_goto (tgt := 5) hx hb dX8_check_45 (by decide) ?_
      have he9 : x_4 = (nI (k + 1)) := by rw [ex_4]; exact nI_1 k
      rw [he9] at hl
      have hl : lv_has ls 5 [(4, .int (nI (k + 1))), (3, .int (tS (fun q9 => sf (1 + q9)) j (k + 1))), (0, .ref ms), (1, .int 1), (2, .int (nI j))] := hl
      exact ih9 (k + 1) H locs ls (by omega) ⟨hik, hP.sub [0] rfl, hD.sub [0] (by decide) rfl, hS, lv_sub hl [1, 0, 2, 3, 4] rfl⟩
