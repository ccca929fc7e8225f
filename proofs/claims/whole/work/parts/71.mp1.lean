set_option maxRecDepth 20000 in
theorem lf_X8_150 : Cond.fieldLink RX8 150 "BarcodeWandModel" "spot" "I" ∈ wsA := mA 796 rfl rfl
set_option maxRecDepth 20000 in
theorem lf_X8_147 : Cond.fieldLink RX8 147 "BarcodeWandModel" "typed" "I" ∈ wsA := mA 790 rfl rfl
set_option maxRecDepth 20000 in
theorem lk_X8_isHere : Cond.code yX8_isHere cX8_isHere 3 (some .boolean) ∈ wsA := mA 1077 rfl rfl
theorem ly_X8_isHere : k_y yX8_isHere 2 := ⟨by decide +kernel, by decide +kernel, by decide +kernel⟩
set_option maxRecDepth 20000 in
theorem lm_X8_isHere : Cond.instanceMethod yX8_isHere ∈ wsA := mA 1076 rfl rfl
theorem le_X8_isHere : Cond.selects (yX8_isHere).cls yX8_isHere yX8_isHere ∈ wsA := mS 49 rfl rfl
set_option maxRecDepth 20000 in
theorem Lv_X8_153 : k_LV RX8 153 yX8_isHere cX8_isHere 3 (some .boolean) 2 := ⟨mA 1074 rfl rfl, lm_X8_isHere, le_X8_isHere, li_BarcodeWandModel, lk_X8_isHere, ly_X8_isHere⟩
theorem dX8_isHere_0 : decode cX8_isHere 0 = .ok (.aload_n 0, 1) := by decide +kernel
theorem dX8_isHere_1 : decode cX8_isHere 1 = .ok (.getfield 150, 3) := by decide +kernel
theorem dX8_isHere_4 : decode cX8_isHere 4 = .ok (.aload_n 0, 1) := by decide +kernel
theorem dX8_isHere_5 : decode cX8_isHere 5 = .ok (.getfield 147, 3) := by decide +kernel
theorem dX8_isHere_8 : decode cX8_isHere 8 = .ok (.if_icmp .ge 24, 3) := by decide +kernel
theorem dX8_isHere_11 : decode cX8_isHere 11 = .ok (.aload_n 0, 1) := by decide +kernel
theorem dX8_isHere_12 : decode cX8_isHere 12 = .ok (.getfield 13, 3) := by decide +kernel
theorem dX8_isHere_15 : decode cX8_isHere 15 = .ok (.aload_n 0, 1) := by decide +kernel
theorem dX8_isHere_16 : decode cX8_isHere 16 = .ok (.getfield 150, 3) := by decide +kernel
theorem dX8_isHere_19 : decode cX8_isHere 19 = .ok (.caload, 1) := by decide +kernel
theorem dX8_isHere_20 : decode cX8_isHere 20 = .ok (.iload_n 1, 1) := by decide +kernel
theorem dX8_isHere_21 : decode cX8_isHere 21 = .ok (.iload_n 2, 1) := by decide +kernel
theorem dX8_isHere_22 : decode cX8_isHere 22 = .ok (.invokestatic 46, 3) := by decide +kernel
theorem dX8_isHere_25 : decode cX8_isHere 25 = .ok (.ifCond .eq 7, 3) := by decide +kernel
theorem dX8_isHere_28 : decode cX8_isHere 28 = .ok (.iconst 1, 1) := by decide +kernel
theorem dX8_isHere_29 : decode cX8_isHere 29 = .ok (.goto 4, 3) := by decide +kernel
theorem dX8_isHere_32 : decode cX8_isHere 32 = .ok (.iconst 0, 1) := by decide +kernel
theorem dX8_isHere_33 : decode cX8_isHere 33 = .ok (.ireturn, 1) := by decide +kernel
theorem dX8_takes_0 : decode cX8_takes 0 = .ok (.aload_n 0, 1) := by decide +kernel
theorem dX8_takes_1 : decode cX8_takes 1 = .ok (.iload_n 1, 1) := by decide +kernel
theorem dX8_takes_2 : decode cX8_takes 2 = .ok (.iload_n 1, 1) := by decide +kernel
theorem dX8_takes_3 : decode cX8_takes 3 = .ok (.invokevirtual 153, 3) := by decide +kernel
theorem dX8_takes_6 : decode cX8_takes 6 = .ok (.istore_n 2, 1) := by decide +kernel
theorem dX8_takes_7 : decode cX8_takes 7 = .ok (.aload_n 0, 1) := by decide +kernel
theorem dX8_takes_8 : decode cX8_takes 8 = .ok (.dup, 1) := by decide +kernel
theorem dX8_takes_9 : decode cX8_takes 9 = .ok (.getfield 150, 3) := by decide +kernel
theorem dX8_takes_12 : decode cX8_takes 12 = .ok (.iload_n 2, 1) := by decide +kernel
theorem dX8_takes_13 : decode cX8_takes 13 = .ok (.ifCond .eq 7, 3) := by decide +kernel
theorem dX8_takes_16 : decode cX8_takes 16 = .ok (.iconst 1, 1) := by decide +kernel
theorem dX8_takes_17 : decode cX8_takes 17 = .ok (.goto 4, 3) := by decide +kernel
theorem dX8_takes_20 : decode cX8_takes 20 = .ok (.iconst 0, 1) := by decide +kernel
theorem dX8_takes_21 : decode cX8_takes 21 = .ok (.iadd, 1) := by decide +kernel
theorem dX8_takes_22 : decode cX8_takes 22 = .ok (.putfield 150, 3) := by decide +kernel
theorem dX8_takes_25 : decode cX8_takes 25 = .ok (.iload_n 2, 1) := by decide +kernel
theorem dX8_takes_26 : decode cX8_takes 26 = .ok (.ireturn, 1) := by decide +kernel
theorem dX8_reads__0 : decode cX8_reads_ 0 = .ok (.iconst (-1), 1) := by decide +kernel
theorem dX8_reads__1 : decode cX8_reads_ 1 = .ok (.istore_n 3, 1) := by decide +kernel
theorem dX8_reads__2 : decode cX8_reads_ 2 = .ok (.aload_n 0, 1) := by decide +kernel
theorem dX8_reads__3 : decode cX8_reads_ 3 = .ok (.iload_n 1, 1) := by decide +kernel
theorem dX8_reads__4 : decode cX8_reads_ 4 = .ok (.ifCond .ne 8, 3) := by decide +kernel
theorem dX8_reads__7 : decode cX8_reads_ 7 = .ok (.bipush 48, 2) := by decide +kernel
theorem dX8_reads__9 : decode cX8_reads_ 9 = .ok (.goto 5, 3) := by decide +kernel
theorem dX8_reads__12 : decode cX8_reads_ 12 = .ok (.bipush 49, 2) := by decide +kernel
theorem dX8_reads__14 : decode cX8_reads_ 14 = .ok (.bipush 57, 2) := by decide +kernel
theorem dX8_reads__16 : decode cX8_reads_ 16 = .ok (.invokevirtual 153, 3) := by decide +kernel
theorem dX8_reads__19 : decode cX8_reads_ 19 = .ok (.istore 4, 2) := by decide +kernel
theorem dX8_reads__21 : decode cX8_reads_ 21 = .ok (.iload 4, 2) := by decide +kernel
theorem dX8_reads__23 : decode cX8_reads_ 23 = .ok (.ifCond .eq 97, 3) := by decide +kernel
theorem dX8_reads__26 : decode cX8_reads_ 26 = .ok (.iload_n 3, 1) := by decide +kernel
theorem dX8_reads__27 : decode cX8_reads_ 27 = .ok (.iconst (-1), 1) := by decide +kernel
theorem dX8_reads__28 : decode cX8_reads_ 28 = .ok (.if_icmp .ne 18, 3) := by decide +kernel
theorem dX8_reads__31 : decode cX8_reads_ 31 = .ok (.aload_n 0, 1) := by decide +kernel
theorem dX8_reads__32 : decode cX8_reads_ 32 = .ok (.getfield 13, 3) := by decide +kernel
theorem dX8_reads__35 : decode cX8_reads_ 35 = .ok (.aload_n 0, 1) := by decide +kernel
theorem dX8_reads__36 : decode cX8_reads_ 36 = .ok (.getfield 150, 3) := by decide +kernel
theorem dX8_reads__39 : decode cX8_reads_ 39 = .ok (.caload, 1) := by decide +kernel
theorem dX8_reads__40 : decode cX8_reads_ 40 = .ok (.bipush 48, 2) := by decide +kernel
theorem dX8_reads__42 : decode cX8_reads_ 42 = .ok (.isub, 1) := by decide +kernel
theorem dX8_reads__43 : decode cX8_reads_ 43 = .ok (.goto 20, 3) := by decide +kernel
theorem dX8_reads__46 : decode cX8_reads_ 46 = .ok (.bipush 10, 2) := by decide +kernel
theorem dX8_reads__48 : decode cX8_reads_ 48 = .ok (.iload_n 3, 1) := by decide +kernel
theorem dX8_reads__49 : decode cX8_reads_ 49 = .ok (.imul, 1) := by decide +kernel
theorem dX8_reads__50 : decode cX8_reads_ 50 = .ok (.aload_n 0, 1) := by decide +kernel
theorem dX8_reads__51 : decode cX8_reads_ 51 = .ok (.getfield 13, 3) := by decide +kernel
theorem dX8_reads__54 : decode cX8_reads_ 54 = .ok (.aload_n 0, 1) := by decide +kernel
theorem dX8_reads__55 : decode cX8_reads_ 55 = .ok (.getfield 150, 3) := by decide +kernel
theorem dX8_reads__58 : decode cX8_reads_ 58 = .ok (.caload, 1) := by decide +kernel
theorem dX8_reads__59 : decode cX8_reads_ 59 = .ok (.iadd, 1) := by decide +kernel
theorem dX8_reads__60 : decode cX8_reads_ 60 = .ok (.bipush 48, 2) := by decide +kernel
theorem dX8_reads__62 : decode cX8_reads_ 62 = .ok (.isub, 1) := by decide +kernel
theorem dX8_reads__63 : decode cX8_reads_ 63 = .ok (.istore_n 3, 1) := by decide +kernel
theorem dX8_reads__64 : decode cX8_reads_ 64 = .ok (.aload_n 0, 1) := by decide +kernel
theorem dX8_reads__65 : decode cX8_reads_ 65 = .ok (.dup, 1) := by decide +kernel
theorem dX8_reads__66 : decode cX8_reads_ 66 = .ok (.getfield 150, 3) := by decide +kernel
theorem dX8_reads__69 : decode cX8_reads_ 69 = .ok (.iconst 1, 1) := by decide +kernel
theorem dX8_reads__70 : decode cX8_reads_ 70 = .ok (.iadd, 1) := by decide +kernel
theorem dX8_reads__71 : decode cX8_reads_ 71 = .ok (.putfield 150, 3) := by decide +kernel
theorem dX8_reads__74 : decode cX8_reads_ 74 = .ok (.iload_n 3, 1) := by decide +kernel
theorem dX8_reads__75 : decode cX8_reads_ 75 = .ok (.ifCond .le 39, 3) := by decide +kernel
theorem dX8_reads__78 : decode cX8_reads_ 78 = .ok (.aload_n 0, 1) := by decide +kernel
theorem dX8_reads__79 : decode cX8_reads_ 79 = .ok (.bipush 48, 2) := by decide +kernel
theorem dX8_reads__81 : decode cX8_reads_ 81 = .ok (.bipush 57, 2) := by decide +kernel
theorem dX8_reads__83 : decode cX8_reads_ 83 = .ok (.invokevirtual 153, 3) := by decide +kernel
theorem dX8_reads__86 : decode cX8_reads_ 86 = .ok (.ifCond .eq 28, 3) := by decide +kernel
theorem dX8_reads__89 : decode cX8_reads_ 89 = .ok (.bipush 10, 2) := by decide +kernel
theorem dX8_reads__91 : decode cX8_reads_ 91 = .ok (.iload_n 3, 1) := by decide +kernel
theorem dX8_reads__92 : decode cX8_reads_ 92 = .ok (.imul, 1) := by decide +kernel
theorem dX8_reads__93 : decode cX8_reads_ 93 = .ok (.aload_n 0, 1) := by decide +kernel
theorem dX8_reads__94 : decode cX8_reads_ 94 = .ok (.getfield 13, 3) := by decide +kernel
theorem dX8_reads__97 : decode cX8_reads_ 97 = .ok (.aload_n 0, 1) := by decide +kernel
theorem dX8_reads__98 : decode cX8_reads_ 98 = .ok (.getfield 150, 3) := by decide +kernel
theorem dX8_reads__101 : decode cX8_reads_ 101 = .ok (.caload, 1) := by decide +kernel
theorem dX8_reads__102 : decode cX8_reads_ 102 = .ok (.iadd, 1) := by decide +kernel
theorem dX8_reads__103 : decode cX8_reads_ 103 = .ok (.bipush 48, 2) := by decide +kernel
theorem dX8_reads__105 : decode cX8_reads_ 105 = .ok (.isub, 1) := by decide +kernel
theorem dX8_reads__106 : decode cX8_reads_ 106 = .ok (.iload_n 2, 1) := by decide +kernel
theorem dX8_reads__107 : decode cX8_reads_ 107 = .ok (.if_icmp .gt 7, 3) := by decide +kernel
theorem dX8_reads__110 : decode cX8_reads_ 110 = .ok (.iconst 1, 1) := by decide +kernel
theorem dX8_reads__111 : decode cX8_reads_ 111 = .ok (.goto 4, 3) := by decide +kernel
theorem dX8_reads__114 : decode cX8_reads_ 114 = .ok (.iconst 0, 1) := by decide +kernel
theorem dX8_reads__115 : decode cX8_reads_ 115 = .ok (.istore 4, 2) := by decide +kernel
theorem dX8_reads__117 : decode cX8_reads_ 117 = .ok (.goto (-96), 3) := by decide +kernel
theorem dX8_reads__120 : decode cX8_reads_ 120 = .ok (.iload_n 3, 1) := by decide +kernel
theorem dX8_reads__121 : decode cX8_reads_ 121 = .ok (.ireturn, 1) := by decide +kernel
set_option maxHeartbeats 4000000 in
set_option maxRecDepth 100000 in
theorem c_M_isHere (l : Launch) (D : va_G) (mo : Nat) (ms : Nat) (sv : Int32) (mb : Nat) (ty : Nat) (th : Int32) (mk : Nat) (ml : Int32) (mfd : Nat) (mf : Int32) (i : Nat) (on : Int32) (tw : Int32) (KC : ClassId) (bf : Nat → Int32) (tx : Nat → Int32) (lo : Int32) (hi : Int32) (hcf : ∀ j9, j9 < ty → bf j9 = tx j9) (hty : ty ≤ 60) (hi60 : i ≤ 60) (sz : Nat) : k_Mi (S := Unit) l D yX8_isHere cX8_isHere 3 (some .boolean) 1 0 0 22 [.ref mo, .int lo, .int hi] [(mo, .inr (8, [.ref ms, .int sv, .ref mb, .int (nI ty), .int th, .ref mk, .int ml, .ref mfd, .int mf, .int (nI i), .int on, .int tw])), (mb, .inl (KC, 60, .inl bf))] [(KC, .char)] (fun (r : Int32) (_ : Unit) => (r = 1 ∧ i < ty ∧ ¬ tx i < lo ∧ ¬ hi < tx i) ∨ (r = 0 ∧ (ty ≤ i ∨ (tx i < lo ∨ hi < tx i)))) (fun _ => [(mo, .inr (8, [.ref ms, .int sv, .ref mb, .int (nI ty), .int th, .ref mk, .int ml, .ref mfd, .int mf, .int (nI i), .int on, .int tw])), (mb, .inl (KC, 60, .inl bf))]) (fun _ => []) sz := by
  refine Met.ofW (cc := cX8_isHere) (maxL := 3) (ret := (some .boolean)) (by decide) rfl ?_
  intro p e s m args below meth c s₁ B hml hv
  obtain ⟨rfl, hsz, hP, hK, hD0, hG⟩ := hv
  have hx := B.exec
  have hb := B.bytes
  have hr := B.returns
  have ht : ∀ v9 ∈ wsA, v9.before ([.ref mo, .int lo, .int hi] : List Value).toArray s = true := fun v9 h9 => atoms_spec (ws := k_ws yX8_isHere cX8_isHere 3 (some .boolean)) B.pre v9 (List.mem_cons_of_mem _ h9)
  have hown : s.vm.findClass RX8 = some m.cls := findClass_of_methodNamed B.named
  have S0 : k_C p s m ([.ref mo, .int lo, .int hi] : List Value).toArray c cX8_isHere 3 RX8 := ⟨hx, hb, hml, hown, ht⟩
  have hlocks := B.notSynchronized
  subst hsz
  have hD := hD0.self (sz := s.heap.size)
  generalize hAe : va_A [(mo, .inr (8, [.ref ms, .int sv, .ref mb, .int (nI ty), .int th, .ref mk, .int ml, .ref mfd, .int mf, .int (nI i), .int on, .int tw])), (mb, .inl (KC, 60, .inl bf))] s.heap.size = A at hD hG ⊢
  have hA : ∀ q : Nat, s.heap.size ≤ q → A q := fun q h => by rw [← hAe]; exact Or.inr h
  have hS : va_S A s.heap s.heap [] := va_S.rf
  have hl := lv_entry ([.ref mo, .int lo, .int hi]) (n := 3) (Nat.le_of_ble_eq_true rfl)
  rw [lg_entry_eq]
  generalize (lg_sl ([.ref mo, .int lo, .int hi]) ++ List.replicate (3 - (lg_sl ([.ref mo, .int lo, .int hi])).length) Slot.unset).toArray = ls at hl ⊢
  have hl : lv_has ls 3 [(0, .ref mo), (1, .int lo), (2, .int hi)] := hl
  have hP : va_P D vwCl [(mo, .inr (8, [.ref ms, .int sv, .ref mb, .int (nI ty), .int th, .ref mk, .int ml, .ref mfd, .int mf, .int (nI i), .int on, .int tw])), (mb, .inl (KC, 60, .inl bf))] s.heap := hP
  refine lv_aload_n hx hb dX8_isHere_0 rfl (lv_at hl 0 rfl) ?_
  refine va_get (D := D) (ci := 8) (v := .int (nI i)) (C := RX8) (T := TX8) (N := 12) hx hb ht inA_X8 hown hK hP 0 rfl rfl 9 (by decide) (ht _ lf_X8_150) (fun _ h9 => h9) rfl dX8_isHere_1 ?_
  refine lv_aload_n hx hb dX8_isHere_4 rfl (lv_at hl 0 rfl) ?_
  refine va_get (D := D) (ci := 8) (v := .int (nI ty)) (C := RX8) (T := TX8) (N := 12) hx hb ht inA_X8 hown hK hP 0 rfl rfl 3 (by decide) (ht _ lf_X8_147) (fun _ h9 => h9) rfl dX8_isHere_5 ?_
  refine lv_icmp_ge (tgt := 32) hx hb dX8_isHere_8 (by decide) (fun c_1 => ?_) (fun c_1 => ?_)
  · have hc9 := c_1
    refine lv_iconst (v := 0) hx hb dX8_isHere_32 (by decide) ?_
    have hP9 : va_P D vwCl [(mo, .inr (8, [.ref ms, .int sv, .ref mb, .int (nI ty), .int th, .ref mk, .int ml, .ref mfd, .int mf, .int (nI i), .int on, .int tw])), (mb, .inl (KC, 60, .inl bf))] s.heap := hP.sub [0, 1] rfl
    have hD9 : va_D A [(mo, .inr (8, [.ref ms, .int sv, .ref mb, .int (nI ty), .int th, .ref mk, .int ml, .ref mfd, .int mf, .int (nI i), .int on, .int tw])), (mb, .inl (KC, 60, .inl bf))] := hD.sub [0, 1] (by decide) rfl
    have hK9 : va_K D vwCl [] s := hK.sub [] rfl
    exact W.zret (v := 0) hx hb hr (rfl) (fun t ht9 hW9 => ⟨⟨0, (), rfl, by (exact Or.inr ⟨rfl, Or.inl (by rcases Nat.lt_or_ge i ty with q9 | q9; exact absurd c_1 (nI_ge q9 (by omega)); exact q9)⟩), ⟨by rw [ht9]; exact hP9, va_K.moved hW9.alike hK9, hD9⟩⟩, hS.F ht9⟩) hS.2.2 dX8_isHere_33
  · have hc9 := c_1
    have hi9 : i < ty := by rcases Nat.lt_or_ge i ty with q9 | q9; exact q9; exact absurd (nI_le q9 (by omega)) c_1
    refine lv_aload_n hx hb dX8_isHere_11 rfl (lv_at hl 0 rfl) ?_
    refine va_get (D := D) (ci := 8) (v := .ref mb) (C := RX8) (T := TX8) (N := 12) hx hb ht inA_X8 hown hK hP 0 rfl rfl 2 (by decide) (ht _ lf_X8_13) (fun _ h9 => h9) rfl dX8_isHere_12 ?_
    refine lv_aload_n hx hb dX8_isHere_15 rfl (lv_at hl 0 rfl) ?_
    refine va_get (D := D) (ci := 8) (v := .int (nI i)) (C := RX8) (T := TX8) (N := 12) hx hb ht inA_X8 hown hK hP 0 rfl rfl 9 (by decide) (ht _ lf_X8_150) (fun _ h9 => h9) rfl dX8_isHere_16 ?_
    refine va_cald hx hb hK hP 1 0 rfl rfl (vp_in_nI (by omega) (by decide)) dX8_isHere_19 ?_
    refine k_nrm (y := (tx i)) (by rw [nI_clamp (by omega)]; exact hcf _ (by omega)) ?_
    refine lv_iload_n hx hb dX8_isHere_20 rfl (lv_at hl 1 rfl) ?_
    refine lv_iload_n hx hb dX8_isHere_21 rfl (lv_at hl 2 rfl) ?_
    have ct := k_cut_of (wc := []) (wr := [(mo, .inr (8, [.ref ms, .int sv, .ref mb, .int (nI ty), .int th, .ref mk, .int ml, .ref mfd, .int mf, .int (nI i), .int on, .int tw])), (mb, .inl (KC, 60, .inl bf))]) (tc := []) hG hS hA hK hP hD [] [0, 1] [] rfl rfl (by decide) (by decide) (by decide) rfl
    refine k_endi (As := [.int (tx i), .int lo, .int hi]) ct (k_runS (As := [.int (tx i), .int lo, .int hi]) (rest := []) S0 Ls_X8_46 ct (c_M_in l D (tx i) lo hi s.heap.size) hl.1 rfl (Nat.le_of_ble_eq_true rfl) rfl dX8_isHere_22 ⟨⟨Nat.le_of_ble_eq_true rfl, Nat.le_of_ble_eq_true rfl⟩, Nat.le_of_ble_eq_true rfl, Nat.le_of_ble_eq_true rfl⟩) rfl rfl (fun r_2 _ H locs hw_3 hP hD hK hS => ?_)
    have hK : va_K D vwCl [(KC, .char)] s := hK
    have hP : va_P D vwCl [(mo, .inr (8, [.ref ms, .int sv, .ref mb, .int (nI ty), .int th, .ref mk, .int ml, .ref mfd, .int mf, .int (nI i), .int on, .int tw])), (mb, .inl (KC, 60, .inl bf))] H := hP
    have hD : va_D A [(mo, .inr (8, [.ref ms, .int sv, .ref mb, .int (nI ty), .int th, .ref mk, .int ml, .ref mfd, .int mf, .int (nI i), .int on, .int tw])), (mb, .inl (KC, 60, .inl bf))] := hD
    rcases hw_3 with ⟨hr9, c_4, c_5⟩ | ⟨hr9, c_6⟩
    · subst hr9
      refine lv_if_eq (tgt := 32) hx hb dX8_isHere_25 (by decide) (fun c9 => absurd c9 (by decide)) (fun _ => ?_)
      refine lv_iconst (v := 1) hx hb dX8_isHere_28 (by decide) ?_
      refine lv_goto (tgt := 33) hx hb dX8_isHere_29 (by decide) ?_
      have hP9 : va_P D vwCl [(mo, .inr (8, [.ref ms, .int sv, .ref mb, .int (nI ty), .int th, .ref mk, .int ml, .ref mfd, .int mf, .int (nI i), .int on, .int tw])), (mb, .inl (KC, 60, .inl bf))] H := hP.sub [0, 1] rfl
      have hD9 : va_D A [(mo, .inr (8, [.ref ms, .int sv, .ref mb, .int (nI ty), .int th, .ref mk, .int ml, .ref mfd, .int mf, .int (nI i), .int on, .int tw])), (mb, .inl (KC, 60, .inl bf))] := hD.sub [0, 1] (by decide) rfl
      have hK9 : va_K D vwCl [] s := hK.sub [] rfl
      exact W.zret (v := 1) hx hb hr (rfl) (fun t ht9 hW9 => ⟨⟨1, (), rfl, by (exact Or.inl ⟨rfl, hi9, c_4, c_5⟩), ⟨by rw [ht9]; exact hP9, va_K.moved hW9.alike hK9, hD9⟩⟩, hS.F ht9⟩) hS.2.2 dX8_isHere_33
    · subst hr9
      refine lv_if_eq (tgt := 32) hx hb dX8_isHere_25 (by decide) (fun _ => ?_) (fun c9 => absurd (by decide) c9)
      refine lv_iconst (v := 0) hx hb dX8_isHere_32 (by decide) ?_
      have hP9 : va_P D vwCl [(mo, .inr (8, [.ref ms, .int sv, .ref mb, .int (nI ty), .int th, .ref mk, .int ml, .ref mfd, .int mf, .int (nI i), .int on, .int tw])), (mb, .inl (KC, 60, .inl bf))] H := hP.sub [0, 1] rfl
      have hD9 : va_D A [(mo, .inr (8, [.ref ms, .int sv, .ref mb, .int (nI ty), .int th, .ref mk, .int ml, .ref mfd, .int mf, .int (nI i), .int on, .int tw])), (mb, .inl (KC, 60, .inl bf))] := hD.sub [0, 1] (by decide) rfl
      have hK9 : va_K D vwCl [] s := hK.sub [] rfl
      exact W.zret (v := 0) hx hb hr (rfl) (fun t ht9 hW9 => ⟨⟨0, (), rfl, by (exact Or.inr ⟨rfl, Or.inr c_6⟩), ⟨by rw [ht9]; exact hP9, va_K.moved hW9.alike hK9, hD9⟩⟩, hS.F ht9⟩) hS.2.2 dX8_isHere_33
set_option maxHeartbeats 4000000 in
set_option maxRecDepth 100000 in
theorem c_M_takes (l : Launch) (D : va_G) (mo : Nat) (ms : Nat) (sv : Int32) (mb : Nat) (ty : Nat) (th : Int32) (mk : Nat) (ml : Int32) (mfd : Nat) (mf : Int32) (i : Nat) (on : Int32) (tw : Int32) (KC : ClassId) (bf : Nat → Int32) (tx : Nat → Int32) (cc : Int32) (hcf : ∀ j9, j9 < ty → bf j9 = tx j9) (hty : ty ≤ 60) (hi60 : i ≤ 60) (sz : Nat) : k_Mi (S := Nat) l D yX8_takes cX8_takes 3 (some .boolean) 2 0 0 44 [.ref mo, .int cc] [(mo, .inr (8, [.ref ms, .int sv, .ref mb, .int (nI ty), .int th, .ref mk, .int ml, .ref mfd, .int mf, .int (nI i), .int on, .int tw])), (mb, .inl (KC, 60, .inl bf))] [(KC, .char)] (fun (r : Int32) (sp1 : Nat) => (r = 1 ∧ sp1 = (i + 1) ∧ i < ty ∧ tx i = cc) ∨ (r = 0 ∧ sp1 = i ∧ (ty ≤ i ∨ ¬ tx i = cc))) (fun sp1 => [(mo, .inr (8, [.ref ms, .int sv, .ref mb, .int (nI ty), .int th, .ref mk, .int ml, .ref mfd, .int mf, .int (nI sp1), .int on, .int tw])), (mb, .inl (KC, 60, .inl bf))]) (fun sp1 => []) sz := by
  refine Met.ofW (cc := cX8_takes) (maxL := 3) (ret := (some .boolean)) (by decide) rfl ?_
  intro p e s m args below meth c s₁ B hml hv
  obtain ⟨rfl, hsz, hP, hK, hD0, hG⟩ := hv
  have hx := B.exec
  have hb := B.bytes
  have hr := B.returns
  have ht : ∀ v9 ∈ wsA, v9.before ([.ref mo, .int cc] : List Value).toArray s = true := fun v9 h9 => atoms_spec (ws := k_ws yX8_takes cX8_takes 3 (some .boolean)) B.pre v9 (List.mem_cons_of_mem _ h9)
  have hown : s.vm.findClass RX8 = some m.cls := findClass_of_methodNamed B.named
  have S0 : k_C p s m ([.ref mo, .int cc] : List Value).toArray c cX8_takes 3 RX8 := ⟨hx, hb, hml, hown, ht⟩
  have hlocks := B.notSynchronized
  subst hsz
  have hD := hD0.self (sz := s.heap.size)
  generalize hAe : va_A [(mo, .inr (8, [.ref ms, .int sv, .ref mb, .int (nI ty), .int th, .ref mk, .int ml, .ref mfd, .int mf, .int (nI i), .int on, .int tw])), (mb, .inl (KC, 60, .inl bf))] s.heap.size = A at hD hG ⊢
  have hA : ∀ q : Nat, s.heap.size ≤ q → A q := fun q h => by rw [← hAe]; exact Or.inr h
  have hS : va_S A s.heap s.heap [] := va_S.rf
  have hl := lv_entry ([.ref mo, .int cc]) (n := 3) (Nat.le_of_ble_eq_true rfl)
  rw [lg_entry_eq]
  generalize (lg_sl ([.ref mo, .int cc]) ++ List.replicate (3 - (lg_sl ([.ref mo, .int cc])).length) Slot.unset).toArray = ls at hl ⊢
  have hl : lv_has ls 3 [(0, .ref mo), (1, .int cc)] := hl
  have hP : va_P D vwCl [(mo, .inr (8, [.ref ms, .int sv, .ref mb, .int (nI ty), .int th, .ref mk, .int ml, .ref mfd, .int mf, .int (nI i), .int on, .int tw])), (mb, .inl (KC, 60, .inl bf))] s.heap := hP
  refine lv_aload_n hx hb dX8_takes_0 rfl (lv_at hl 0 rfl) ?_
  refine lv_iload_n hx hb dX8_takes_1 rfl (lv_at hl 1 rfl) ?_
  refine lv_iload_n hx hb dX8_takes_2 rfl (lv_at hl 1 rfl) ?_
  have ct := k_cut_of (wc := [(mo, .inr (8, [.ref ms, .int sv, .ref mb, .int (nI ty), .int th, .ref mk, .int ml, .ref mfd, .int mf, .int (nI i), .int on, .int tw])), (mb, .inl (KC, 60, .inl bf))]) (wr := []) (tc := [(KC, .char)]) hG hS hA hK hP hD [0, 1] [] [0] rfl rfl (by decide) (by decide) (by decide) rfl
  refine k_endi (As := [.ref mo, .int cc, .int cc]) ct (k_runV (As := [.int cc, .int cc]) (rest := []) S0 Lv_X8_153 rfl (ci := 8) (q0 := 0) rfl rfl ct (c_M_isHere l D mo ms sv mb ty th mk ml mfd mf i on tw KC bf tx cc cc (by assumption) (by first | assumption | omega) (by first | assumption | omega) s.heap.size) hl.1 rfl (Nat.le_of_ble_eq_true rfl) rfl dX8_takes_3 ⟨⟨Nat.le_of_ble_eq_true rfl, Nat.le_of_ble_eq_true rfl⟩, Nat.le_of_ble_eq_true rfl, Nat.le_of_ble_eq_true rfl⟩) rfl rfl (fun r_1 _ H locs hw_2 hP hD hK hS => ?_)
  have hK : va_K D vwCl [(KC, .char)] s := hK
  have hP : va_P D vwCl [(mo, .inr (8, [.ref ms, .int sv, .ref mb, .int (nI ty), .int th, .ref mk, .int ml, .ref mfd, .int mf, .int (nI i), .int on, .int tw])), (mb, .inl (KC, 60, .inl bf))] H := hP
  have hD : va_D A [(mo, .inr (8, [.ref ms, .int sv, .ref mb, .int (nI ty), .int th, .ref mk, .int ml, .ref mfd, .int mf, .int (nI i), .int on, .int tw])), (mb, .inl (KC, 60, .inl bf))] := hD
  rcases hw_2 with ⟨hr9, c_3, c_4, c_5⟩ | ⟨hr9, c_6⟩
  · subst hr9
    refine lv_istore_n (lv' := [(2, .int 1), (0, .ref mo), (1, .int cc)]) hx hb dX8_takes_6 rfl hl (by decide) rfl (fun ls hl => ?_)
    refine lv_aload_n hx hb dX8_takes_7 rfl (lv_at hl 1 rfl) ?_
    refine lv_dup hx hb dX8_takes_8 rfl ?_
    refine va_get (D := D) (ci := 8) (v := .int (nI i)) (C := RX8) (T := TX8) (N := 12) hx hb ht inA_X8 hown hK hP 0 rfl rfl 9 (by decide) (ht _ lf_X8_150) (fun _ h9 => h9) rfl dX8_takes_9 ?_
    refine lv_iload_n hx hb dX8_takes_12 rfl (lv_at hl 0 rfl) ?_
    refine lv_if_eq (tgt := 20) hx hb dX8_takes_13 (by decide) (fun c9 => absurd c9 (by decide)) (fun _ => ?_)
    refine lv_iconst (v := 1) hx hb dX8_takes_16 (by decide) ?_
    refine lv_goto (tgt := 21) hx hb dX8_takes_17 (by decide) ?_
    refine lv_iadd hx hb dX8_takes_21 ?_
    refine k_nrm (y := (nI (i + 1))) (nI_1 i) ?_
    refine va_put (D := D) (ci := 8) (v := .int (nI (i + 1))) (ty := .int) (C := RX8) (T := TX8) (N := 12) hx hb ht inA_X8 tyX8 tyX8_ok nmX8 hown hK hP hD hS 0 rfl rfl 9 (by decide) (ht _ lf_X8_150) (fun _ h9 => h9) rfl (tyX8_ok 9 (by decide)) rfl rfl (Nat.le_of_ble_eq_true rfl) dX8_takes_22 (fun H locs hP hD hS => ?_)
    have hP : va_P D vwCl [(mo, .inr (8, [.ref ms, .int sv, .ref mb, .int (nI ty), .int th, .ref mk, .int ml, .ref mfd, .int mf, .int (nI (i + 1)), .int on, .int tw])), (mb, .inl (KC, 60, .inl bf))] H := hP
    have hD : va_D A [(mo, .inr (8, [.ref ms, .int sv, .ref mb, .int (nI ty), .int th, .ref mk, .int ml, .ref mfd, .int mf, .int (nI (i + 1)), .int on, .int tw])), (mb, .inl (KC, 60, .inl bf))] := hD
    refine lv_iload_n hx hb dX8_takes_25 rfl (lv_at hl 0 rfl) ?_
    have hP9 : va_P D vwCl [(mo, .inr (8, [.ref ms, .int sv, .ref mb, .int (nI ty), .int th, .ref mk, .int ml, .ref mfd, .int mf, .int (nI (i + 1)), .int on, .int tw])), (mb, .inl (KC, 60, .inl bf))] H := hP.sub [0, 1] rfl
    have hD9 : va_D A [(mo, .inr (8, [.ref ms, .int sv, .ref mb, .int (nI ty), .int th, .ref mk, .int ml, .ref mfd, .int mf, .int (nI (i + 1)), .int on, .int tw])), (mb, .inl (KC, 60, .inl bf))] := hD.sub [0, 1] (by decide) rfl
    have hK9 : va_K D vwCl [] s := hK.sub [] rfl
    exact W.zret (v := 1) hx hb hr (rfl) (fun t ht9 hW9 => ⟨⟨1, i + 1, rfl, by (exact Or.inl ⟨rfl, rfl, c_3, i32_eq c_4 c_5⟩), ⟨by rw [ht9]; exact hP9, va_K.moved hW9.alike hK9, hD9⟩⟩, hS.F ht9⟩) hS.2.2 dX8_takes_26
  · subst hr9
    refine lv_istore_n (lv' := [(2, .int 0), (0, .ref mo), (1, .int cc)]) hx hb dX8_takes_6 rfl hl (by decide) rfl (fun ls hl => ?_)
    refine lv_aload_n hx hb dX8_takes_7 rfl (lv_at hl 1 rfl) ?_
    refine lv_dup hx hb dX8_takes_8 rfl ?_
    refine va_get (D := D) (ci := 8) (v := .int (nI i)) (C := RX8) (T := TX8) (N := 12) hx hb ht inA_X8 hown hK hP 0 rfl rfl 9 (by decide) (ht _ lf_X8_150) (fun _ h9 => h9) rfl dX8_takes_9 ?_
    refine lv_iload_n hx hb dX8_takes_12 rfl (lv_at hl 0 rfl) ?_
    refine lv_if_eq (tgt := 20) hx hb dX8_takes_13 (by decide) (fun _ => ?_) (fun c9 => absurd (by decide) c9)
    refine lv_iconst (v := 0) hx hb dX8_takes_20 (by decide) ?_
    refine lv_iadd hx hb dX8_takes_21 ?_
    refine k_nrm (y := (nI i)) (Int32.add_zero _) ?_
    refine va_put (D := D) (ci := 8) (v := .int (nI i)) (ty := .int) (C := RX8) (T := TX8) (N := 12) hx hb ht inA_X8 tyX8 tyX8_ok nmX8 hown hK hP hD hS 0 rfl rfl 9 (by decide) (ht _ lf_X8_150) (fun _ h9 => h9) rfl (tyX8_ok 9 (by decide)) rfl rfl (Nat.le_of_ble_eq_true rfl) dX8_takes_22 (fun H locs hP hD hS => ?_)
    have hP : va_P D vwCl [(mo, .inr (8, [.ref ms, .int sv, .ref mb, .int (nI ty), .int th, .ref mk, .int ml, .ref mfd, .int mf, .int (nI i), .int on, .int tw])), (mb, .inl (KC, 60, .inl bf))] H := hP
    have hD : va_D A [(mo, .inr (8, [.ref ms, .int sv, .ref mb, .int (nI ty), .int th, .ref mk, .int ml, .ref mfd, .int mf, .int (nI i), .int on, .int tw])), (mb, .inl (KC, 60, .inl bf))] := hD
    refine lv_iload_n hx hb dX8_takes_25 rfl (lv_at hl 0 rfl) ?_
    have hP9 : va_P D vwCl [(mo, .inr (8, [.ref ms, .int sv, .ref mb, .int (nI ty), .int th, .ref mk, .int ml, .ref mfd, .int mf, .int (nI i), .int on, .int tw])), (mb, .inl (KC, 60, .inl bf))] H := hP.sub [0, 1] rfl
    have hD9 : va_D A [(mo, .inr (8, [.ref ms, .int sv, .ref mb, .int (nI ty), .int th, .ref mk, .int ml, .ref mfd, .int mf, .int (nI i), .int on, .int tw])), (mb, .inl (KC, 60, .inl bf))] := hD.sub [0, 1] (by decide) rfl
    have hK9 : va_K D vwCl [] s := hK.sub [] rfl
    exact W.zret (v := 0) hx hb hr (rfl) (fun t ht9 hW9 => ⟨⟨0, i, rfl, by (exact Or.inr ⟨rfl, rfl, c_6.elim Or.inl (fun q9 => Or.inr (i32_ne q9))⟩), ⟨by rw [ht9]; exact hP9, va_K.moved hW9.alike hK9, hD9⟩⟩, hS.F ht9⟩) hS.2.2 dX8_takes_26
set_option maxHeartbeats 4000000 in
set_option maxRecDepth 100000 in
theorem c_M_reads40 (l : Launch) (D : va_G) (mo : Nat) (ms : Nat) (sv : Int32) (mb : Nat) (ty : Nat) (th : Int32) (mk : Nat) (ml : Int32) (mfd : Nat) (mf : Int32) (i : Nat) (on : Int32) (tw : Int32) (KC : ClassId) (bf : Nat → Int32) (tx : Nat → Int32) (hcf : ∀ j9, j9 < ty → bf j9 = tx j9) (hty : ty ≤ 60) (hit : i ≤ ty) (sz : Nat) : k_Mi (S := Nat) l D yX8_reads_ cX8_reads_ 5 (some .int) 2 0 0 44 [.ref mo, .int 0, .int 40] [(mo, .inr (8, [.ref ms, .int sv, .ref mb, .int (nI ty), .int th, .ref mk, .int ml, .ref mfd, .int mf, .int (nI i), .int on, .int tw])), (mb, .inl (KC, 60, .inl bf))] [(KC, .char)] (fun (r : Int32) (sp1 : Nat) => NR tx ty 48 40 i r sp1) (fun sp1 => [(mo, .inr (8, [.ref ms, .int sv, .ref mb, .int (nI ty), .int th, .ref mk, .int ml, .ref mfd, .int mf, .int (nI sp1), .int on, .int tw])), (mb, .inl (KC, 60, .inl bf))]) (fun sp1 => []) sz := by
  refine Met.ofW (cc := cX8_reads_) (maxL := 5) (ret := (some .int)) (by decide) rfl ?_
  intro p e s m args below meth c s₁ B hml hv
  obtain ⟨rfl, hsz, hP, hK, hD0, hG⟩ := hv
  have hx := B.exec
  have hb := B.bytes
  have hr := B.returns
  have ht : ∀ v9 ∈ wsA, v9.before ([.ref mo, .int 0, .int 40] : List Value).toArray s = true := fun v9 h9 => atoms_spec (ws := k_ws yX8_reads_ cX8_reads_ 5 (some .int)) B.pre v9 (List.mem_cons_of_mem _ h9)
  have hown : s.vm.findClass RX8 = some m.cls := findClass_of_methodNamed B.named
  have S0 : k_C p s m ([.ref mo, .int 0, .int 40] : List Value).toArray c cX8_reads_ 5 RX8 := ⟨hx, hb, hml, hown, ht⟩
  have hlocks := B.notSynchronized
  subst hsz
  have hD := hD0.self (sz := s.heap.size)
  generalize hAe : va_A [(mo, .inr (8, [.ref ms, .int sv, .ref mb, .int (nI ty), .int th, .ref mk, .int ml, .ref mfd, .int mf, .int (nI i), .int on, .int tw])), (mb, .inl (KC, 60, .inl bf))] s.heap.size = A at hD hG ⊢
  have hA : ∀ q : Nat, s.heap.size ≤ q → A q := fun q h => by rw [← hAe]; exact Or.inr h
  have hS : va_S A s.heap s.heap [] := va_S.rf
  have hl := lv_entry ([.ref mo, .int 0, .int 40]) (n := 5) (Nat.le_of_ble_eq_true rfl)
  rw [lg_entry_eq]
  generalize (lg_sl ([.ref mo, .int 0, .int 40]) ++ List.replicate (5 - (lg_sl ([.ref mo, .int 0, .int 40])).length) Slot.unset).toArray = ls at hl ⊢
  have hl : lv_has ls 5 [(0, .ref mo), (1, .int 0), (2, .int 40)] := hl
  have hP : va_P D vwCl [(mo, .inr (8, [.ref ms, .int sv, .ref mb, .int (nI ty), .int th, .ref mk, .int ml, .ref mfd, .int mf, .int (nI i), .int on, .int tw])), (mb, .inl (KC, 60, .inl bf))] s.heap := hP
  have hlo9 : (48 : Int32) = 48 ∨ (48 : Int32) = 49 := by decide
  refine lv_iconst (v := (-1)) hx hb dX8_reads__0 (by decide) ?_
  refine lv_istore_n (lv' := [(3, .int (-1)), (0, .ref mo), (1, .int 0), (2, .int 40)]) hx hb dX8_reads__1 rfl hl (by decide) rfl (fun ls hl => ?_)
  refine lv_aload_n hx hb dX8_reads__2 rfl (lv_at hl 1 rfl) ?_
  refine lv_iload_n hx hb dX8_reads__3 rfl (lv_at hl 2 rfl) ?_
  refine lv_if_ne (tgt := 12) hx hb dX8_reads__4 (by decide) (fun c9 => absurd (by decide) c9) (fun _ => ?_)
  refine lv_bipush (v := 48) hx hb dX8_reads__7 (by decide) ?_
  refine lv_goto (tgt := 14) hx hb dX8_reads__9 (by decide) ?_
  refine lv_bipush (v := 57) hx hb dX8_reads__14 (by decide) ?_
  have ct := k_cut_of (wc := [(mo, .inr (8, [.ref ms, .int sv, .ref mb, .int (nI ty), .int th, .ref mk, .int ml, .ref mfd, .int mf, .int (nI i), .int on, .int tw])), (mb, .inl (KC, 60, .inl bf))]) (wr := []) (tc := [(KC, .char)]) hG hS hA hK hP hD [0, 1] [] [0] rfl rfl (by decide) (by decide) (by decide) rfl
  refine k_endi (As := [.ref mo, .int 48, .int 57]) ct (k_runV (As := [.int 48, .int 57]) (rest := []) S0 Lv_X8_153 rfl (ci := 8) (q0 := 0) rfl rfl ct (c_M_isHere l D mo ms sv mb ty th mk ml mfd mf i on tw KC bf tx 48 57 (by assumption) (by first | assumption | omega) (by first | assumption | omega) s.heap.size) hl.1 rfl (Nat.le_of_ble_eq_true rfl) rfl dX8_reads__16 ⟨⟨Nat.le_of_ble_eq_true rfl, Nat.le_of_ble_eq_true rfl⟩, Nat.le_of_ble_eq_true rfl, Nat.le_of_ble_eq_true rfl⟩) rfl rfl (fun r_1 _ H locs hw_2 hP hD hK hS => ?_)
  have hK : va_K D vwCl [(KC, .char)] s := hK
  have hP : va_P D vwCl [(mo, .inr (8, [.ref ms, .int sv, .ref mb, .int (nI ty), .int th, .ref mk, .int ml, .ref mfd, .int mf, .int (nI i), .int on, .int tw])), (mb, .inl (KC, 60, .inl bf))] H := hP
  have hD : va_D A [(mo, .inr (8, [.ref ms, .int sv, .ref mb, .int (nI ty), .int th, .ref mk, .int ml, .ref mfd, .int mf, .int (nI i), .int on, .int tw])), (mb, .inl (KC, 60, .inl bf))] := hD
  rcases hw_2 with ⟨hr9, c_3, c_4, c_5⟩ | ⟨hr9, c_6⟩
  · subst hr9
    refine lv_istore (lv' := [(4, .int 1), (3, .int (-1)), (0, .ref mo), (1, .int 0), (2, .int 40)]) hx hb dX8_reads__19 hl (by decide) rfl (fun ls hl => ?_)
    refine lv_iload hx hb dX8_reads__21 (lv_at hl 0 rfl) ?_
    refine lv_if_eq (tgt := 120) hx hb dX8_reads__23 (by decide) (fun c9 => absurd c9 (by decide)) (fun _ => ?_)
    refine lv_iload_n hx hb dX8_reads__26 rfl (lv_at hl 1 rfl) ?_
    refine lv_iconst (v := (-1)) hx hb dX8_reads__27 (by decide) ?_
    refine lv_icmp_ne (tgt := 46) hx hb dX8_reads__28 (by decide) (fun c9 => absurd (by decide) c9) (fun _ => ?_)
    refine lv_aload_n hx hb dX8_reads__31 rfl (lv_at hl 2 rfl) ?_
    refine va_get (D := D) (ci := 8) (v := .ref mb) (C := RX8) (T := TX8) (N := 12) hx hb ht inA_X8 hown hK hP 0 rfl rfl 2 (by decide) (ht _ lf_X8_13) (fun _ h9 => h9) rfl dX8_reads__32 ?_
    refine lv_aload_n hx hb dX8_reads__35 rfl (lv_at hl 2 rfl) ?_
    refine va_get (D := D) (ci := 8) (v := .int (nI i)) (C := RX8) (T := TX8) (N := 12) hx hb ht inA_X8 hown hK hP 0 rfl rfl 9 (by decide) (ht _ lf_X8_150) (fun _ h9 => h9) rfl dX8_reads__36 ?_
    refine va_cald hx hb hK hP 1 0 rfl rfl (vp_in_nI (by omega) (by decide)) dX8_reads__39 ?_
    refine k_nrm (y := (tx i)) (by rw [nI_clamp (by omega)]; exact hcf _ (by omega)) ?_
    refine lv_bipush (v := 48) hx hb dX8_reads__40 (by decide) ?_
    refine lv_isub hx hb dX8_reads__42 ?_
    refine k_nrm (y := (tx i - 48)) (rfl) ?_
    refine lv_goto (tgt := 63) hx hb dX8_reads__43 (by decide) ?_
    refine lv_istore_n (lv' := [(3, .int (tx i - 48)), (4, .int 1), (0, .ref mo), (1, .int 0), (2, .int 40)]) hx hb dX8_reads__63 rfl hl (by decide) rfl (fun ls hl => ?_)
    refine lv_aload_n hx hb dX8_reads__64 rfl (lv_at hl 2 rfl) ?_
    refine lv_dup hx hb dX8_reads__65 rfl ?_
    refine va_get (D := D) (ci := 8) (v := .int (nI i)) (C := RX8) (T := TX8) (N := 12) hx hb ht inA_X8 hown hK hP 0 rfl rfl 9 (by decide) (ht _ lf_X8_150) (fun _ h9 => h9) rfl dX8_reads__66 ?_
    refine lv_iconst (v := 1) hx hb dX8_reads__69 (by decide) ?_
    refine lv_iadd hx hb dX8_reads__70 ?_
    refine k_nrm (y := (nI (i + 1))) (nI_1 i) ?_
    refine va_put (D := D) (ci := 8) (v := .int (nI (i + 1))) (ty := .int) (C := RX8) (T := TX8) (N := 12) hx hb ht inA_X8 tyX8 tyX8_ok nmX8 hown hK hP hD hS 0 rfl rfl 9 (by decide) (ht _ lf_X8_150) (fun _ h9 => h9) rfl (tyX8_ok 9 (by decide)) rfl rfl (Nat.le_of_ble_eq_true rfl) dX8_reads__71 (fun H locs hP hD hS => ?_)
    have hP : va_P D vwCl [(mo, .inr (8, [.ref ms, .int sv, .ref mb, .int (nI ty), .int th, .ref mk, .int ml, .ref mfd, .int mf, .int (nI (i + 1)), .int on, .int tw])), (mb, .inl (KC, 60, .inl bf))] H := hP
    have hD : va_D A [(mo, .inr (8, [.ref ms, .int sv, .ref mb, .int (nI ty), .int th, .ref mk, .int ml, .ref mfd, .int mf, .int (nI (i + 1)), .int on, .int tw])), (mb, .inl (KC, 60, .inl bf))] := hD
    refine lv_iload_n hx hb dX8_reads__74 rfl (lv_at hl 0 rfl) ?_
    refine lv_if_le (tgt := 114) hx hb dX8_reads__75 (by decide) (fun c_7 => ?_) (fun c_7 => ?_)
    · have hc9 := c_7
      refine lv_iconst (v := 0) hx hb dX8_reads__114 (by decide) ?_
      refine lv_istore (lv' := [(4, .int 0), (3, .int (tx i - 48)), (0, .ref mo), (1, .int 0), (2, .int 40)]) hx hb dX8_reads__115 hl (by decide) rfl (fun ls hl => ?_)
      refine lv_goto (tgt := 21) hx hb dX8_reads__117 (by decide) ?_
      refine lv_iload hx hb dX8_reads__21 (lv_at hl 0 rfl) ?_
      refine lv_if_eq (tgt := 120) hx hb dX8_reads__23 (by decide) (fun _ => ?_) (fun c9 => absurd (by decide) c9)
      refine lv_iload_n hx hb dX8_reads__120 rfl (lv_at hl 1 rfl) ?_
      have hP9 : va_P D vwCl [(mo, .inr (8, [.ref ms, .int sv, .ref mb, .int (nI ty), .int th, .ref mk, .int ml, .ref mfd, .int mf, .int (nI (i + 1)), .int on, .int tw])), (mb, .inl (KC, 60, .inl bf))] H := hP.sub [0, 1] rfl
      have hD9 : va_D A [(mo, .inr (8, [.ref ms, .int sv, .ref mb, .int (nI ty), .int th, .ref mk, .int ml, .ref mfd, .int mf, .int (nI (i + 1)), .int on, .int tw])), (mb, .inl (KC, 60, .inl bf))] := hD.sub [0, 1] (by decide) rfl
      have hK9 : va_K D vwCl [] s := hK.sub [] rfl
      exact W.iret (v := (tx i - 48)) hx hb hr (fun t ht9 hW9 => ⟨⟨(tx i - 48), i + 1, rfl, by (exact Or.inr (Or.inl ⟨c_3, c_4, c_5, rfl, rfl, Or.inl c_7⟩)), ⟨by rw [ht9]; exact hP9, va_K.moved hW9.alike hK9, hD9⟩⟩, hS.F ht9⟩) hS.2.2 dX8_reads__121
    · have hc9 := c_7
      refine lv_aload_n hx hb dX8_reads__78 rfl (lv_at hl 2 rfl) ?_
      refine lv_bipush (v := 48) hx hb dX8_reads__79 (by decide) ?_
      refine lv_bipush (v := 57) hx hb dX8_reads__81 (by decide) ?_
      have ct := k_cut_of (wc := [(mo, .inr (8, [.ref ms, .int sv, .ref mb, .int (nI ty), .int th, .ref mk, .int ml, .ref mfd, .int mf, .int (nI (i + 1)), .int on, .int tw])), (mb, .inl (KC, 60, .inl bf))]) (wr := []) (tc := [(KC, .char)]) hG hS hA hK hP hD [0, 1] [] [0] rfl rfl (by decide) (by decide) (by decide) rfl
      refine k_endi (As := [.ref mo, .int 48, .int 57]) ct (k_runV (As := [.int 48, .int 57]) (rest := []) S0 Lv_X8_153 rfl (ci := 8) (q0 := 0) rfl rfl ct (c_M_isHere l D mo ms sv mb ty th mk ml mfd mf (i + 1) on tw KC bf tx 48 57 (by assumption) (by first | assumption | omega) (by first | assumption | omega) H.size) hl.1 rfl (Nat.le_of_ble_eq_true rfl) rfl dX8_reads__83 ⟨⟨Nat.le_of_ble_eq_true rfl, Nat.le_of_ble_eq_true rfl⟩, Nat.le_of_ble_eq_true rfl, Nat.le_of_ble_eq_true rfl⟩) rfl rfl (fun r_8 _ H locs hw_9 hP hD hK hS => ?_)
      have hK : va_K D vwCl [(KC, .char)] s := hK
      have hP : va_P D vwCl [(mo, .inr (8, [.ref ms, .int sv, .ref mb, .int (nI ty), .int th, .ref mk, .int ml, .ref mfd, .int mf, .int (nI (i + 1)), .int on, .int tw])), (mb, .inl (KC, 60, .inl bf))] H := hP
      have hD : va_D A [(mo, .inr (8, [.ref ms, .int sv, .ref mb, .int (nI ty), .int th, .ref mk, .int ml, .ref mfd, .int mf, .int (nI (i + 1)), .int on, .int tw])), (mb, .inl (KC, 60, .inl bf))] := hD
      rcases hw_9 with ⟨hr9, c_10, c_11, c_12⟩ | ⟨hr9, c_13⟩
      · subst hr9
        refine lv_if_eq (tgt := 114) hx hb dX8_reads__86 (by decide) (fun c9 => absurd c9 (by decide)) (fun _ => ?_)
        refine lv_bipush (v := 10) hx hb dX8_reads__89 (by decide) ?_
        refine lv_iload_n hx hb dX8_reads__91 rfl (lv_at hl 0 rfl) ?_
        refine lv_imul hx hb dX8_reads__92 ?_
        refine k_nrm (y := (10 * (tx i - 48))) (rfl) ?_
        refine lv_aload_n hx hb dX8_reads__93 rfl (lv_at hl 2 rfl) ?_
        refine va_get (D := D) (ci := 8) (v := .ref mb) (C := RX8) (T := TX8) (N := 12) hx hb ht inA_X8 hown hK hP 0 rfl rfl 2 (by decide) (ht _ lf_X8_13) (fun _ h9 => h9) rfl dX8_reads__94 ?_
        refine lv_aload_n hx hb dX8_reads__97 rfl (lv_at hl 2 rfl) ?_
        refine va_get (D := D) (ci := 8) (v := .int (nI (i + 1))) (C := RX8) (T := TX8) (N := 12) hx hb ht inA_X8 hown hK hP 0 rfl rfl 9 (by decide) (ht _ lf_X8_150) (fun _ h9 => h9) rfl dX8_reads__98 ?_
        refine va_cald hx hb hK hP 1 0 rfl rfl (vp_in_nI (by omega) (by decide)) dX8_reads__101 ?_
        refine k_nrm (y := (tx (i + 1))) (by rw [nI_clamp (by omega)]; exact hcf _ (by omega)) ?_
        refine lv_iadd hx hb dX8_reads__102 ?_
        refine k_nrm (y := ((10 * (tx i - 48)) + (tx (i + 1)))) (rfl) ?_
        refine lv_bipush (v := 48) hx hb dX8_reads__103 (by decide) ?_
        refine lv_isub hx hb dX8_reads__105 ?_
        refine k_nrm (y := (10 * (tx i - 48) + tx (i + 1) - 48)) (rfl) ?_
        refine lv_iload_n hx hb dX8_reads__106 rfl (lv_at hl 4 rfl) ?_
        refine lv_icmp_gt (tgt := 114) hx hb dX8_reads__107 (by decide) (fun c_14 => ?_) (fun c_14 => ?_)
        · have hc9 := c_14
          refine lv_iconst (v := 0) hx hb dX8_reads__114 (by decide) ?_
          refine lv_istore (lv' := [(4, .int 0), (3, .int (tx i - 48)), (0, .ref mo), (1, .int 0), (2, .int 40)]) hx hb dX8_reads__115 hl (by decide) rfl (fun ls hl => ?_)
          refine lv_goto (tgt := 21) hx hb dX8_reads__117 (by decide) ?_
          refine lv_iload hx hb dX8_reads__21 (lv_at hl 0 rfl) ?_
          refine lv_if_eq (tgt := 120) hx hb dX8_reads__23 (by decide) (fun _ => ?_) (fun c9 => absurd (by decide) c9)
          refine lv_iload_n hx hb dX8_reads__120 rfl (lv_at hl 1 rfl) ?_
          have hP9 : va_P D vwCl [(mo, .inr (8, [.ref ms, .int sv, .ref mb, .int (nI ty), .int th, .ref mk, .int ml, .ref mfd, .int mf, .int (nI (i + 1)), .int on, .int tw])), (mb, .inl (KC, 60, .inl bf))] H := hP.sub [0, 1] rfl
          have hD9 : va_D A [(mo, .inr (8, [.ref ms, .int sv, .ref mb, .int (nI ty), .int th, .ref mk, .int ml, .ref mfd, .int mf, .int (nI (i + 1)), .int on, .int tw])), (mb, .inl (KC, 60, .inl bf))] := hD.sub [0, 1] (by decide) rfl
          have hK9 : va_K D vwCl [] s := hK.sub [] rfl
          exact W.iret (v := (tx i - 48)) hx hb hr (fun t ht9 hW9 => ⟨⟨(tx i - 48), i + 1, rfl, by (exact Or.inr (Or.inl ⟨c_3, c_4, c_5, rfl, rfl, Or.inr (Or.inr c_14)⟩)), ⟨by rw [ht9]; exact hP9, va_K.moved hW9.alike hK9, hD9⟩⟩, hS.F ht9⟩) hS.2.2 dX8_reads__121
        · have hc9 := c_14
          refine lv_iconst (v := 1) hx hb dX8_reads__110 (by decide) ?_
          refine lv_goto (tgt := 115) hx hb dX8_reads__111 (by decide) ?_
          refine lv_istore (lv' := [(4, .int 1), (3, .int (tx i - 48)), (0, .ref mo), (1, .int 0), (2, .int 40)]) hx hb dX8_reads__115 hl (by decide) rfl (fun ls hl => ?_)
          refine lv_goto (tgt := 21) hx hb dX8_reads__117 (by decide) ?_
          refine lv_iload hx hb dX8_reads__21 (lv_at hl 0 rfl) ?_
          refine lv_if_eq (tgt := 120) hx hb dX8_reads__23 (by decide) (fun c9 => absurd c9 (by decide)) (fun _ => ?_)
          refine lv_iload_n hx hb dX8_reads__26 rfl (lv_at hl 1 rfl) ?_
          refine lv_iconst (v := (-1)) hx hb dX8_reads__27 (by decide) ?_
          refine lv_icmp_ne (tgt := 46) hx hb dX8_reads__28 (by decide) (fun c_15 => ?_) (fun c9 => absurd c9 (c_ne1 hlo9 c_4 c_5))
          refine lv_bipush (v := 10) hx hb dX8_reads__46 (by decide) ?_
          refine lv_iload_n hx hb dX8_reads__48 rfl (lv_at hl 1 rfl) ?_
          refine lv_imul hx hb dX8_reads__49 ?_
          refine k_nrm (y := (10 * (tx i - 48))) (rfl) ?_
          refine lv_aload_n hx hb dX8_reads__50 rfl (lv_at hl 2 rfl) ?_
          refine va_get (D := D) (ci := 8) (v := .ref mb) (C := RX8) (T := TX8) (N := 12) hx hb ht inA_X8 hown hK hP 0 rfl rfl 2 (by decide) (ht _ lf_X8_13) (fun _ h9 => h9) rfl dX8_reads__51 ?_
          refine lv_aload_n hx hb dX8_reads__54 rfl (lv_at hl 2 rfl) ?_
          refine va_get (D := D) (ci := 8) (v := .int (nI (i + 1))) (C := RX8) (T := TX8) (N := 12) hx hb ht inA_X8 hown hK hP 0 rfl rfl 9 (by decide) (ht _ lf_X8_150) (fun _ h9 => h9) rfl dX8_reads__55 ?_
          refine va_cald hx hb hK hP 1 0 rfl rfl (vp_in_nI (by omega) (by decide)) dX8_reads__58 ?_
          refine k_nrm (y := (tx (i + 1))) (by rw [nI_clamp (by omega)]; exact hcf _ (by omega)) ?_
          refine lv_iadd hx hb dX8_reads__59 ?_
          refine k_nrm (y := ((10 * (tx i - 48)) + (tx (i + 1)))) (rfl) ?_
          refine lv_bipush (v := 48) hx hb dX8_reads__60 (by decide) ?_
          refine lv_isub hx hb dX8_reads__62 ?_
          refine k_nrm (y := (10 * (tx i - 48) + tx (i + 1) - 48)) (rfl) ?_
          refine lv_istore_n (lv' := [(3, .int (10 * (tx i - 48) + tx (i + 1) - 48)), (4, .int 1), (0, .ref mo), (1, .int 0), (2, .int 40)]) hx hb dX8_reads__63 rfl hl (by decide) rfl (fun ls hl => ?_)
          refine lv_aload_n hx hb dX8_reads__64 rfl (lv_at hl 2 rfl) ?_
          refine lv_dup hx hb dX8_reads__65 rfl ?_
          refine va_get (D := D) (ci := 8) (v := .int (nI (i + 1))) (C := RX8) (T := TX8) (N := 12) hx hb ht inA_X8 hown hK hP 0 rfl rfl 9 (by decide) (ht _ lf_X8_150) (fun _ h9 => h9) rfl dX8_reads__66 ?_
          refine lv_iconst (v := 1) hx hb dX8_reads__69 (by decide) ?_
          refine lv_iadd hx hb dX8_reads__70 ?_
          refine k_nrm (y := (nI (i + 2))) (nI_1 (i + 1)) ?_
          refine va_put (D := D) (ci := 8) (v := .int (nI (i + 2))) (ty := .int) (C := RX8) (T := TX8) (N := 12) hx hb ht inA_X8 tyX8 tyX8_ok nmX8 hown hK hP hD hS 0 rfl rfl 9 (by decide) (ht _ lf_X8_150) (fun _ h9 => h9) rfl (tyX8_ok 9 (by decide)) rfl rfl (Nat.le_of_ble_eq_true rfl) dX8_reads__71 (fun H locs hP hD hS => ?_)
          have hP : va_P D vwCl [(mo, .inr (8, [.ref ms, .int sv, .ref mb, .int (nI ty), .int th, .ref mk, .int ml, .ref mfd, .int mf, .int (nI (i + 2)), .int on, .int tw])), (mb, .inl (KC, 60, .inl bf))] H := hP
          have hD : va_D A [(mo, .inr (8, [.ref ms, .int sv, .ref mb, .int (nI ty), .int th, .ref mk, .int ml, .ref mfd, .int mf, .int (nI (i + 2)), .int on, .int tw])), (mb, .inl (KC, 60, .inl bf))] := hD
          refine lv_iload_n hx hb dX8_reads__74 rfl (lv_at hl 0 rfl) ?_
          refine lv_if_le (tgt := 114) hx hb dX8_reads__75 (by decide) (fun c9 => absurd c9 ((v2_pos hlo9 c_4 c_5 c_7 c_11 c_12).1)) (fun c_16 => ?_)
          refine lv_aload_n hx hb dX8_reads__78 rfl (lv_at hl 2 rfl) ?_
          refine lv_bipush (v := 48) hx hb dX8_reads__79 (by decide) ?_
          refine lv_bipush (v := 57) hx hb dX8_reads__81 (by decide) ?_
          have ct := k_cut_of (wc := [(mo, .inr (8, [.ref ms, .int sv, .ref mb, .int (nI ty), .int th, .ref mk, .int ml, .ref mfd, .int mf, .int (nI (i + 2)), .int on, .int tw])), (mb, .inl (KC, 60, .inl bf))]) (wr := []) (tc := [(KC, .char)]) hG hS hA hK hP hD [0, 1] [] [0] rfl rfl (by decide) (by decide) (by decide) rfl
          refine k_endi (As := [.ref mo, .int 48, .int 57]) ct (k_runV (As := [.int 48, .int 57]) (rest := []) S0 Lv_X8_153 rfl (ci := 8) (q0 := 0) rfl rfl ct (c_M_isHere l D mo ms sv mb ty th mk ml mfd mf (i + 2) on tw KC bf tx 48 57 (by assumption) (by first | assumption | omega) (by first | assumption | omega) H.size) hl.1 rfl (Nat.le_of_ble_eq_true rfl) rfl dX8_reads__83 ⟨⟨Nat.le_of_ble_eq_true rfl, Nat.le_of_ble_eq_true rfl⟩, Nat.le_of_ble_eq_true rfl, Nat.le_of_ble_eq_true rfl⟩) rfl rfl (fun r_17 _ H locs hw_18 hP hD hK hS => ?_)
          have hK : va_K D vwCl [(KC, .char)] s := hK
          have hP : va_P D vwCl [(mo, .inr (8, [.ref ms, .int sv, .ref mb, .int (nI ty), .int th, .ref mk, .int ml, .ref mfd, .int mf, .int (nI (i + 2)), .int on, .int tw])), (mb, .inl (KC, 60, .inl bf))] H := hP
          have hD : va_D A [(mo, .inr (8, [.ref ms, .int sv, .ref mb, .int (nI ty), .int th, .ref mk, .int ml, .ref mfd, .int mf, .int (nI (i + 2)), .int on, .int tw])), (mb, .inl (KC, 60, .inl bf))] := hD
          rcases hw_18 with ⟨hr9, c_19, c_20, c_21⟩ | ⟨hr9, c_22⟩
          · subst hr9
            refine lv_if_eq (tgt := 114) hx hb dX8_reads__86 (by decide) (fun c9 => absurd c9 (by decide)) (fun _ => ?_)
            refine lv_bipush (v := 10) hx hb dX8_reads__89 (by decide) ?_
            refine lv_iload_n hx hb dX8_reads__91 rfl (lv_at hl 0 rfl) ?_
            refine lv_imul hx hb dX8_reads__92 ?_
            refine k_nrm (y := (10 * (10 * (tx i - 48) + tx (i + 1) - 48))) (rfl) ?_
            refine lv_aload_n hx hb dX8_reads__93 rfl (lv_at hl 2 rfl) ?_
            refine va_get (D := D) (ci := 8) (v := .ref mb) (C := RX8) (T := TX8) (N := 12) hx hb ht inA_X8 hown hK hP 0 rfl rfl 2 (by decide) (ht _ lf_X8_13) (fun _ h9 => h9) rfl dX8_reads__94 ?_
            refine lv_aload_n hx hb dX8_reads__97 rfl (lv_at hl 2 rfl) ?_
            refine va_get (D := D) (ci := 8) (v := .int (nI (i + 2))) (C := RX8) (T := TX8) (N := 12) hx hb ht inA_X8 hown hK hP 0 rfl rfl 9 (by decide) (ht _ lf_X8_150) (fun _ h9 => h9) rfl dX8_reads__98 ?_
            refine va_cald hx hb hK hP 1 0 rfl rfl (vp_in_nI (by omega) (by decide)) dX8_reads__101 ?_
            refine k_nrm (y := (tx (i + 2))) (by rw [nI_clamp (by omega)]; exact hcf _ (by omega)) ?_
            refine lv_iadd hx hb dX8_reads__102 ?_
            refine k_nrm (y := ((10 * (10 * (tx i - 48) + tx (i + 1) - 48)) + (tx (i + 2)))) (rfl) ?_
            refine lv_bipush (v := 48) hx hb dX8_reads__103 (by decide) ?_
            refine lv_isub hx hb dX8_reads__105 ?_
            refine k_nrm (y := (((10 * (10 * (tx i - 48) + tx (i + 1) - 48)) + (tx (i + 2))) - 48)) (rfl) ?_
            refine lv_iload_n hx hb dX8_reads__106 rfl (lv_at hl 4 rfl) ?_
            refine lv_icmp_gt (tgt := 114) hx hb dX8_reads__107 (by decide) (fun c_23 => ?_) (fun c9 => absurd (gr_50 (by decide) ((v2_pos hlo9 c_4 c_5 c_7 c_11 c_12).2 _ c_20 c_21)) c9)
            refine lv_iconst (v := 0) hx hb dX8_reads__114 (by decide) ?_
            refine lv_istore (lv' := [(4, .int 0), (3, .int (10 * (tx i - 48) + tx (i + 1) - 48)), (0, .ref mo), (1, .int 0), (2, .int 40)]) hx hb dX8_reads__115 hl (by decide) rfl (fun ls hl => ?_)
            refine lv_goto (tgt := 21) hx hb dX8_reads__117 (by decide) ?_
            refine lv_iload hx hb dX8_reads__21 (lv_at hl 0 rfl) ?_
            refine lv_if_eq (tgt := 120) hx hb dX8_reads__23 (by decide) (fun _ => ?_) (fun c9 => absurd (by decide) c9)
            refine lv_iload_n hx hb dX8_reads__120 rfl (lv_at hl 1 rfl) ?_
            have hP9 : va_P D vwCl [(mo, .inr (8, [.ref ms, .int sv, .ref mb, .int (nI ty), .int th, .ref mk, .int ml, .ref mfd, .int mf, .int (nI (i + 2)), .int on, .int tw])), (mb, .inl (KC, 60, .inl bf))] H := hP.sub [0, 1] rfl
            have hD9 : va_D A [(mo, .inr (8, [.ref ms, .int sv, .ref mb, .int (nI ty), .int th, .ref mk, .int ml, .ref mfd, .int mf, .int (nI (i + 2)), .int on, .int tw])), (mb, .inl (KC, 60, .inl bf))] := hD.sub [0, 1] (by decide) rfl
            have hK9 : va_K D vwCl [] s := hK.sub [] rfl
            exact W.iret (v := (10 * (tx i - 48) + tx (i + 1) - 48)) hx hb hr (fun t ht9 hW9 => ⟨⟨(10 * (tx i - 48) + tx (i + 1) - 48), i + 2, rfl, by (exact Or.inr (Or.inr ⟨c_10, c_4, c_5, c_11, c_12, c_7, rfl, fa_of_nlt c_14, rfl⟩)), ⟨by rw [ht9]; exact hP9, va_K.moved hW9.alike hK9, hD9⟩⟩, hS.F ht9⟩) hS.2.2 dX8_reads__121
          · subst hr9
            refine lv_if_eq (tgt := 114) hx hb dX8_reads__86 (by decide) (fun _ => ?_) (fun c9 => absurd (by decide) c9)
            refine lv_iconst (v := 0) hx hb dX8_reads__114 (by decide) ?_
            refine lv_istore (lv' := [(4, .int 0), (3, .int (10 * (tx i - 48) + tx (i + 1) - 48)), (0, .ref mo), (1, .int 0), (2, .int 40)]) hx hb dX8_reads__115 hl (by decide) rfl (fun ls hl => ?_)
            refine lv_goto (tgt := 21) hx hb dX8_reads__117 (by decide) ?_
            refine lv_iload hx hb dX8_reads__21 (lv_at hl 0 rfl) ?_
            refine lv_if_eq (tgt := 120) hx hb dX8_reads__23 (by decide) (fun _ => ?_) (fun c9 => absurd (by decide) c9)
            refine lv_iload_n hx hb dX8_reads__120 rfl (lv_at hl 1 rfl) ?_
            have hP9 : va_P D vwCl [(mo, .inr (8, [.ref ms, .int sv, .ref mb, .int (nI ty), .int th, .ref mk, .int ml, .ref mfd, .int mf, .int (nI (i + 2)), .int on, .int tw])), (mb, .inl (KC, 60, .inl bf))] H := hP.sub [0, 1] rfl
            have hD9 : va_D A [(mo, .inr (8, [.ref ms, .int sv, .ref mb, .int (nI ty), .int th, .ref mk, .int ml, .ref mfd, .int mf, .int (nI (i + 2)), .int on, .int tw])), (mb, .inl (KC, 60, .inl bf))] := hD.sub [0, 1] (by decide) rfl
            have hK9 : va_K D vwCl [] s := hK.sub [] rfl
            exact W.iret (v := (10 * (tx i - 48) + tx (i + 1) - 48)) hx hb hr (fun t ht9 hW9 => ⟨⟨(10 * (tx i - 48) + tx (i + 1) - 48), i + 2, rfl, by (exact Or.inr (Or.inr ⟨c_10, c_4, c_5, c_11, c_12, c_7, rfl, fa_of_nlt c_14, rfl⟩)), ⟨by rw [ht9]; exact hP9, va_K.moved hW9.alike hK9, hD9⟩⟩, hS.F ht9⟩) hS.2.2 dX8_reads__121
      · subst hr9
        refine lv_if_eq (tgt := 114) hx hb dX8_reads__86 (by decide) (fun _ => ?_) (fun c9 => absurd (by decide) c9)
        refine lv_iconst (v := 0) hx hb dX8_reads__114 (by decide) ?_
        refine lv_istore (lv' := [(4, .int 0), (3, .int (tx i - 48)), (0, .ref mo), (1, .int 0), (2, .int 40)]) hx hb dX8_reads__115 hl (by decide) rfl (fun ls hl => ?_)
        refine lv_goto (tgt := 21) hx hb dX8_reads__117 (by decide) ?_
        refine lv_iload hx hb dX8_reads__21 (lv_at hl 0 rfl) ?_
        refine lv_if_eq (tgt := 120) hx hb dX8_reads__23 (by decide) (fun _ => ?_) (fun c9 => absurd (by decide) c9)
        refine lv_iload_n hx hb dX8_reads__120 rfl (lv_at hl 1 rfl) ?_
        have hP9 : va_P D vwCl [(mo, .inr (8, [.ref ms, .int sv, .ref mb, .int (nI ty), .int th, .ref mk, .int ml, .ref mfd, .int mf, .int (nI (i + 1)), .int on, .int tw])), (mb, .inl (KC, 60, .inl bf))] H := hP.sub [0, 1] rfl
        have hD9 : va_D A [(mo, .inr (8, [.ref ms, .int sv, .ref mb, .int (nI ty), .int th, .ref mk, .int ml, .ref mfd, .int mf, .int (nI (i + 1)), .int on, .int tw])), (mb, .inl (KC, 60, .inl bf))] := hD.sub [0, 1] (by decide) rfl
        have hK9 : va_K D vwCl [] s := hK.sub [] rfl
        exact W.iret (v := (tx i - 48)) hx hb hr (fun t ht9 hW9 => ⟨⟨(tx i - 48), i + 1, rfl, by (exact Or.inr (Or.inl ⟨c_3, c_4, c_5, rfl, rfl, Or.inr (Or.inl c_13)⟩)), ⟨by rw [ht9]; exact hP9, va_K.moved hW9.alike hK9, hD9⟩⟩, hS.F ht9⟩) hS.2.2 dX8_reads__121
  · subst hr9
    refine lv_istore (lv' := [(4, .int 0), (3, .int (-1)), (0, .ref mo), (1, .int 0), (2, .int 40)]) hx hb dX8_reads__19 hl (by decide) rfl (fun ls hl => ?_)
    refine lv_iload hx hb dX8_reads__21 (lv_at hl 0 rfl) ?_
    refine lv_if_eq (tgt := 120) hx hb dX8_reads__23 (by decide) (fun _ => ?_) (fun c9 => absurd (by decide) c9)
    refine lv_iload_n hx hb dX8_reads__120 rfl (lv_at hl 1 rfl) ?_
    have hP9 : va_P D vwCl [(mo, .inr (8, [.ref ms, .int sv, .ref mb, .int (nI ty), .int th, .ref mk, .int ml, .ref mfd, .int mf, .int (nI i), .int on, .int tw])), (mb, .inl (KC, 60, .inl bf))] H := hP.sub [0, 1] rfl
    have hD9 : va_D A [(mo, .inr (8, [.ref ms, .int sv, .ref mb, .int (nI ty), .int th, .ref mk, .int ml, .ref mfd, .int mf, .int (nI i), .int on, .int tw])), (mb, .inl (KC, 60, .inl bf))] := hD.sub [0, 1] (by decide) rfl
    have hK9 : va_K D vwCl [] s := hK.sub [] rfl
    exact W.iret (v := (-1)) hx hb hr (fun t ht9 hW9 => ⟨⟨(-1), i, rfl, by (exact Or.inl ⟨rfl, rfl, c_6⟩), ⟨by rw [ht9]; exact hP9, va_K.moved hW9.alike hK9, hD9⟩⟩, hS.F ht9⟩) hS.2.2 dX8_reads__121
set_option maxHeartbeats 4000000 in
set_option maxRecDepth 100000 in
theorem c_M_reads50 (l : Launch) (D : va_G) (mo : Nat) (ms : Nat) (sv : Int32) (mb : Nat) (ty : Nat) (th : Int32) (mk : Nat) (ml : Int32) (mfd : Nat) (mf : Int32) (i : Nat) (on : Int32) (tw : Int32) (KC : ClassId) (bf : Nat → Int32) (tx : Nat → Int32) (hcf : ∀ j9, j9 < ty → bf j9 = tx j9) (hty : ty ≤ 60) (hit : i ≤ ty) (sz : Nat) : k_Mi (S := Nat) l D yX8_reads_ cX8_reads_ 5 (some .int) 2 0 0 44 [.ref mo, .int 1, .int 50] [(mo, .inr (8, [.ref ms, .int sv, .ref mb, .int (nI ty), .int th, .ref mk, .int ml, .ref mfd, .int mf, .int (nI i), .int on, .int tw])), (mb, .inl (KC, 60, .inl bf))] [(KC, .char)] (fun (r : Int32) (sp1 : Nat) => NR tx ty 49 50 i r sp1) (fun sp1 => [(mo, .inr (8, [.ref ms, .int sv, .ref mb, .int (nI ty), .int th, .ref mk, .int ml, .ref mfd, .int mf, .int (nI sp1), .int on, .int tw])), (mb, .inl (KC, 60, .inl bf))]) (fun sp1 => []) sz := by
  refine Met.ofW (cc := cX8_reads_) (maxL := 5) (ret := (some .int)) (by decide) rfl ?_
  intro p e s m args below meth c s₁ B hml hv
  obtain ⟨rfl, hsz, hP, hK, hD0, hG⟩ := hv
  have hx := B.exec
  have hb := B.bytes
  have hr := B.returns
  have ht : ∀ v9 ∈ wsA, v9.before ([.ref mo, .int 1, .int 50] : List Value).toArray s = true := fun v9 h9 => atoms_spec (ws := k_ws yX8_reads_ cX8_reads_ 5 (some .int)) B.pre v9 (List.mem_cons_of_mem _ h9)
  have hown : s.vm.findClass RX8 = some m.cls := findClass_of_methodNamed B.named
  have S0 : k_C p s m ([.ref mo, .int 1, .int 50] : List Value).toArray c cX8_reads_ 5 RX8 := ⟨hx, hb, hml, hown, ht⟩
  have hlocks := B.notSynchronized
  subst hsz
  have hD := hD0.self (sz := s.heap.size)
  generalize hAe : va_A [(mo, .inr (8, [.ref ms, .int sv, .ref mb, .int (nI ty), .int th, .ref mk, .int ml, .ref mfd, .int mf, .int (nI i), .int on, .int tw])), (mb, .inl (KC, 60, .inl bf))] s.heap.size = A at hD hG ⊢
  have hA : ∀ q : Nat, s.heap.size ≤ q → A q := fun q h => by rw [← hAe]; exact Or.inr h
  have hS : va_S A s.heap s.heap [] := va_S.rf
  have hl := lv_entry ([.ref mo, .int 1, .int 50]) (n := 5) (Nat.le_of_ble_eq_true rfl)
  rw [lg_entry_eq]
  generalize (lg_sl ([.ref mo, .int 1, .int 50]) ++ List.replicate (5 - (lg_sl ([.ref mo, .int 1, .int 50])).length) Slot.unset).toArray = ls at hl ⊢
  have hl : lv_has ls 5 [(0, .ref mo), (1, .int 1), (2, .int 50)] := hl
  have hP : va_P D vwCl [(mo, .inr (8, [.ref ms, .int sv, .ref mb, .int (nI ty), .int th, .ref mk, .int ml, .ref mfd, .int mf, .int (nI i), .int on, .int tw])), (mb, .inl (KC, 60, .inl bf))] s.heap := hP
  have hlo9 : (49 : Int32) = 48 ∨ (49 : Int32) = 49 := by decide
  refine lv_iconst (v := (-1)) hx hb dX8_reads__0 (by decide) ?_
  refine lv_istore_n (lv' := [(3, .int (-1)), (0, .ref mo), (1, .int 1), (2, .int 50)]) hx hb dX8_reads__1 rfl hl (by decide) rfl (fun ls hl => ?_)
  refine lv_aload_n hx hb dX8_reads__2 rfl (lv_at hl 1 rfl) ?_
  refine lv_iload_n hx hb dX8_reads__3 rfl (lv_at hl 2 rfl) ?_
  refine lv_if_ne (tgt := 12) hx hb dX8_reads__4 (by decide) (fun _ => ?_) (fun c9 => absurd c9 (by decide))
  refine lv_bipush (v := 49) hx hb dX8_reads__12 (by decide) ?_
  refine lv_bipush (v := 57) hx hb dX8_reads__14 (by decide) ?_
  have ct := k_cut_of (wc := [(mo, .inr (8, [.ref ms, .int sv, .ref mb, .int (nI ty), .int th, .ref mk, .int ml, .ref mfd, .int mf, .int (nI i), .int on, .int tw])), (mb, .inl (KC, 60, .inl bf))]) (wr := []) (tc := [(KC, .char)]) hG hS hA hK hP hD [0, 1] [] [0] rfl rfl (by decide) (by decide) (by decide) rfl
  refine k_endi (As := [.ref mo, .int 49, .int 57]) ct (k_runV (As := [.int 49, .int 57]) (rest := []) S0 Lv_X8_153 rfl (ci := 8) (q0 := 0) rfl rfl ct (c_M_isHere l D mo ms sv mb ty th mk ml mfd mf i on tw KC bf tx 49 57 (by assumption) (by first | assumption | omega) (by first | assumption | omega) s.heap.size) hl.1 rfl (Nat.le_of_ble_eq_true rfl) rfl dX8_reads__16 ⟨⟨Nat.le_of_ble_eq_true rfl, Nat.le_of_ble_eq_true rfl⟩, Nat.le_of_ble_eq_true rfl, Nat.le_of_ble_eq_true rfl⟩) rfl rfl (fun r_1 _ H locs hw_2 hP hD hK hS => ?_)
  have hK : va_K D vwCl [(KC, .char)] s := hK
  have hP : va_P D vwCl [(mo, .inr (8, [.ref ms, .int sv, .ref mb, .int (nI ty), .int th, .ref mk, .int ml, .ref mfd, .int mf, .int (nI i), .int on, .int tw])), (mb, .inl (KC, 60, .inl bf))] H := hP
  have hD : va_D A [(mo, .inr (8, [.ref ms, .int sv, .ref mb, .int (nI ty), .int th, .ref mk, .int ml, .ref mfd, .int mf, .int (nI i), .int on, .int tw])), (mb, .inl (KC, 60, .inl bf))] := hD
  rcases hw_2 with ⟨hr9, c_3, c_4, c_5⟩ | ⟨hr9, c_6⟩
  · subst hr9
    refine lv_istore (lv' := [(4, .int 1), (3, .int (-1)), (0, .ref mo), (1, .int 1), (2, .int 50)]) hx hb dX8_reads__19 hl (by decide) rfl (fun ls hl => ?_)
    refine lv_iload hx hb dX8_reads__21 (lv_at hl 0 rfl) ?_
    refine lv_if_eq (tgt := 120) hx hb dX8_reads__23 (by decide) (fun c9 => absurd c9 (by decide)) (fun _ => ?_)
    refine lv_iload_n hx hb dX8_reads__26 rfl (lv_at hl 1 rfl) ?_
    refine lv_iconst (v := (-1)) hx hb dX8_reads__27 (by decide) ?_
    refine lv_icmp_ne (tgt := 46) hx hb dX8_reads__28 (by decide) (fun c9 => absurd (by decide) c9) (fun _ => ?_)
    refine lv_aload_n hx hb dX8_reads__31 rfl (lv_at hl 2 rfl) ?_
    refine va_get (D := D) (ci := 8) (v := .ref mb) (C := RX8) (T := TX8) (N := 12) hx hb ht inA_X8 hown hK hP 0 rfl rfl 2 (by decide) (ht _ lf_X8_13) (fun _ h9 => h9) rfl dX8_reads__32 ?_
    refine lv_aload_n hx hb dX8_reads__35 rfl (lv_at hl 2 rfl) ?_
    refine va_get (D := D) (ci := 8) (v := .int (nI i)) (C := RX8) (T := TX8) (N := 12) hx hb ht inA_X8 hown hK hP 0 rfl rfl 9 (by decide) (ht _ lf_X8_150) (fun _ h9 => h9) rfl dX8_reads__36 ?_
    refine va_cald hx hb hK hP 1 0 rfl rfl (vp_in_nI (by omega) (by decide)) dX8_reads__39 ?_
    refine k_nrm (y := (tx i)) (by rw [nI_clamp (by omega)]; exact hcf _ (by omega)) ?_
    refine lv_bipush (v := 48) hx hb dX8_reads__40 (by decide) ?_
    refine lv_isub hx hb dX8_reads__42 ?_
    refine k_nrm (y := (tx i - 48)) (rfl) ?_
    refine lv_goto (tgt := 63) hx hb dX8_reads__43 (by decide) ?_
    refine lv_istore_n (lv' := [(3, .int (tx i - 48)), (4, .int 1), (0, .ref mo), (1, .int 1), (2, .int 50)]) hx hb dX8_reads__63 rfl hl (by decide) rfl (fun ls hl => ?_)
    refine lv_aload_n hx hb dX8_reads__64 rfl (lv_at hl 2 rfl) ?_
    refine lv_dup hx hb dX8_reads__65 rfl ?_
    refine va_get (D := D) (ci := 8) (v := .int (nI i)) (C := RX8) (T := TX8) (N := 12) hx hb ht inA_X8 hown hK hP 0 rfl rfl 9 (by decide) (ht _ lf_X8_150) (fun _ h9 => h9) rfl dX8_reads__66 ?_
    refine lv_iconst (v := 1) hx hb dX8_reads__69 (by decide) ?_
    refine lv_iadd hx hb dX8_reads__70 ?_
    refine k_nrm (y := (nI (i + 1))) (nI_1 i) ?_
    refine va_put (D := D) (ci := 8) (v := .int (nI (i + 1))) (ty := .int) (C := RX8) (T := TX8) (N := 12) hx hb ht inA_X8 tyX8 tyX8_ok nmX8 hown hK hP hD hS 0 rfl rfl 9 (by decide) (ht _ lf_X8_150) (fun _ h9 => h9) rfl (tyX8_ok 9 (by decide)) rfl rfl (Nat.le_of_ble_eq_true rfl) dX8_reads__71 (fun H locs hP hD hS => ?_)
    have hP : va_P D vwCl [(mo, .inr (8, [.ref ms, .int sv, .ref mb, .int (nI ty), .int th, .ref mk, .int ml, .ref mfd, .int mf, .int (nI (i + 1)), .int on, .int tw])), (mb, .inl (KC, 60, .inl bf))] H := hP
    have hD : va_D A [(mo, .inr (8, [.ref ms, .int sv, .ref mb, .int (nI ty), .int th, .ref mk, .int ml, .ref mfd, .int mf, .int (nI (i + 1)), .int on, .int tw])), (mb, .inl (KC, 60, .inl bf))] := hD
    refine lv_iload_n hx hb dX8_reads__74 rfl (lv_at hl 0 rfl) ?_
    refine lv_if_le (tgt := 114) hx hb dX8_reads__75 (by decide) (fun c_7 => ?_) (fun c_7 => ?_)
    · have hc9 := c_7
      refine lv_iconst (v := 0) hx hb dX8_reads__114 (by decide) ?_
      refine lv_istore (lv' := [(4, .int 0), (3, .int (tx i - 48)), (0, .ref mo), (1, .int 1), (2, .int 50)]) hx hb dX8_reads__115 hl (by decide) rfl (fun ls hl => ?_)
      refine lv_goto (tgt := 21) hx hb dX8_reads__117 (by decide) ?_
      refine lv_iload hx hb dX8_reads__21 (lv_at hl 0 rfl) ?_
      refine lv_if_eq (tgt := 120) hx hb dX8_reads__23 (by decide) (fun _ => ?_) (fun c9 => absurd (by decide) c9)
      refine lv_iload_n hx hb dX8_reads__120 rfl (lv_at hl 1 rfl) ?_
      have hP9 : va_P D vwCl [(mo, .inr (8, [.ref ms, .int sv, .ref mb, .int (nI ty), .int th, .ref mk, .int ml, .ref mfd, .int mf, .int (nI (i + 1)), .int on, .int tw])), (mb, .inl (KC, 60, .inl bf))] H := hP.sub [0, 1] rfl
      have hD9 : va_D A [(mo, .inr (8, [.ref ms, .int sv, .ref mb, .int (nI ty), .int th, .ref mk, .int ml, .ref mfd, .int mf, .int (nI (i + 1)), .int on, .int tw])), (mb, .inl (KC, 60, .inl bf))] := hD.sub [0, 1] (by decide) rfl
      have hK9 : va_K D vwCl [] s := hK.sub [] rfl
      exact W.iret (v := (tx i - 48)) hx hb hr (fun t ht9 hW9 => ⟨⟨(tx i - 48), i + 1, rfl, by (exact Or.inr (Or.inl ⟨c_3, c_4, c_5, rfl, rfl, Or.inl c_7⟩)), ⟨by rw [ht9]; exact hP9, va_K.moved hW9.alike hK9, hD9⟩⟩, hS.F ht9⟩) hS.2.2 dX8_reads__121
    · have hc9 := c_7
      refine lv_aload_n hx hb dX8_reads__78 rfl (lv_at hl 2 rfl) ?_
      refine lv_bipush (v := 48) hx hb dX8_reads__79 (by decide) ?_
      refine lv_bipush (v := 57) hx hb dX8_reads__81 (by decide) ?_
      have ct := k_cut_of (wc := [(mo, .inr (8, [.ref ms, .int sv, .ref mb, .int (nI ty), .int th, .ref mk, .int ml, .ref mfd, .int mf, .int (nI (i + 1)), .int on, .int tw])), (mb, .inl (KC, 60, .inl bf))]) (wr := []) (tc := [(KC, .char)]) hG hS hA hK hP hD [0, 1] [] [0] rfl rfl (by decide) (by decide) (by decide) rfl
      refine k_endi (As := [.ref mo, .int 48, .int 57]) ct (k_runV (As := [.int 48, .int 57]) (rest := []) S0 Lv_X8_153 rfl (ci := 8) (q0 := 0) rfl rfl ct (c_M_isHere l D mo ms sv mb ty th mk ml mfd mf (i + 1) on tw KC bf tx 48 57 (by assumption) (by first | assumption | omega) (by first | assumption | omega) H.size) hl.1 rfl (Nat.le_of_ble_eq_true rfl) rfl dX8_reads__83 ⟨⟨Nat.le_of_ble_eq_true rfl, Nat.le_of_ble_eq_true rfl⟩, Nat.le_of_ble_eq_true rfl, Nat.le_of_ble_eq_true rfl⟩) rfl rfl (fun r_8 _ H locs hw_9 hP hD hK hS => ?_)
      have hK : va_K D vwCl [(KC, .char)] s := hK
      have hP : va_P D vwCl [(mo, .inr (8, [.ref ms, .int sv, .ref mb, .int (nI ty), .int th, .ref mk, .int ml, .ref mfd, .int mf, .int (nI (i + 1)), .int on, .int tw])), (mb, .inl (KC, 60, .inl bf))] H := hP
      have hD : va_D A [(mo, .inr (8, [.ref ms, .int sv, .ref mb, .int (nI ty), .int th, .ref mk, .int ml, .ref mfd, .int mf, .int (nI (i + 1)), .int on, .int tw])), (mb, .inl (KC, 60, .inl bf))] := hD
      rcases hw_9 with ⟨hr9, c_10, c_11, c_12⟩ | ⟨hr9, c_13⟩
      · subst hr9
        refine lv_if_eq (tgt := 114) hx hb dX8_reads__86 (by decide) (fun c9 => absurd c9 (by decide)) (fun _ => ?_)
        refine lv_bipush (v := 10) hx hb dX8_reads__89 (by decide) ?_
        refine lv_iload_n hx hb dX8_reads__91 rfl (lv_at hl 0 rfl) ?_
        refine lv_imul hx hb dX8_reads__92 ?_
        refine k_nrm (y := (10 * (tx i - 48))) (rfl) ?_
        refine lv_aload_n hx hb dX8_reads__93 rfl (lv_at hl 2 rfl) ?_
        refine va_get (D := D) (ci := 8) (v := .ref mb) (C := RX8) (T := TX8) (N := 12) hx hb ht inA_X8 hown hK hP 0 rfl rfl 2 (by decide) (ht _ lf_X8_13) (fun _ h9 => h9) rfl dX8_reads__94 ?_
        refine lv_aload_n hx hb dX8_reads__97 rfl (lv_at hl 2 rfl) ?_
        refine va_get (D := D) (ci := 8) (v := .int (nI (i + 1))) (C := RX8) (T := TX8) (N := 12) hx hb ht inA_X8 hown hK hP 0 rfl rfl 9 (by decide) (ht _ lf_X8_150) (fun _ h9 => h9) rfl dX8_reads__98 ?_
        refine va_cald hx hb hK hP 1 0 rfl rfl (vp_in_nI (by omega) (by decide)) dX8_reads__101 ?_
        refine k_nrm (y := (tx (i + 1))) (by rw [nI_clamp (by omega)]; exact hcf _ (by omega)) ?_
        refine lv_iadd hx hb dX8_reads__102 ?_
        refine k_nrm (y := ((10 * (tx i - 48)) + (tx (i + 1)))) (rfl) ?_
        refine lv_bipush (v := 48) hx hb dX8_reads__103 (by decide) ?_
        refine lv_isub hx hb dX8_reads__105 ?_
        refine k_nrm (y := (10 * (tx i - 48) + tx (i + 1) - 48)) (rfl) ?_
        refine lv_iload_n hx hb dX8_reads__106 rfl (lv_at hl 4 rfl) ?_
        refine lv_icmp_gt (tgt := 114) hx hb dX8_reads__107 (by decide) (fun c_14 => ?_) (fun c_14 => ?_)
        · have hc9 := c_14
          refine lv_iconst (v := 0) hx hb dX8_reads__114 (by decide) ?_
          refine lv_istore (lv' := [(4, .int 0), (3, .int (tx i - 48)), (0, .ref mo), (1, .int 1), (2, .int 50)]) hx hb dX8_reads__115 hl (by decide) rfl (fun ls hl => ?_)
          refine lv_goto (tgt := 21) hx hb dX8_reads__117 (by decide) ?_
          refine lv_iload hx hb dX8_reads__21 (lv_at hl 0 rfl) ?_
          refine lv_if_eq (tgt := 120) hx hb dX8_reads__23 (by decide) (fun _ => ?_) (fun c9 => absurd (by decide) c9)
          refine lv_iload_n hx hb dX8_reads__120 rfl (lv_at hl 1 rfl) ?_
          have hP9 : va_P D vwCl [(mo, .inr (8, [.ref ms, .int sv, .ref mb, .int (nI ty), .int th, .ref mk, .int ml, .ref mfd, .int mf, .int (nI (i + 1)), .int on, .int tw])), (mb, .inl (KC, 60, .inl bf))] H := hP.sub [0, 1] rfl
          have hD9 : va_D A [(mo, .inr (8, [.ref ms, .int sv, .ref mb, .int (nI ty), .int th, .ref mk, .int ml, .ref mfd, .int mf, .int (nI (i + 1)), .int on, .int tw])), (mb, .inl (KC, 60, .inl bf))] := hD.sub [0, 1] (by decide) rfl
          have hK9 : va_K D vwCl [] s := hK.sub [] rfl
          exact W.iret (v := (tx i - 48)) hx hb hr (fun t ht9 hW9 => ⟨⟨(tx i - 48), i + 1, rfl, by (exact Or.inr (Or.inl ⟨c_3, c_4, c_5, rfl, rfl, Or.inr (Or.inr c_14)⟩)), ⟨by rw [ht9]; exact hP9, va_K.moved hW9.alike hK9, hD9⟩⟩, hS.F ht9⟩) hS.2.2 dX8_reads__121
        · have hc9 := c_14
          refine lv_iconst (v := 1) hx hb dX8_reads__110 (by decide) ?_
          refine lv_goto (tgt := 115) hx hb dX8_reads__111 (by decide) ?_
          refine lv_istore (lv' := [(4, .int 1), (3, .int (tx i - 48)), (0, .ref mo), (1, .int 1), (2, .int 50)]) hx hb dX8_reads__115 hl (by decide) rfl (fun ls hl => ?_)
          refine lv_goto (tgt := 21) hx hb dX8_reads__117 (by decide) ?_
          refine lv_iload hx hb dX8_reads__21 (lv_at hl 0 rfl) ?_
          refine lv_if_eq (tgt := 120) hx hb dX8_reads__23 (by decide) (fun c9 => absurd c9 (by decide)) (fun _ => ?_)
          refine lv_iload_n hx hb dX8_reads__26 rfl (lv_at hl 1 rfl) ?_
          refine lv_iconst (v := (-1)) hx hb dX8_reads__27 (by decide) ?_
          refine lv_icmp_ne (tgt := 46) hx hb dX8_reads__28 (by decide) (fun c_15 => ?_) (fun c9 => absurd c9 (c_ne1 hlo9 c_4 c_5))
          refine lv_bipush (v := 10) hx hb dX8_reads__46 (by decide) ?_
          refine lv_iload_n hx hb dX8_reads__48 rfl (lv_at hl 1 rfl) ?_
          refine lv_imul hx hb dX8_reads__49 ?_
          refine k_nrm (y := (10 * (tx i - 48))) (rfl) ?_
          refine lv_aload_n hx hb dX8_reads__50 rfl (lv_at hl 2 rfl) ?_
          refine va_get (D := D) (ci := 8) (v := .ref mb) (C := RX8) (T := TX8) (N := 12) hx hb ht inA_X8 hown hK hP 0 rfl rfl 2 (by decide) (ht _ lf_X8_13) (fun _ h9 => h9) rfl dX8_reads__51 ?_
          refine lv_aload_n hx hb dX8_reads__54 rfl (lv_at hl 2 rfl) ?_
          refine va_get (D := D) (ci := 8) (v := .int (nI (i + 1))) (C := RX8) (T := TX8) (N := 12) hx hb ht inA_X8 hown hK hP 0 rfl rfl 9 (by decide) (ht _ lf_X8_150) (fun _ h9 => h9) rfl dX8_reads__55 ?_
          refine va_cald hx hb hK hP 1 0 rfl rfl (vp_in_nI (by omega) (by decide)) dX8_reads__58 ?_
          refine k_nrm (y := (tx (i + 1))) (by rw [nI_clamp (by omega)]; exact hcf _ (by omega)) ?_
          refine lv_iadd hx hb dX8_reads__59 ?_
          refine k_nrm (y := ((10 * (tx i - 48)) + (tx (i + 1)))) (rfl) ?_
          refine lv_bipush (v := 48) hx hb dX8_reads__60 (by decide) ?_
          refine lv_isub hx hb dX8_reads__62 ?_
          refine k_nrm (y := (10 * (tx i - 48) + tx (i + 1) - 48)) (rfl) ?_
          refine lv_istore_n (lv' := [(3, .int (10 * (tx i - 48) + tx (i + 1) - 48)), (4, .int 1), (0, .ref mo), (1, .int 1), (2, .int 50)]) hx hb dX8_reads__63 rfl hl (by decide) rfl (fun ls hl => ?_)
          refine lv_aload_n hx hb dX8_reads__64 rfl (lv_at hl 2 rfl) ?_
          refine lv_dup hx hb dX8_reads__65 rfl ?_
          refine va_get (D := D) (ci := 8) (v := .int (nI (i + 1))) (C := RX8) (T := TX8) (N := 12) hx hb ht inA_X8 hown hK hP 0 rfl rfl 9 (by decide) (ht _ lf_X8_150) (fun _ h9 => h9) rfl dX8_reads__66 ?_
          refine lv_iconst (v := 1) hx hb dX8_reads__69 (by decide) ?_
          refine lv_iadd hx hb dX8_reads__70 ?_
          refine k_nrm (y := (nI (i + 2))) (nI_1 (i + 1)) ?_
          refine va_put (D := D) (ci := 8) (v := .int (nI (i + 2))) (ty := .int) (C := RX8) (T := TX8) (N := 12) hx hb ht inA_X8 tyX8 tyX8_ok nmX8 hown hK hP hD hS 0 rfl rfl 9 (by decide) (ht _ lf_X8_150) (fun _ h9 => h9) rfl (tyX8_ok 9 (by decide)) rfl rfl (Nat.le_of_ble_eq_true rfl) dX8_reads__71 (fun H locs hP hD hS => ?_)
          have hP : va_P D vwCl [(mo, .inr (8, [.ref ms, .int sv, .ref mb, .int (nI ty), .int th, .ref mk, .int ml, .ref mfd, .int mf, .int (nI (i + 2)), .int on, .int tw])), (mb, .inl (KC, 60, .inl bf))] H := hP
          have hD : va_D A [(mo, .inr (8, [.ref ms, .int sv, .ref mb, .int (nI ty), .int th, .ref mk, .int ml, .ref mfd, .int mf, .int (nI (i + 2)), .int on, .int tw])), (mb, .inl (KC, 60, .inl bf))] := hD
          refine lv_iload_n hx hb dX8_reads__74 rfl (lv_at hl 0 rfl) ?_
          refine lv_if_le (tgt := 114) hx hb dX8_reads__75 (by decide) (fun c9 => absurd c9 ((v2_pos hlo9 c_4 c_5 c_7 c_11 c_12).1)) (fun c_16 => ?_)
          refine lv_aload_n hx hb dX8_reads__78 rfl (lv_at hl 2 rfl) ?_
          refine lv_bipush (v := 48) hx hb dX8_reads__79 (by decide) ?_
          refine lv_bipush (v := 57) hx hb dX8_reads__81 (by decide) ?_
          have ct := k_cut_of (wc := [(mo, .inr (8, [.ref ms, .int sv, .ref mb, .int (nI ty), .int th, .ref mk, .int ml, .ref mfd, .int mf, .int (nI (i + 2)), .int on, .int tw])), (mb, .inl (KC, 60, .inl bf))]) (wr := []) (tc := [(KC, .char)]) hG hS hA hK hP hD [0, 1] [] [0] rfl rfl (by decide) (by decide) (by decide) rfl
          refine k_endi (As := [.ref mo, .int 48, .int 57]) ct (k_runV (As := [.int 48, .int 57]) (rest := []) S0 Lv_X8_153 rfl (ci := 8) (q0 := 0) rfl rfl ct (c_M_isHere l D mo ms sv mb ty th mk ml mfd mf (i + 2) on tw KC bf tx 48 57 (by assumption) (by first | assumption | omega) (by first | assumption | omega) H.size) hl.1 rfl (Nat.le_of_ble_eq_true rfl) rfl dX8_reads__83 ⟨⟨Nat.le_of_ble_eq_true rfl, Nat.le_of_ble_eq_true rfl⟩, Nat.le_of_ble_eq_true rfl, Nat.le_of_ble_eq_true rfl⟩) rfl rfl (fun r_17 _ H locs hw_18 hP hD hK hS => ?_)
          have hK : va_K D vwCl [(KC, .char)] s := hK
          have hP : va_P D vwCl [(mo, .inr (8, [.ref ms, .int sv, .ref mb, .int (nI ty), .int th, .ref mk, .int ml, .ref mfd, .int mf, .int (nI (i + 2)), .int on, .int tw])), (mb, .inl (KC, 60, .inl bf))] H := hP
          have hD : va_D A [(mo, .inr (8, [.ref ms, .int sv, .ref mb, .int (nI ty), .int th, .ref mk, .int ml, .ref mfd, .int mf, .int (nI (i + 2)), .int on, .int tw])), (mb, .inl (KC, 60, .inl bf))] := hD
          rcases hw_18 with ⟨hr9, c_19, c_20, c_21⟩ | ⟨hr9, c_22⟩
          · subst hr9
            refine lv_if_eq (tgt := 114) hx hb dX8_reads__86 (by decide) (fun c9 => absurd c9 (by decide)) (fun _ => ?_)
            refine lv_bipush (v := 10) hx hb dX8_reads__89 (by decide) ?_
            refine lv_iload_n hx hb dX8_reads__91 rfl (lv_at hl 0 rfl) ?_
            refine lv_imul hx hb dX8_reads__92 ?_
            refine k_nrm (y := (10 * (10 * (tx i - 48) + tx (i + 1) - 48))) (rfl) ?_
            refine lv_aload_n hx hb dX8_reads__93 rfl (lv_at hl 2 rfl) ?_
            refine va_get (D := D) (ci := 8) (v := .ref mb) (C := RX8) (T := TX8) (N := 12) hx hb ht inA_X8 hown hK hP 0 rfl rfl 2 (by decide) (ht _ lf_X8_13) (fun _ h9 => h9) rfl dX8_reads__94 ?_
            refine lv_aload_n hx hb dX8_reads__97 rfl (lv_at hl 2 rfl) ?_
            refine va_get (D := D) (ci := 8) (v := .int (nI (i + 2))) (C := RX8) (T := TX8) (N := 12) hx hb ht inA_X8 hown hK hP 0 rfl rfl 9 (by decide) (ht _ lf_X8_150) (fun _ h9 => h9) rfl dX8_reads__98 ?_
            refine va_cald hx hb hK hP 1 0 rfl rfl (vp_in_nI (by omega) (by decide)) dX8_reads__101 ?_
            refine k_nrm (y := (tx (i + 2))) (by rw [nI_clamp (by omega)]; exact hcf _ (by omega)) ?_
            refine lv_iadd hx hb dX8_reads__102 ?_
            refine k_nrm (y := ((10 * (10 * (tx i - 48) + tx (i + 1) - 48)) + (tx (i + 2)))) (rfl) ?_
            refine lv_bipush (v := 48) hx hb dX8_reads__103 (by decide) ?_
            refine lv_isub hx hb dX8_reads__105 ?_
            refine k_nrm (y := (((10 * (10 * (tx i - 48) + tx (i + 1) - 48)) + (tx (i + 2))) - 48)) (rfl) ?_
            refine lv_iload_n hx hb dX8_reads__106 rfl (lv_at hl 4 rfl) ?_
            refine lv_icmp_gt (tgt := 114) hx hb dX8_reads__107 (by decide) (fun c_23 => ?_) (fun c9 => absurd (gr_50 (by decide) ((v2_pos hlo9 c_4 c_5 c_7 c_11 c_12).2 _ c_20 c_21)) c9)
            refine lv_iconst (v := 0) hx hb dX8_reads__114 (by decide) ?_
            refine lv_istore (lv' := [(4, .int 0), (3, .int (10 * (tx i - 48) + tx (i + 1) - 48)), (0, .ref mo), (1, .int 1), (2, .int 50)]) hx hb dX8_reads__115 hl (by decide) rfl (fun ls hl => ?_)
            refine lv_goto (tgt := 21) hx hb dX8_reads__117 (by decide) ?_
            refine lv_iload hx hb dX8_reads__21 (lv_at hl 0 rfl) ?_
            refine lv_if_eq (tgt := 120) hx hb dX8_reads__23 (by decide) (fun _ => ?_) (fun c9 => absurd (by decide) c9)
            refine lv_iload_n hx hb dX8_reads__120 rfl (lv_at hl 1 rfl) ?_
            have hP9 : va_P D vwCl [(mo, .inr (8, [.ref ms, .int sv, .ref mb, .int (nI ty), .int th, .ref mk, .int ml, .ref mfd, .int mf, .int (nI (i + 2)), .int on, .int tw])), (mb, .inl (KC, 60, .inl bf))] H := hP.sub [0, 1] rfl
            have hD9 : va_D A [(mo, .inr (8, [.ref ms, .int sv, .ref mb, .int (nI ty), .int th, .ref mk, .int ml, .ref mfd, .int mf, .int (nI (i + 2)), .int on, .int tw])), (mb, .inl (KC, 60, .inl bf))] := hD.sub [0, 1] (by decide) rfl
            have hK9 : va_K D vwCl [] s := hK.sub [] rfl
            exact W.iret (v := (10 * (tx i - 48) + tx (i + 1) - 48)) hx hb hr (fun t ht9 hW9 => ⟨⟨(10 * (tx i - 48) + tx (i + 1) - 48), i + 2, rfl, by (exact Or.inr (Or.inr ⟨c_10, c_4, c_5, c_11, c_12, c_7, rfl, fa_of_nlt c_14, rfl⟩)), ⟨by rw [ht9]; exact hP9, va_K.moved hW9.alike hK9, hD9⟩⟩, hS.F ht9⟩) hS.2.2 dX8_reads__121
          · subst hr9
            refine lv_if_eq (tgt := 114) hx hb dX8_reads__86 (by decide) (fun _ => ?_) (fun c9 => absurd (by decide) c9)
            refine lv_iconst (v := 0) hx hb dX8_reads__114 (by decide) ?_
            refine lv_istore (lv' := [(4, .int 0), (3, .int (10 * (tx i - 48) + tx (i + 1) - 48)), (0, .ref mo), (1, .int 1), (2, .int 50)]) hx hb dX8_reads__115 hl (by decide) rfl (fun ls hl => ?_)
            refine lv_goto (tgt := 21) hx hb dX8_reads__117 (by decide) ?_
            refine lv_iload hx hb dX8_reads__21 (lv_at hl 0 rfl) ?_
            refine lv_if_eq (tgt := 120) hx hb dX8_reads__23 (by decide) (fun _ => ?_) (fun c9 => absurd (by decide) c9)
            refine lv_iload_n hx hb dX8_reads__120 rfl (lv_at hl 1 rfl) ?_
            have hP9 : va_P D vwCl [(mo, .inr (8, [.ref ms, .int sv, .ref mb, .int (nI ty), .int th, .ref mk, .int ml, .ref mfd, .int mf, .int (nI (i + 2)), .int on, .int tw])), (mb, .inl (KC, 60, .inl bf))] H := hP.sub [0, 1] rfl
            have hD9 : va_D A [(mo, .inr (8, [.ref ms, .int sv, .ref mb, .int (nI ty), .int th, .ref mk, .int ml, .ref mfd, .int mf, .int (nI (i + 2)), .int on, .int tw])), (mb, .inl (KC, 60, .inl bf))] := hD.sub [0, 1] (by decide) rfl
            have hK9 : va_K D vwCl [] s := hK.sub [] rfl
            exact W.iret (v := (10 * (tx i - 48) + tx (i + 1) - 48)) hx hb hr (fun t ht9 hW9 => ⟨⟨(10 * (tx i - 48) + tx (i + 1) - 48), i + 2, rfl, by (exact Or.inr (Or.inr ⟨c_10, c_4, c_5, c_11, c_12, c_7, rfl, fa_of_nlt c_14, rfl⟩)), ⟨by rw [ht9]; exact hP9, va_K.moved hW9.alike hK9, hD9⟩⟩, hS.F ht9⟩) hS.2.2 dX8_reads__121
      · subst hr9
        refine lv_if_eq (tgt := 114) hx hb dX8_reads__86 (by decide) (fun _ => ?_) (fun c9 => absurd (by decide) c9)
        refine lv_iconst (v := 0) hx hb dX8_reads__114 (by decide) ?_
        refine lv_istore (lv' := [(4, .int 0), (3, .int (tx i - 48)), (0, .ref mo), (1, .int 1), (2, .int 50)]) hx hb dX8_reads__115 hl (by decide) rfl (fun ls hl => ?_)
        refine lv_goto (tgt := 21) hx hb dX8_reads__117 (by decide) ?_
        refine lv_iload hx hb dX8_reads__21 (lv_at hl 0 rfl) ?_
        refine lv_if_eq (tgt := 120) hx hb dX8_reads__23 (by decide) (fun _ => ?_) (fun c9 => absurd (by decide) c9)
        refine lv_iload_n hx hb dX8_reads__120 rfl (lv_at hl 1 rfl) ?_
        have hP9 : va_P D vwCl [(mo, .inr (8, [.ref ms, .int sv, .ref mb, .int (nI ty), .int th, .ref mk, .int ml, .ref mfd, .int mf, .int (nI (i + 1)), .int on, .int tw])), (mb, .inl (KC, 60, .inl bf))] H := hP.sub [0, 1] rfl
        have hD9 : va_D A [(mo, .inr (8, [.ref ms, .int sv, .ref mb, .int (nI ty), .int th, .ref mk, .int ml, .ref mfd, .int mf, .int (nI (i + 1)), .int on, .int tw])), (mb, .inl (KC, 60, .inl bf))] := hD.sub [0, 1] (by decide) rfl
        have hK9 : va_K D vwCl [] s := hK.sub [] rfl
        exact W.iret (v := (tx i - 48)) hx hb hr (fun t ht9 hW9 => ⟨⟨(tx i - 48), i + 1, rfl, by (exact Or.inr (Or.inl ⟨c_3, c_4, c_5, rfl, rfl, Or.inr (Or.inl c_13)⟩)), ⟨by rw [ht9]; exact hP9, va_K.moved hW9.alike hK9, hD9⟩⟩, hS.F ht9⟩) hS.2.2 dX8_reads__121
  · subst hr9
    refine lv_istore (lv' := [(4, .int 0), (3, .int (-1)), (0, .ref mo), (1, .int 1), (2, .int 50)]) hx hb dX8_reads__19 hl (by decide) rfl (fun ls hl => ?_)
    refine lv_iload hx hb dX8_reads__21 (lv_at hl 0 rfl) ?_
    refine lv_if_eq (tgt := 120) hx hb dX8_reads__23 (by decide) (fun _ => ?_) (fun c9 => absurd (by decide) c9)
    refine lv_iload_n hx hb dX8_reads__120 rfl (lv_at hl 1 rfl) ?_
    have hP9 : va_P D vwCl [(mo, .inr (8, [.ref ms, .int sv, .ref mb, .int (nI ty), .int th, .ref mk, .int ml, .ref mfd, .int mf, .int (nI i), .int on, .int tw])), (mb, .inl (KC, 60, .inl bf))] H := hP.sub [0, 1] rfl
    have hD9 : va_D A [(mo, .inr (8, [.ref ms, .int sv, .ref mb, .int (nI ty), .int th, .ref mk, .int ml, .ref mfd, .int mf, .int (nI i), .int on, .int tw])), (mb, .inl (KC, 60, .inl bf))] := hD.sub [0, 1] (by decide) rfl
    have hK9 : va_K D vwCl [] s := hK.sub [] rfl
    exact W.iret (v := (-1)) hx hb hr (fun t ht9 hW9 => ⟨⟨(-1), i, rfl, by (exact Or.inl ⟨rfl, rfl, c_6⟩), ⟨by rw [ht9]; exact hP9, va_K.moved hW9.alike hK9, hD9⟩⟩, hS.F ht9⟩) hS.2.2 dX8_reads__121
